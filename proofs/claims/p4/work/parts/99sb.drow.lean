/-! ===== the deeds: rows ===== -/
section
variable {wF : Prop × (Nat → Int32) × Int32 × (Nat → Int32)} {x : Nat} {S S1 S2 S3 : Cst} {T T1 T2 : Nat → List Nat} {col c1 : Nat → Nat} {H H2 H3 : HS} {N : Int} {D : Nat → Prop}
/-- motions' own numbers are the same -/
def cH (H2 H : HS) : Prop := H2.1 0 = H.1 0 ∧ ∀ k, 14 ≤ k → k ≤ 29 → H2.2 k = H.2 k
theorem mR.c {q m : Nat} (h : mR S1 q H m) (hs : ∀ j, j < 4 → ∀ k, giC S2 (q + j) k = giC S1 (q + j) k) (s : cH H2 H) : mR S2 q H2 m :=
  h.cg hs s.1 (fun k h1 h2 => by rw [s.2 k h1 (by omega)]) (fun i _ => by rw [s.2 28 (by omega) (by omega)]) (fun i _ => by rw [s.2 29 (by omega) (by omega)])
/-- a motion's cells, where those of D were written -/
theorem gX.mo4 (g : gX D S1 S2) (wf : wfS S1) {q : Nat} (k : iK S1 q 3) (n : ∀ j, j < 4 → ¬ D (q + j)) : ∀ j, j < 4 → ∀ i, giC S2 (q + j) i = giC S1 (q + j) i := by
  obtain ⟨k1, k2, k3⟩ := W3k wf k
  intro j hj i
  rcases (show j = 0 ∨ j = 1 ∨ j = 2 ∨ j = 3 by omega) with rfl | rfl | rfl | rfl
  · exact g.2.1 _ k.1 (by rw [k.2]; decide) (n 0 (by omega)) i
  · exact g.2.1 _ k1.1 (by rw [k1.2]; decide) (n 1 (by omega)) i
  · exact g.2.1 _ k2.1 (by rw [k2.2]; decide) (n 2 (by omega)) i
  · exact g.2.1 _ k3.1 (by rw [k3.2]; decide) (n 3 (by omega)) i
theorem hR.gx (r : hR S1 x H) (g : gX D S1 S2) (ci : CI noE S1 T1 [] c1) (kx : iK S1 x 0) (n37 : ¬ D (x + 37)) (n38 : ¬ D (x + 38)) (n39 : ¬ D (x + 39)) (e : ∀ k, k ≤ 5 → H2.1 k = H.1 k) (e2 : H2.2 11 = H.2 11 ∧ H2.2 12 = H.2 12) : hR S2 x H2 := by
  obtain ⟨⟨p1, p2, p3, p4, p5, p6⟩, p7, p8, p9⟩ := r
  have h1 : iK S1 (x + 37) 1 := (ci.wf.w0 kx).1.1
  have h2 : iK S1 (x + 38) 21 := (ci.wf.w1 h1).1.1
  have h3 : iK S1 (x + 39) 20 := (ci.wf.w1 h1).1.2.2.1
  have f37 := g.2.1 _ h1.1 (by rw [h1.2]; decide) n37
  have f38 := g.2.1 _ h2.1 (by rw [h2.2]; decide) n38
  have f39 := g.2.1 _ h3.1 (by rw [h3.2]; decide) n39
  exact ⟨⟨by rw [f37, e 0 (by omega)]; exact p1, by rw [f37, e 1 (by omega)]; exact p2, by rw [f37, e 2 (by omega)]; exact p3, by rw [f37, e 3 (by omega)]; exact p4, by rw [f37, e 4 (by omega)]; exact p5, by rw [f37, e 5 (by omega)]; exact p6⟩, fun y hy ht => by rw [f38, e2.1]; rw [e 0 (by omega)] at ht; exact p7 y hy ht, fun y hy => by rw [f39, e2.2]; exact p8 y hy, by rw [e 4 (by omega), e 0 (by omega), e2.1]; exact p9⟩
theorem jR.gx (j : jR wF S1 x H) (g : gX D S1 S2) (ci : CI noE S1 T1 [] c1) (kx : iK S1 x 0) (n : ∀ l, l = x + 7 ∨ l = x + 9 → ¬ D l ∧ ¬ D ((grC S1 l 2).getD 0)) (h7 : H2.1 7 = H.1 7) (h8 : H2.1 8 = H.1 8) (e40 : H2.2 40 = H.2 40) (e41 : H2.2 41 = H.2 41) : jR wF S2 x H2 := by
  obtain ⟨⟨a1, a2, a3⟩, ⟨b1, b2, b3⟩, ⟨c1', c2⟩, d1, d2, d3, d4, d5, d6⟩ := j
  have key : ∀ l, l = x + 7 ∨ l = x + 9 → (∀ k, giC S2 l k = giC S1 l k) ∧ grC S2 l 2 = grC S1 l 2 ∧ (∀ k, giC S2 ((grC S1 l 2).getD 0) k = giC S1 ((grC S1 l 2).getD 0) k) ∧ lcl S2 l = lcl S1 l ∧ (oz S1 l → oz S2 l) := fun l hl => by
    obtain ⟨kl, kz⟩ := zl_k ci kx hl
    have gr := g.2.2 l kl.1 kl.2
    refine ⟨g.2.1 l kl.1 (by rw [kl.2]; decide) (n l hl).1, gr, g.2.1 _ kz.1 (by rw [kz.2]; decide) (n l hl).2, ?_, fun o q k => ?_⟩
    · unfold lcl
      rw [gr]
      exact (g.1.2 _ kz.1).2
    · rw [gr]
      by_cases y : q < S1.1
      · exact o q ⟨y, by rw [← (g.1.2 q y).1]; exact k.2⟩
      · have := kz.1
        omega
  obtain ⟨u1, u2, u3, u4, u5⟩ := key (x + 7) (Or.inl rfl)
  obtain ⟨v1, v2, v3, v4, v5⟩ := key (x + 9) (Or.inr rfl)
  refine ⟨⟨by rw [u1, h7]; exact a1, by rw [u4, h7]; exact a2, fun i k hi hk' => ?_⟩, ⟨by rw [v1, h8]; exact b1, by rw [v4, h8]; exact b2, fun i k hi hk' => ?_⟩, ⟨by rw [u1]; exact c1', by rw [v1]; exact c2⟩, u5 d1, v5 d2, by rw [u2, v2]; exact d3, by rw [u2]; exact d4, by rw [v2]; exact d5, fun i hi => by rw [u2, u3]; exact d6 i (by rw [← h7]; exact hi)⟩
  · rw [h7] at hi
    rw [u2, u3, e40]
    exact a3 i k hi hk'
  · rw [h8] at hi
    rw [v2, v3, e41]
    exact b3 i k hi hk'
theorem aR.gx (a : aR wF S1 x H) (g : gX D S1 S2) (ci : CI noE S1 T1 [] c1) (kx : iK S1 x 0) (n0 : ¬ D x) (n11 : ¬ D (x + 11)) (n12 : ¬ D (x + 12)) (e9 : H2.1 9 = H.1 9) (e10 : H2.1 10 = H.1 10) (e39 : H2.1 39 = H.1 39) (e8 : (H.1 8).toInt ≤ (H2.1 8).toInt) (e38 : H2.2 38 = H.2 38) : aR wF S2 x H2 := by
  have h11 : iK S1 (x + 11) 6 := (ci.wf.w0 kx).1.2.2.2.2.2.2
  have h12 : iK S1 (x + 12) 20 := (ci.wf.w6 h11).1.1
  have f0 := g.2.1 x kx.1 (by rw [kx.2]; decide) n0
  exact a.cg (f0 7) (f0 9) (g.2.1 _ h11.1 (by rw [h11.2]; decide) n11 1) (g.2.1 _ h12.1 (by rw [h12.2]; decide) n12) e9 e10 e39 e8 e38
/-- motions that go from row to row as they are -/
theorem wR.gx (w : wR S1 T1 x H) (s : cH H2 H) (hr : ∀ g, g < 10 → ((T2 (rP x g)).length : Int) = hN H2 g ∧ ∀ i, i < (T2 (rP x g)).length → ∃ g' i', g' < 10 ∧ i' < (T1 (rP x g')).length ∧ (T2 (rP x g)).getD i 0 = (T1 (rP x g')).getD i' 0 ∧ hM H2 g i = hM H g' i') (hm : mQ T1 x S1 S2) : wR S2 T2 x H2 := by
  intro g hg
  obtain ⟨h1, h2⟩ := hr g hg
  refine ⟨h1, fun i hi => ?_⟩
  obtain ⟨g', i', hg', hi', e1, e2⟩ := h2 i hi
  rw [e1, e2]
  exact ((w g' hg').2 i' hi').c (hm g' hg' _ (gD_mem hi')) s
theorem sV.gx (v : sV S1) (g : gX D S1 S2) (wf : wfS S1) (n : ∀ q, iK S1 q 3 → ∀ j, j < 4 → ¬ D (q + j)) (hk : ∀ q, iK S2 q 3 → iK S1 q 3) : sV S2 := fun q k => by
  have kq := hk q k
  have c := g.mo4 wf kq (n q kq)
  rw [vCn_cg (c 3 (by omega)), show giC S2 q 14 = giC S1 q 14 from c 0 (by omega) 14]
  exact v q kq
theorem gD_drop {l : List Nat} {i : Nat} (h : i < l.dropLast.length) : l.dropLast.getD i 0 = l.getD i 0 := by
  have h2 : i < l.length := by
    rw [List.length_dropLast] at h
    omega
  rw [List.getD_eq_getElem?_getD, List.getD_eq_getElem?_getD, List.getElem?_eq_getElem h, List.getElem?_eq_getElem h2, List.getElem_dropLast]
end
