section
/-! ===== the deeds: rows ===== -/
section
variable {wF : Prop × (Nat → Int32) × Int32 × (Nat → Int32)} {x : Nat} {S S1 S2 S3 : Cst} {T T1 T2 : Nat → List Nat} {col c1 : Nat → Nat} {H H2 H3 : HS} {N : Int} {D : Nat → Prop}
/-- motions' own numbers are the same -/
def cH (H2 H : HS) : Prop := H2.1 0 = H.1 0 ∧ ∀ k, 14 ≤ k → k ≤ 29 → H2.2 k = H.2 k
theorem mR.c {q m : Nat} (h : mR S1 q H m) (hs : ∀ j, j < 4 → ∀ k, giC S2 (q + j) k = giC S1 (q + j) k) (s : cH H2 H) : mR S2 q H2 m :=
  h.cg hs s.1 (fun k h1 h2 => by rw [s.2 k h1 (by omega)]) (fun i _ => by rw [s.2 28 (by omega) (by omega)]) (fun i _ => by rw [s.2 29 (by omega) (by omega)])
/-- a motion's cells, where those of D were written -/
theorem gX.mo4 (g : gX D S1 S2) (wf : wfS S1) {q : Nat} (k : iK S1 q 3) (n : ∀ j, j < 4 → ¬ D (q + j)) : ∀ j, j < 4 → ∀ i, giC S2 (q + j) i = giC S1 (q + j) i := by
  obtain ⟨k1, k2, k3⟩ := W3k wf k
  intro j hj i
  rcases (show j = 0 ∨ j = 1 ∨ j = 2 ∨ j = 3 by omega) with rfl | rfl | rfl | rfl
  · exact g.2.1 _ k.1 (by rw [k.2]; decide) (n 0 (by omega)) i
  · exact g.2.1 _ k1.1 (by rw [k1.2]; decide) (n 1 (by omega)) i
  · exact g.2.1 _ k2.1 (by rw [k2.2]; decide) (n 2 (by omega)) i
  · exact g.2.1 _ k3.1 (by rw [k3.2]; decide) (n 3 (by omega)) i
theorem hR.gx (r : hR S1 x H) (g : gX D S1 S2) (ci : CI noE S1 T1 [] c1) (kx : iK S1 x 0) (n37 : ¬ D (x + 37)) (n38 : ¬ D (x + 38)) (n39 : ¬ D (x + 39)) (e : ∀ k, k ≤ 5 → H2.1 k = H.1 k) (e2 : H2.2 11 = H.2 11 ∧ H2.2 12 = H.2 12) : hR S2 x H2 := by
  obtain ⟨⟨p1, p2, p3, p4, p5, p6⟩, p7, p8, p9⟩ := r
  have h1 : iK S1 (x + 37) 1 := (ci.wf.w0 kx).1.1
  have h2 : iK S1 (x + 38) 21 := (ci.wf.w1 h1).1.1
  have h3 : iK S1 (x + 39) 20 := (ci.wf.w1 h1).1.2.2.1
  have f37 := g.2.1 _ h1.1 (by rw [h1.2]; decide) n37
  have f38 := g.2.1 _ h2.1 (by rw [h2.2]; decide) n38
  have f39 := g.2.1 _ h3.1 (by rw [h3.2]; decide) n39
  exact ⟨⟨by rw [f37, e 0 (by omega)]; exact p1, by rw [f37, e 1 (by omega)]; exact p2, by rw [f37, e 2 (by omega)]; exact p3, by rw [f37, e 3 (by omega)]; exact p4, by rw [f37, e 4 (by omega)]; exact p5, by rw [f37, e 5 (by omega)]; exact p6⟩, fun y hy ht => by rw [f38, e2.1]; rw [e 0 (by omega)] at ht; exact p7 y hy ht, fun y hy => by rw [f39, e2.2]; exact p8 y hy, by rw [e 4 (by omega), e 0 (by omega), e2.1]; exact p9⟩
theorem jR.gx (j : jR wF S1 x H) (g : gX D S1 S2) (ci : CI noE S1 T1 [] c1) (kx : iK S1 x 0) (n : ∀ l, l = x + 7 ∨ l = x + 9 → ¬ D l ∧ ¬ D ((grC S1 l 2).getD 0)) (h7 : H2.1 7 = H.1 7) (h8 : H2.1 8 = H.1 8) (e40 : H2.2 40 = H.2 40) (e41 : H2.2 41 = H.2 41) : jR wF S2 x H2 := by
  obtain ⟨⟨a1, a2, a3⟩, ⟨b1, b2, b3⟩, ⟨c1', c2⟩, d1, d2, d3, d4, d5, d6⟩ := j
  have key : ∀ l, l = x + 7 ∨ l = x + 9 → (∀ k, giC S2 l k = giC S1 l k) ∧ grC S2 l 2 = grC S1 l 2 ∧ (∀ k, giC S2 ((grC S1 l 2).getD 0) k = giC S1 ((grC S1 l 2).getD 0) k) ∧ lcl S2 l = lcl S1 l ∧ (oz S1 l → oz S2 l) := fun l hl => by
    obtain ⟨kl, kz⟩ := zl_k ci kx hl
    have gr := g.2.2 l kl.1 kl.2
    refine ⟨g.2.1 l kl.1 (by rw [kl.2]; decide) (n l hl).1, gr, g.2.1 _ kz.1 (by rw [kz.2]; decide) (n l hl).2, ?_, fun o q k => ?_⟩
    · unfold lcl
      rw [gr]
      exact (g.1.2 _ kz.1).2
    · rw [gr]
      by_cases y : q < S1.1
      · exact o q ⟨y, by rw [← (g.1.2 q y).1]; exact k.2⟩
      · have := kz.1
        omega
  obtain ⟨u1, u2, u3, u4, u5⟩ := key (x + 7) (Or.inl rfl)
  obtain ⟨v1, v2, v3, v4, v5⟩ := key (x + 9) (Or.inr rfl)
  refine ⟨⟨by rw [u1, h7]; exact a1, by rw [u4, h7]; exact a2, fun i k hi hk' => ?_⟩, ⟨by rw [v1, h8]; exact b1, by rw [v4, h8]; exact b2, fun i k hi hk' => ?_⟩, ⟨by rw [u1]; exact c1', by rw [v1]; exact c2⟩, u5 d1, v5 d2, by rw [u2, v2]; exact d3, by rw [u2]; exact d4, by rw [v2]; exact d5, fun i hi => by rw [u2, u3]; exact d6 i (by rw [← h7]; exact hi)⟩
  · rw [h7] at hi
    rw [u2, u3, e40]
    exact a3 i k hi hk'
  · rw [h8] at hi
    rw [v2, v3, e41]
    exact b3 i k hi hk'
theorem aR.gx (a : aR wF S1 x H) (g : gX D S1 S2) (ci : CI noE S1 T1 [] c1) (kx : iK S1 x 0) (n0 : ¬ D x) (n11 : ¬ D (x + 11)) (n12 : ¬ D (x + 12)) (e9 : H2.1 9 = H.1 9) (e10 : H2.1 10 = H.1 10) (e39 : H2.1 39 = H.1 39) (e8 : (H.1 8).toInt ≤ (H2.1 8).toInt) (e38 : H2.2 38 = H.2 38) : aR wF S2 x H2 := by
  have h11 : iK S1 (x + 11) 6 := (ci.wf.w0 kx).1.2.2.2.2.2.2
  have h12 : iK S1 (x + 12) 20 := (ci.wf.w6 h11).1.1
  have f0 := g.2.1 x kx.1 (by rw [kx.2]; decide) n0
  exact a.cg (f0 7) (f0 9) (g.2.1 _ h11.1 (by rw [h11.2]; decide) n11 1) (g.2.1 _ h12.1 (by rw [h12.2]; decide) n12) e9 e10 e39 e8 e38
/-- motions that go from row to row as they are -/
theorem wR.gx (w : wR S1 T1 x H) (s : cH H2 H) (hr : ∀ g, g < 10 → ((T2 (rP x g)).length : Int) = hN H2 g ∧ ∀ i, i < (T2 (rP x g)).length → ∃ g' i', g' < 10 ∧ i' < (T1 (rP x g')).length ∧ (T2 (rP x g)).getD i 0 = (T1 (rP x g')).getD i' 0 ∧ hM H2 g i = hM H g' i') (hm : mQ T1 x S1 S2) : wR S2 T2 x H2 := by
  intro g hg
  obtain ⟨h1, h2⟩ := hr g hg
  refine ⟨h1, fun i hi => ?_⟩
  obtain ⟨g', i', hg', hi', e1, e2⟩ := h2 i hi
  rw [e1, e2]
  exact ((w g' hg').2 i' hi').c (hm g' hg' _ (gD_mem hi')) s
theorem sV.gx (v : sV S1) (g : gX D S1 S2) (wf : wfS S1) (n : ∀ q, iK S1 q 3 → ∀ j, j < 4 → ¬ D (q + j)) (hk : ∀ q, iK S2 q 3 → iK S1 q 3) : sV S2 := fun q k => by
  have kq := hk q k
  have c := g.mo4 wf kq (n q kq)
  rw [vCn_cg (c 3 (by omega)), show giC S2 q 14 = giC S1 q 14 from c 0 (by omega) 14]
  exact v q kq
theorem gD_drop {l : List Nat} {i : Nat} (h : i < l.dropLast.length) : l.dropLast.getD i 0 = l.getD i 0 := by
  have h2 : i < l.length := by
    rw [List.length_dropLast] at h
    omega
  rw [List.getD_eq_getElem?_getD, List.getD_eq_getElem?_getD, List.getElem?_eq_getElem h, List.getElem?_eq_getElem h2, List.getElem_dropLast]
end
end
section
/-! ===== the deeds: motions go ===== -/
section
variable {wF : Prop × (Nat → Int32) × Int32 × (Nat → Int32)} {x : Nat} {S S1 S2 S3 : Cst} {T T1 T2 : Nat → List Nat} {col c1 : Nat → Nat} {H H2 H3 : HS} {N : Int} {D : Nat → Prop}
/-- what is still there lies where it lay -/
def rB (T1 T2 : Nat → List Nat) (x : Nat) (H H2 : HS) : Prop := ∀ g i, hL H2 g i → hL H g i ∧ hM H2 g i = hM H g i ∧ (hT H2 g ↔ hT H g) ∧ (T2 (rP x g)).getD i 0 = (T1 (rP x g)).getD i 0
theorem nR.sub (n : nR N S1 T1 x H) (w : wR S1 T1 x H) (sub : rB T1 T2 x H H2) (s : cH H2 H) (hm : mQ T1 x S1 S2) (h8 : giC S2 x 8 = giC S1 x 8) (e30 : H2.1 30 = H.1 30) : nR N S2 T2 x H2 := by
  obtain ⟨n1, n2, n3, n4⟩ := n
  have ee : ∀ g i, hL H2 g i → ∀ k, giC S2 ((T2 (rP x g)).getD i 0) k = giC S1 ((T1 (rP x g)).getD i 0) k := fun g i l k => by
    obtain ⟨l1, -, -, e⟩ := sub g i l
    rw [e]
    exact hm g l1.1 _ (gD_mem (w.mem l1)) 0 (by omega) k
  refine ⟨by rw [h8]; exact n1, fun g i l t => ?_, fun g i g' i' l t l' t' k0 e => ?_, fun j l t d k => ?_⟩
  · obtain ⟨l1, m1, t1, -⟩ := sub g i l
    rw [ee g i l, h8, m1, s.2 14 (by omega) (by omega), s.2 26 (by omega) (by omega)]
    exact n2 g i l1 (t1.mp t)
  · obtain ⟨l1, m1, t1, -⟩ := sub g i l
    obtain ⟨l2, m2, t2, -⟩ := sub g' i' l'
    rw [ee g i l, ee g' i' l'] at e
    rw [ee g i l] at k0
    exact n3 g i g' i' l1 (t1.mp t) l2 (t2.mp t') k0 e
  · obtain ⟨l1, m1, t1, -⟩ := sub j 0 l
    rw [m1, s.2 25 (by omega) (by omega)] at d
    rw [m1, s.2 14 (by omega) (by omega)] at k
    obtain ⟨q1, q2, q3, q4⟩ := n4 j l1 (mt t1.mpr t) d k
    rw [ee j 0 l, h8, m1, s.2 23 (by omega) (by omega), e30]
    refine ⟨q1, q2, fun g i lg tg => ?_, fun g lg tg => ?_⟩
    · obtain ⟨l2, m2, t2, -⟩ := sub g i lg
      rw [ee g i lg, m2, s.2 22 (by omega) (by omega)]
      exact q3 g i l2 (t2.mp tg)
    · obtain ⟨l2, m2, t2, -⟩ := sub g 0 lg
      rw [m2, s.2 22 (by omega) (by omega)]
      exact q4 g l2 (mt t2.mpr tg)
theorem oR.sub (o : oR S1 T1 x H) (w : wR S1 T1 x H) (sub : rB T1 T2 x H H2) (s : cH H2 H) (hm : mQ T1 x S1 S2) (hd : (H2.1 35 = 0 → giC S2 (x + 3) 0 = 0) ∧ (H2.1 35 ≠ 0 → giC S2 (x + 3) 0 = if H2.1 36 = 0 then 2 else 3)) (hp : ∀ p, p < 8 → (H2.2 34 p = 0 → giC S2 (x + 13 + 3 * p) 0 = 0) ∧ (H2.2 34 p ≠ 0 → giC S2 (x + 13 + 3 * p) 0 = if H2.2 37 p = 0 then (if H2.2 27 (hM H2 (p + 2) 0) = 0 then 2 else 1) else 3)) : oR S2 T2 x H2 := by
  refine ⟨hd, hp, fun g hg l t => ?_, fun g hg l t => ?_, fun g hg l t => ?_⟩
  · obtain ⟨l1, m1, t1, e1⟩ := sub g 0 l
    rw [e1, m1, s.2 25 (by omega) (by omega)]
    exact (hm g hg _ (gD_mem (w.mem l1)) 0 (by omega) 10).trans (o.2.2.1 g hg l1 (mt t1.mpr t))
  · obtain ⟨l1, m1, t1, e1⟩ := sub g 0 l
    rw [m1, s.2 25 (by omega) (by omega), s.2 26 (by omega) (by omega)]
    exact o.2.2.2.1 g hg l1 (mt t1.mpr t)
  · obtain ⟨l1, m1, t1, e1⟩ := sub g 0 l
    rw [m1, s.2 25 (by omega) (by omega), s.2 27 (by omega) (by omega)]
    exact o.2.2.2.2 g hg l1 (mt t1.mpr t)
theorem gF.mQ (g : gF S1 S2) (ci : CI noE S1 T1 [] c1) : mQ T1 x S1 S2 := fun _ _ q m => (g.x (D := fun _ => False)).mo4 ci.wf (ci.tk _ q m).1 (fun _ _ z => z)
/-- the top goes -/
theorem go_v (a : AS x S T col S1 T1 c1) (r : RR wF N S1 T1 x H) (h : RA H) (z : ¬ H.1 6 = 0) : ∃ S2 T2, f_Y0_dropTop S1 x (x + 1) = (0, S2) ∧ AS x S T col S2 T2 c1 ∧ RR wF N S2 T2 x (f_X11_goes H).2 ∧ gF S1 S2 ∧ T2 (x + 1) = (T1 (x + 1)).dropLast ∧ ∀ c, c ≠ x + 1 → c ≠ x → T2 c = T1 c := by
  obtain ⟨-, S2, T2, f1, f2, f3, e1, e2⟩ := y_dropA a
  refine ⟨S2, T2, f1, f2, ?_, f3, e1, e2⟩
  obtain ⟨hr, w, o, j, ⟨aa, sv⟩, n⟩ := r
  rw [goes_e]
  have p := pend_pos h z
  have b := h.2.1
  have e6 := iSub (x := H.1 6) (y := 1) (by rw [i1]; omega) (by rw [i1]; omega)
  rw [i1] at e6
  have len := rr_n w
  generalize (H.2 31 (H.1 6 - 1).toNatClampNeg).toNatClampNeg = t
  have s : cH (sI (sA H 13 t 0) 6 (H.1 6 - 1)) H := ⟨rfl, fun k h1 h2 => if_neg (by omega)⟩
  have g := f3.x (D := fun _ => False)
  have hm : mQ T1 x S1 S2 := f3.mQ a.ci
  have nF : ∀ q, ¬ (fun _ : Nat => False) q := fun _ z => z
  have hN1 : ∀ g, hN (sI (sA H 13 t 0) 6 (H.1 6 - 1)) (g + 1) = hN H (g + 1) := fun g => by
    match g with
    | 0 => rfl
    | p + 1 => rfl
  have hMs : ∀ g i, hM (sI (sA H 13 t 0) 6 (H.1 6 - 1)) g i = hM H g i := fun g i => by
    match g with
    | 0 => rfl
    | 1 => rfl
    | p + 2 => rfl
  have hTs : ∀ g, hT (sI (sA H 13 t 0) 6 (H.1 6 - 1)) g ↔ hT H g := fun g => by
    match g with
    | 0 => exact Iff.rfl
    | 1 => exact Iff.rfl
    | p + 2 => exact Iff.rfl
  have hN0 : hN (sI (sA H 13 t 0) 6 (H.1 6 - 1)) 0 = (H.1 6).toInt - 1 := e6
  have e1' : T2 (rP x 0) = (T1 (rP x 0)).dropLast := e1
  have eg : ∀ g, g + 1 < 10 → T2 (rP x (g + 1)) = T1 (rP x (g + 1)) := fun g hg => e2 _ (fun y => by have := rP_inj (x := x) (g := g + 1) (g' := 0) y; omega) (rP_own hg).2
  have sub : rB T1 T2 x H (sI (sA H 13 t 0) 6 (H.1 6 - 1)) := fun g i l => by
    match g with
    | 0 =>
      have l2 := l.2
      rw [hN0] at l2
      refine ⟨⟨by omega, by show (i : Int) < (H.1 6).toInt; omega⟩, hMs 0 i, hTs 0, ?_⟩
      rw [e1']
      exact gD_drop (by rw [List.length_dropLast]; show i < (T1 (x + 1)).length - 1; omega)
    | g + 1 =>
      refine ⟨⟨l.1, by rw [← hN1]; exact l.2⟩, hMs _ i, hTs _, by rw [eg g l.1]⟩
  refine ⟨hr.gx g a.ci a.k1 (nF (x + 37)) (nF (x + 38)) (nF (x + 39)) (fun k hk => ?_) ⟨rfl, rfl⟩, w.gx s (fun g' hg => ?_) hm, o.sub w sub s hm ?_ (fun p hp => ?_), j.gx g a.ci a.k1 (fun _ _ => ⟨not_false, not_false⟩) rfl rfl rfl rfl, ⟨aa.gx g a.ci a.k1 (nF x) (nF (x + 11)) (nF (x + 12)) rfl rfl rfl (Int.le_refl _) rfl, ⟨sv.1.gx g a.ci.wf (fun _ _ _ _ => not_false) (fun q k => ?_), sv.2⟩⟩, n.sub w sub s hm (g.2.1 x a.k1.1 (by rw [a.k1.2]; decide) (nF x) 8) rfl⟩
  · match k with
    | 0 => rfl
    | 1 => rfl
    | 2 => rfl
    | 3 => rfl
    | 4 => rfl
    | 5 => rfl
    | k + 6 => omega
  · match g' with
    | 0 =>
      rw [e1', hN0, List.length_dropLast]
      refine ⟨by show (((T1 (x + 1)).length - 1 : Nat) : Int) = _; omega, fun i hi => ⟨0, i, by omega, by omega, gD_drop (by rw [List.length_dropLast]; exact hi), hMs 0 i⟩⟩
    | g' + 1 =>
      rw [eg g' hg, hN1]
      exact ⟨(w _ hg).1, fun i hi => ⟨g' + 1, i, hg, hi, rfl, hMs _ i⟩⟩
  · have k5 := a.k5
    rw [g.2.1 _ k5.1 (by rw [k5.2]; decide) not_false 0]
    exact o.1
  · have k5 := (dk_ix a.ci.wf a.k1 hp).2
    rw [g.2.1 _ k5.1 (by rw [k5.2]; decide) not_false 0, hMs]
    exact o.2.1 p hp
  · exact f3.ik k
theorem ds_18 (a : AS x S T col S1 T1 c1) (r : RR wF N S1 T1 x H) (h : HA H) (i b c d : Int32) (z : ¬ H.1 6 = 0) : DS wF N x S T col (f_Y1_perform S1 x 18 i b c d) (f_X11_does H 18 i b c d) := by
  obtain ⟨S2, T2, f1, f2, f3, -, -, -⟩ := go_v a r h.1.ra z
  have e1 : f_Y1_perform S1 x 18 i b c d = (giC S2 ((grC S2 x 1).getD 0) 1, S2) := by
    unfold f_Y1_perform b_Y1_perform_268a
    rw [a.g1, Option.getD_some, f1]
    rfl
  have e2 : f_X11_does H 18 i b c d = ((f_X11_goes H).2.1 6, (f_X11_goes H).2) := rfl
  rw [e1, e2]
  refine ⟨S2, T2, c1, ?_, f2.1, f3⟩
  rw [f2.g1, Option.getD_some, rr_z f2 f3.2.1]
end
end
section
/-! ===== a motion made anew, on both sides ===== -/
section
variable {wF : Prop × (Nat → Int32) × Int32 × (Nat → Int32)} {E E0 : Nat → Prop} {x : Nat} {S S1 S2 S3 : Cst} {T T1 T2 : Nat → List Nat} {F F1 : List Nat} {col c1 : Nat → Nat} {H H2 H3 : HS} {N : Int}
theorem anew_v {x1 : Int32} (h1 : 0 ≤ x1.toInt ∧ x1.toInt < 90) : ∀ (n : Nat) (S : HS) (b : Int32), 0 ≤ b.toInt → b.toInt ≤ 200 → 200 - b.toInt < n → ∃ u, (lp_X11_anew_43 n S x1 b).2 = sR S 29 u ∧ (∀ s, b.toNatClampNeg ≤ s → s < 200 → u (200 * x1.toNatClampNeg + s) = 2) ∧ ∀ j, (∀ s, b.toNatClampNeg ≤ s → s < 200 → j ≠ 200 * x1.toNatClampNeg + s) → u j = S.2 29 j := by
  have e2 : (200 : Int32).toInt = 200 := by decide
  intro n
  induction n with
  | zero => intro S b p1 p2 p3; omega
  | succ n ih =>
    intro S b p1 p2 p3
    have k := iNat p1
    rw [lp_X11_anew_43]
    unfold st_X11_anew_43
    by_cases c : 200 ≤ b
    · have := iLe.mp c
      rw [e2] at this
      rw [if_pos c]
      exact ⟨S.2 29, by rw [sR_id], fun s h3 h4 => by omega, fun _ _ => rfl⟩
    · have c' := mt iLe.mpr c
      rw [e2] at c'
      have e := iAdd (x := b) (y := 1) (by rw [i1]; omega) (by rw [i1]; omega)
      rw [i1] at e
      have k2 := iNat (x := b + 1) (by omega)
      rw [if_neg c]
      obtain ⟨u, q1, q2, q3⟩ := ih (sA S 29 ((200 * x1) + b).toNatClampNeg (vp_nar .byte 2)) (b + 1) (by omega) (by omega) (by omega)
      rw [sR_sA] at q1
      have bx := bx_v h1 (s := b) ⟨p1, by omega⟩
      refine ⟨u, q1, fun s h3 h4 => ?_, fun j hj => ?_⟩
      · by_cases y : s = b.toNatClampNeg
        · rw [q3 _ (fun s' h5 h6 y' => by omega), y]
          show (if 29 = 29 then upd (S.2 29) ((200 * x1) + b).toNatClampNeg (vp_nar .byte 2) else S.2 29) _ = 2
          rw [if_pos rfl, bx]
          unfold upd
          rw [if_pos rfl]
          rfl
        · exact q2 s (by omega) h4
      · rw [q3 j (fun s' h5 h6 => hj s' (by omega) h6)]
        show (if 29 = 29 then upd (S.2 29) ((200 * x1) + b).toNatClampNeg (vp_nar .byte 2) else S.2 29) _ = _
        rw [if_pos rfl, bx]
        unfold upd
        rw [if_neg (hj _ (Nat.le_refl _) (by omega))]
theorem anew_vv {x : Int32} (h1 : 0 ≤ x.toInt ∧ x.toInt < 90) (S : HS) : ∃ u, (f_X11_anew S x).2 = sR (aN S x) 29 u ∧ (∀ s, (0 : Int32).toNatClampNeg ≤ s → s < 200 → u (200 * x.toNatClampNeg + s) = 2) ∧ ∀ j, (∀ s, (0 : Int32).toNatClampNeg ≤ s → s < 200 → j ≠ 200 * x.toNatClampNeg + s) → u j = (aN S x).2 29 j :=
  anew_v h1 100000 _ 0 (by rw [i0]; omega) (by rw [i0]; omega) (by rw [i0]; omega)
theorem newSlot_w (k : Int32) {y : Nat} (hy : y < 90) : ∀ (n : Nat) (S : HS) (x : Int32), S.2 13 y = 0 → 0 ≤ x.toInt → x.toInt ≤ y → 90 - x.toInt < n →
    ∃ z u, (0 ≤ z.toInt ∧ z.toInt < 90) ∧ S.2 13 z.toNatClampNeg = 0 ∧ lp_X11_newSlot_2 n S k x = (z, sA (sR (aN (nL S k z) z) 29 u) 16 z.toNatClampNeg (-1)) ∧ (∀ s, s < 200 → u (200 * z.toNatClampNeg + s) = 2) ∧ ∀ m i, m ≠ z.toNatClampNeg → i < 200 → u (200 * m + i) = S.2 29 (200 * m + i) := by
  intro n
  induction n with
  | zero => intro S x hf h1 h2 h3; omega
  | succ n ih =>
    intro S x hf h1 h2 h3
    rw [lp_X11_newSlot_2]
    unfold st_X11_newSlot_2
    by_cases z : S.2 13 x.toNatClampNeg = 0
    · rw [if_pos z]
      obtain ⟨u, q, q2, q3⟩ := anew_vv (x := x) ⟨h1, by omega⟩ (nL S k x)
      rw [zn0] at q2 q3
      refine ⟨x, u, ⟨h1, by omega⟩, z, ?_, fun s hs => q2 s (Nat.zero_le _) hs, fun m i hm hi => ?_⟩
      · show b_X11_newSlot_a92 (f_X11_anew (nL S k x) x).2 k x = _
        rw [q]
        rfl
      · have e : (aN (nL S k x) x).2 29 = S.2 29 := rfl
        rw [← e]
        exact q3 _ (fun s _ hs y => hm (by omega))
    · rw [if_neg z]
      have e := iAdd (x := x) (y := 1) (by rw [i1]; omega) (by rw [i1]; omega)
      rw [i1] at e
      have d : x.toNatClampNeg ≠ y := fun q => z (by rw [q]; exact hf)
      have k := iNat h1
      exact ih S (x + 1) hf (by omega) (by omega) (by omega)
theorem newSlot_v {S : HS} (k : Int32) (h : ∃ y : Nat, y < 90 ∧ S.2 13 y = 0) :
    ∃ z u, (0 ≤ z.toInt ∧ z.toInt < 90) ∧ S.2 13 z.toNatClampNeg = 0 ∧ f_X11_newSlot S k = (z, sA (sR (aN (nL S k z) z) 29 u) 16 z.toNatClampNeg (-1)) ∧ (∀ s, s < 200 → u (200 * z.toNatClampNeg + s) = 2) ∧ ∀ m i, m ≠ z.toNatClampNeg → i < 200 → u (200 * m + i) = S.2 29 (200 * m + i) := by
  obtain ⟨y, hy, hf⟩ := h
  exact newSlot_w k hy 100000 S 0 hf (by rw [i0]; omega) (by rw [i0]; omega) (by rw [i0]; omega)
end
end
section
section
variable {wF : Prop × (Nat → Int32) × Int32 × (Nat → Int32)} {E E0 : Nat → Prop} {x : Nat} {S S1 S2 S3 : Cst} {T T1 T2 : Nat → List Nat} {F F1 : List Nat} {col c1 : Nat → Nat} {H H2 H3 : HS} {N : Int}
/-- a new motion's numbers -/
def nM (S : Cst) (q : Nat) (v : Int32) : Prop :=
  (giC S q 0 = 0 ∧ giC S q 1 = 0 ∧ giC S q 2 = v ∧ giC S q 3 = -1 ∧ giC S q 4 = -1 ∧ giC S q 5 = 0 ∧ giC S q 6 = 0) ∧ (giC S q 7 = 0 ∧ giC S q 8 = 0 ∧ giC S q 9 = 0 ∧ giC S q 10 = 0 ∧ giC S q 11 = 0) ∧ (∀ s, s < 200 → giC S (q + 3) s = 0) ∧ (giC S q 14).toInt = 0
theorem fill_v {z : Nat} : ∀ (n : Nat) (S2 : Cst) (b : Int32), 0 ≤ b.toInt → b.toInt ≤ 200 → 200 - b.toInt < n → (∀ s, b.toNatClampNeg ≤ s → s < 200 → giC (lp_K7_fill_031fb_5 z n S2 0 b (Int32.ofNat 200)).2 z s = 0) ∧ (∀ s, s < b.toNatClampNeg → giC (lp_K7_fill_031fb_5 z n S2 0 b (Int32.ofNat 200)).2 z s = giC S2 z s) ∧ (∀ q k, q ≠ z → giC (lp_K7_fill_031fb_5 z n S2 0 b (Int32.ofNat 200)).2 q k = giC S2 q k) ∧ (lp_K7_fill_031fb_5 z n S2 0 b (Int32.ofNat 200)).2.1 = S2.1 := by
  have h2 : (Int32.ofNat 200).toInt = 200 := by decide
  intro n
  induction n with
  | zero => intro S2 b h1 h3 h4; omega
  | succ n ih =>
    intro S2 b h1 h3 h4
    have k := iNat h1
    rw [lp_K7_fill_031fb_5]
    unfold st_K7_fill_031fb_5
    by_cases c : Int32.ofNat 200 ≤ b
    · have := iLe.mp c
      rw [h2] at this
      rw [if_pos c]
      exact ⟨fun s h5 h6 => by omega, fun _ _ => rfl, fun _ _ _ => rfl, rfl⟩
    · rw [if_neg c]
      have c := mt iLe.mpr c
      rw [h2] at c
      have e := iAdd (x := b) (y := 1) (by rw [i1]; omega) (by rw [i1]; omega)
      rw [i1] at e
      have k2 := iNat (x := b + 1) (by omega)
      obtain ⟨q1, q2, q3, q4⟩ := ih (siC S2 z b.toNatClampNeg (vp_nar .byte 0)) (b + 1) (by omega) (by omega) (by omega)
      refine ⟨fun s h5 h6 => ?_, fun s h5 => ?_, fun q k n => ?_, q4⟩
      · by_cases y : s = b.toNatClampNeg
        · have := q2 s (by omega)
          dsimp only
          rw [this, gi_si, if_pos ⟨rfl, y⟩]
          rfl
        · exact q1 s (by omega) h6
      · have := q2 s (by omega)
        dsimp only
        rw [this, gi_si, if_neg (fun y => by omega)]
      · have := q3 q k n
        dsimp only
        rw [this, gi_si, if_neg (fun y => n y.1)]
theorem vCn_0 {q : Nat} : ∀ n, vCn S1 q n = 0 → ∀ s, s < n → giC S1 (q + 3) s = 0 := by
  intro n
  induction n with
  | zero => intro _ s hs; omega
  | succ n ih =>
    intro h s hs
    rw [vCn] at h
    by_cases y : giC S1 (q + 3) n = 0
    · rw [if_pos y] at h
      by_cases z : s = n
      · rw [z]
        exact y
      · exact ih (by omega) s (by omega)
    · rw [if_neg y] at h
      omega
end
end
section
section
variable {wF : Prop × (Nat → Int32) × Int32 × (Nat → Int32)} {E E0 : Nat → Prop} {x : Nat} {S S1 S2 S3 : Cst} {T T1 T2 : Nat → List Nat} {F F1 : List Nat} {col c1 : Nat → Nat} {H H2 H3 : HS} {N : Int}
theorem fill_vv (z : Nat) (X : Cst) : ∃ Y, (lp_K7_fill_031fb_5 z 100000 X 0 0 (Int32.ofNat 200)).2 = Y ∧ (∀ s, s < 200 → giC Y z s = 0) ∧ (∀ q k, q ≠ z → giC Y q k = giC X q k) ∧ Y.1 = X.1 := by
  obtain ⟨q1, q2, q3, q4⟩ := fill_v (z := z) 100000 X 0 (by rw [i0]; omega) (by rw [i0]; omega) (by rw [i0]; omega)
  rw [zn0] at q1
  exact ⟨_, rfl, fun s hs => q1 s (Nat.zero_le _) hs, q3, q4⟩
theorem kt_v {X : Cst} {q : Nat} (v : Int32) (rX : grC X q 13 = some (q + 3)) (lX : lnC X (q + 3) = 200) (n : ¬ giC X q 14 ≤ 0) : b_Y4_keepTextAs_60a X q v = (0, siC (lp_K7_fill_031fb_5 (q + 3) 100000 X 0 0 (Int32.ofNat 200)).2 q 14 0) := by
  unfold b_Y4_keepTextAs_60a b_Y4_keepTextAs_75a b_Y4_keepTextAs_80 f_K7_fill_031fb
  rw [if_neg n, rX, Option.getD_some, lX]
theorem kt_0 {X : Cst} {q : Nat} (v : Int32) (n : giC X q 14 ≤ 0) : b_Y4_keepTextAs_60a X q v = (0, X) := by
  unfold b_Y4_keepTextAs_60a b_Y4_keepTextAs_80
  rw [if_pos n]
theorem keep_v (h : Sst E x S T F col S1 T1 F1 c1) {q : Nat} (k : iK S1 q 3) (c : c1 q = x) (v : Int32) (hv : (giC S1 q 14).toInt = vCn S1 q 200) : ∃ S2, f_Y4_keepTextAs S1 q v = (0, S2) ∧ mU E x S T F col T1 F1 c1 q S1 S2 ∧ nM S2 q v ∧ S2.1 = S1.1 ∧ ∀ j i, (j = 1 ∨ j = 2) → giC S2 (q + j) i = giC S1 (q + j) i := by
  obtain ⟨-, S0, f0, u0, -⟩ := y_keep h k c v
  have w3 := h.ci.wf.w3 k
  generalize hX : siC (siC (siC (siC (siC (siC (siC (siC (siC (siC (siC (siC S1 q 0 0) q 1 0) q 2 v) q 3 (-1)) q 4 (-1)) q 5 0) q 6 0) q 7 0) q 8 0) q 9 0) q 10 0) q 11 0 = X
  have gX' : ∀ i, giC X q i = if i = 11 then 0 else if i = 10 then 0 else if i = 9 then 0 else if i = 8 then 0 else if i = 7 then 0 else if i = 6 then 0 else if i = 5 then 0 else if i = 4 then -1 else if i = 3 then -1 else if i = 2 then v else if i = 1 then 0 else if i = 0 then 0 else giC S1 q i := fun i => by
    rw [← hX]
    simp only [gi_si, true_and]
  have oX : ∀ j i, 0 < j → giC X (q + j) i = giC S1 (q + j) i := fun j i hj => by
    rw [← hX]
    simp only [gi_si]
    rw [if_neg (fun y => by omega), if_neg (fun y => by omega), if_neg (fun y => by omega), if_neg (fun y => by omega), if_neg (fun y => by omega), if_neg (fun y => by omega), if_neg (fun y => by omega), if_neg (fun y => by omega), if_neg (fun y => by omega), if_neg (fun y => by omega), if_neg (fun y => by omega), if_neg (fun y => by omega)]
  have nX : X.1 = S1.1 := by rw [← hX]; rfl
  have rX : grC X q 13 = some (q + 3) := by
    rw [← hX]
    simp only [gr_si]
    exact w3.2.1.2
  have lX : lnC X (q + 3) = 200 := by
    rw [← hX]
    simp only [ln_si]
    exact w3.1.2.2
  have e : f_Y4_keepTextAs S1 q v = b_Y4_keepTextAs_60a X q v := by rw [← hX]; rfl
  have x0 : giC X q 0 = 0 := by rw [gX' 0]; simp
  have x1 : giC X q 1 = 0 := by rw [gX' 1]; simp
  have x2 : giC X q 2 = v := by rw [gX' 2]; simp
  have x3 : giC X q 3 = -1 := by rw [gX' 3]; simp
  have x4 : giC X q 4 = -1 := by rw [gX' 4]; simp
  have x5 : giC X q 5 = 0 := by rw [gX' 5]; simp
  have x6 : giC X q 6 = 0 := by rw [gX' 6]; simp
  have x7 : giC X q 7 = 0 := by rw [gX' 7]; simp
  have x8 : giC X q 8 = 0 := by rw [gX' 8]; simp
  have x9 : giC X q 9 = 0 := by rw [gX' 9]; simp
  have x10 : giC X q 10 = 0 := by rw [gX' 10]; simp
  have x11 : giC X q 11 = 0 := by rw [gX' 11]; simp
  have v14 : giC X q 14 = giC S1 q 14 := by rw [gX' 14]; simp
  clear gX' hX
  refine ⟨S0, f0, u0, ?_⟩
  rw [e] at f0
  by_cases z : giC X q 14 ≤ 0
  · rw [kt_0 v z] at f0
    obtain ⟨-, rfl⟩ := Prod.mk.inj f0
    have z' := iLe.mp z
    rw [v14, i0, hv] at z'
    have vz := vCn_0 (S1 := S1) (q := q) 200 (by omega)
    refine ⟨⟨⟨x0, x1, x2, x3, x4, x5, x6⟩, ⟨x7, x8, x9, x10, x11⟩, fun s hs => (oX 3 s (by omega)).trans (vz s hs), ?_⟩, nX, fun j i hj => oX j i (by omega)⟩
    rw [v14, hv]
    omega
  · rw [kt_v v rX lX z] at f0
    obtain ⟨Y, eY, q1, q3, q4⟩ := fill_vv (q + 3) X
    rw [eY] at f0
    obtain ⟨-, rfl⟩ := Prod.mk.inj f0
    have y0 : ∀ i, i ≠ 14 → giC (siC Y q 14 0) q i = giC X q i := fun i hi => by rw [gi_si, if_neg (fun y => hi y.2), q3 q i (by omega)]
    refine ⟨⟨⟨(y0 0 (by decide)).trans x0, (y0 1 (by decide)).trans x1, (y0 2 (by decide)).trans x2, (y0 3 (by decide)).trans x3, (y0 4 (by decide)).trans x4, (y0 5 (by decide)).trans x5, (y0 6 (by decide)).trans x6⟩, ⟨(y0 7 (by decide)).trans x7, (y0 8 (by decide)).trans x8, (y0 9 (by decide)).trans x9, (y0 10 (by decide)).trans x10, (y0 11 (by decide)).trans x11⟩, fun s hs => ?_, ?_⟩, q4.trans nX, fun j i hj => ?_⟩
    · rw [gi_si, if_neg (fun y => by omega)]
      exact q1 s hs
    · rw [gi_si, if_pos ⟨rfl, rfl⟩]
      exact i0
    · rw [gi_si, if_neg (fun y => by omega), q3 _ _ (by omega)]
      exact oX j i (by omega)
end
end
section
section
variable {wF : Prop × (Nat → Int32) × Int32 × (Nat → Int32)} {E E0 : Nat → Prop} {x : Nat} {S S1 S2 S3 : Cst} {T T1 T2 : Nat → List Nat} {F F1 : List Nat} {col c1 : Nat → Nat} {H H2 H3 : HS} {N : Int}
theorem renew_v (h : Sst E x S T F col S1 T1 F1 c1) {q : Nat} (k : iK S1 q 3) (c : c1 q = x) (v : Int32) (hv : (giC S1 q 14).toInt = vCn S1 q 200) : ∃ S2, f_Y4_renew S1 q v = (0, S2) ∧ mU E x S T F col T1 F1 c1 q S1 S2 ∧ nM S2 q v ∧ giC S2 (q + 1) 1 = 0 ∧ S2.1 = S1.1 := by
  obtain ⟨-, S0, f0, u0, -⟩ := y_renew h k c v
  obtain ⟨S2, f, u, ⟨⟨a0, a1, a2, a3, a4, a5, a6⟩, ⟨b1, b2, b3, b4, b5⟩, cc, d⟩, n, -⟩ := keep_v h k c v hv
  have w3 := u.1.ci.wf.w3 u.2.2.1
  have e : f_Y4_renew S1 q v = (0, siC S2 (q + 1) 1 0) := by
    unfold f_Y4_renew b_Y4_renew_5a
    rw [f, w3.2.1.1]
    rfl
  obtain ⟨-, rfl⟩ := Prod.mk.inj (f0.symm.trans e)
  have o : ∀ i, giC (siC S2 (q + 1) 1 0) q i = giC S2 q i := fun i => by rw [gi_si, if_neg (fun y => by omega)]
  exact ⟨_, e, u0, ⟨⟨(o 0).trans a0, (o 1).trans a1, (o 2).trans a2, (o 3).trans a3, (o 4).trans a4, (o 5).trans a5, (o 6).trans a6⟩, ⟨(o 7).trans b1, (o 8).trans b2, (o 9).trans b3, (o 10).trans b4, (o 11).trans b5⟩, fun s hs => by rw [gi_si, if_neg (fun y => by omega)]; exact cc s hs, by rw [o]; exact d⟩, by rw [gi_si, if_pos ⟨rfl, rfl⟩], n⟩
end
end
section
section
variable {wF : Prop × (Nat → Int32) × Int32 × (Nat → Int32)} {E E0 : Nat → Prop} {x : Nat} {S S1 S2 S3 : Cst} {T T1 T2 : Nat → List Nat} {F F1 : List Nat} {col c1 : Nat → Nat} {H H2 H3 : HS} {N : Int}
theorem mk4_kd (S : Cst) : kdC (mkX4 S) (S.1 + 1) = 6 ∧ kdC (mkX4 S) (S.1 + 2) = 20 ∧ kdC (mkX4 S) (S.1 + 3) = 22 := ⟨(nw_kd 1).trans rfl, (nw_kd 2).trans rfl, (nw_kd 3).trans rfl⟩
theorem mk4_gi (S : Cst) (n : Nat) : giC (mkX4 S) (S.1 + 3) n = 0 ∧ giC (mkX4 S) S.1 14 = 0 := ⟨(nw_gi 3 n).trans rfl, (nw_gi 0 14).trans rfl⟩
theorem mk4_vC (S : Cst) : ∀ n, vCn (mkX4 S) S.1 n = 0 := by
  intro n
  induction n with
  | zero => rfl
  | succ n ih => rw [vCn, ih, if_pos (mk4_gi S n).1]
/-- a motion made anew: its numbers, and which motions there are -/
theorem newMot_v (h : Sst E x S T F col S1 T1 F1 c1) (hb : T1 x = [] → mT T1 x + F1.length ≤ 89) (v : Int32) (sv : sV S1) : ∃ S2 T2 q c2, f_Y0_newMotion S1 x v = (some q, S2) ∧ Sst E x S T F col S2 T2 (q :: F1) c2 ∧ gX (dM q) S1 S2 ∧ nM S2 q v ∧ giC S2 (q + 1) 1 = 0 ∧ (∀ c, c ≠ x → T2 c = T1 c) ∧ (∀ z, iK S2 z 3 → z = q ∨ iK S1 z 3) ∧ iK S2 q 3 ∧ ∀ c, c ≠ x → q ∉ T1 c := by
  unfold f_Y0_newMotion
  have cx := h.ci.tc x h.k1
  cases hT : T1 x with
  | nil =>
    rw [hT] at cx
    have z : grC S1 x 10 = none := cx
    have m := h.mk (hb hT)
    have km : iK (mkX4 S1) S1.1 3 := (wf_mk4 h.ci.wf).2
    obtain ⟨S2, f1, f2, f3, f4, f5⟩ := renew_v m km (cN_new (Nat.le_refl _)) v (by rw [mk4_vC, (mk4_gi S1 0).2]; exact i0)
    refine ⟨S2, T1, S1.1, _, ?_, f2.1, ?_, f3, f4, fun _ _ => rfl, fun y ky => ?_, f2.2.2.1, fun c _ m' => ?_⟩
    · rw [if_pos z]
      simp only [b_Y0_newMotion_38a, b_Y0_newMotion_33, b_Y0_newMotion_16a, Option.getD_some, f1]
    · exact ⟨(eN.pu S1 _ _ : eN S1 (mkX4 S1)).tr f2.2.1.1, fun z a b c k => by
        have a' : z < (mkX4 S1).1 := Nat.lt_of_lt_of_le a (Nat.le_add_right _ _)
        have ek : kdC (mkX4 S1) z = kdC S1 z := ((eN.pu S1 _ _).2 z a).1
        rw [f2.2.1.2.1 z a' (by rw [ek]; exact b) c]
        exact pu_gi a k, gL.tr (eN.pu S1 _ _ : eN S1 (mkX4 S1)) (fun l a _ => pu_gr a 2) f2.2.1.2.2⟩
    · by_cases a : y < S1.1
      · have g : eN S1 S2 := (eN.pu S1 _ _ : eN S1 (mkX4 S1)).tr f2.2.1.1
        exact Or.inr ⟨a, by rw [← (g.2 y a).1]; exact ky.2⟩
      · have b : y < S1.1 + 4 := by
          have := ky.1
          rw [f5] at this
          exact this
        have ek : kdC S2 y = kdC (mkX4 S1) y := (f2.2.1.1.2 y b).1
        obtain ⟨i, rfl⟩ : ∃ i, y = S1.1 + i := ⟨y - S1.1, by omega⟩
        have kk := ky.2
        rw [ek] at kk
        rcases (show i = 0 ∨ i = 1 ∨ i = 2 ∨ i = 3 by omega) with rfl | rfl | rfl | rfl
        · exact Or.inl rfl
        · rw [(mk4_kd S1).1] at kk
          exact absurd kk (by decide)
        · rw [(mk4_kd S1).2.1] at kk
          exact absurd kk (by decide)
        · rw [(mk4_kd S1).2.2] at kk
          exact absurd kk (by decide)
    · have := (h.ci.tk c _ m').1.1
      omega
  | cons q L =>
    rw [hT] at cx
    have z : grC S1 x 10 = some q := cx.1
    have m := h.pop hT
    have mq : q ∈ T1 x := by rw [hT]; exact List.mem_cons_self ..
    have kq := (h.ci.tk x q mq).1
    have kq' := (m.ci.tf.2 q (List.mem_cons_self ..)).1
    have hv : (giC (srC (srC S1 x 10 (grC S1 q 15)) q 15 none) q 14).toInt = vCn (srC (srC S1 x 10 (grC S1 q 15)) q 15 none) q 200 := by
      rw [vCn_cg (S1 := S1) (fun k => by rw [gi_sr, gi_sr]), gi_sr, gi_sr]
      exact sv q kq
    obtain ⟨S2, f1, f2, f3, f4, f5⟩ := renew_v m kq' (m.fc q (List.mem_cons_self ..)) v hv
    refine ⟨S2, _, q, _, ?_, f2.1, ?_, f3, f4, fun c n => tU_ne _ _ n, fun y ky => Or.inr ?_, f2.2.2.1, fun c n m' => n (h.ci.td c x q m' mq)⟩
    · rw [if_neg (by rw [z]; simp), z]
      simp only [b_Y0_newMotion_38a, b_Y0_newMotion_33, b_Y0_newMotion_16a, Option.getD_some, f1]
    · refine gX.tr ⟨((eK.sr S1 _ _ _).tr (eK.sr _ _ _ _)).n, fun z _ _ _ j => ?_, gL.tr (eK.sr S1 _ _ _).n (gL.sr S1 _ _ (by rw [h.k1.2]; decide)) (gL.sr _ _ _ (by rw [kd_sr, kq.2]; decide))⟩ f2.2.1
      rw [gi_sr, gi_sr]
    · have g : eN S1 S2 := (((eK.sr S1 _ _ _).tr (eK.sr _ _ _ _)).n).tr f2.2.1.1
      have a : y < S1.1 := by
        have := ky.1
        rw [f5] at this
        exact this
      exact ⟨a, by rw [← (g.2 y a).1]; exact ky.2⟩
end
end
section
/-! ===== a step in general: rows are mapped, one motion is apart ===== -/
section
variable {wF : Prop × (Nat → Int32) × Int32 × (Nat → Int32)} {x : Nat} {S S1 S2 S3 : Cst} {T T1 T2 : Nat → List Nat} {F F1 : List Nat} {col c1 : Nat → Nat} {H H2 H3 : HS} {N N2 M M2 : Int} {D : Nat → Prop} {gs is : Nat}
/-- a motion stands as it stood, at another place perhaps -/
def oM (S1 S2 : Cst) (T1 T2 : Nat → List Nat) (x : Nat) (H H2 : HS) (g i g' i' : Nat) : Prop :=
  hL H g' i' ∧ hM H2 g i = hM H g' i' ∧ (hT H2 g ↔ hT H g') ∧ (¬ hT H g' → 2 ≤ g' → 2 ≤ g) ∧ (T2 (rP x g)).getD i 0 = (T1 (rP x g')).getD i' 0 ∧
  (∀ j, j < 4 → ∀ k, giC S2 ((T1 (rP x g')).getD i' 0 + j) k = giC S1 ((T1 (rP x g')).getD i' 0 + j) k) ∧
  (∀ k, 14 ≤ k → k ≤ 26 → H2.2 k (hM H g' i') = H.2 k (hM H g' i')) ∧ (¬ hT H g' → H2.2 27 (hM H g' i') = H.2 27 (hM H g' i')) ∧ (∀ n, n < 400 → H2.2 28 (400 * hM H g' i' + n) = H.2 28 (400 * hM H g' i' + n)) ∧ ∀ n, n < 200 → H2.2 29 (200 * hM H g' i' + n) = H.2 29 (200 * hM H g' i' + n)
theorem lone0 (hc : HC M H) {g i : Nat} (l : hL H g i) (t : ¬ hT H g) : i = 0 := by
  have a := (hc.1 g l.1).2.2 t
  have b := l.2
  omega
theorem wR.ex (w : wR S1 T1 x H) (hc : HC M H) (e0 : H2.1 0 = H.1 0) (ln : ∀ g, g < 10 → ((T2 (rP x g)).length : Int) = hN H2 g) (all : ∀ g i, hL H2 g i → ¬ (g = gs ∧ i = is) → ∃ g' i', oM S1 S2 T1 T2 x H H2 g i g' i') (exm : hL H2 gs is → mR S2 ((T2 (rP x gs)).getD is 0) H2 (hM H2 gs is)) : wR S2 T2 x H2 := by
  intro g hg
  refine ⟨ln g hg, fun i hi => ?_⟩
  have l : hL H2 g i := ⟨hg, by have := ln g hg; omega⟩
  by_cases z : g = gs ∧ i = is
  · obtain ⟨rfl, rfl⟩ := z
    exact exm l
  · obtain ⟨g', i', l', m', t', _, e', s, f, _, fx, fb⟩ := all g i l z
    rw [e', m']
    have b := (hc.2.2.2.2.1 g' i' l').2.1.2
    exact ((w g' l'.1).2 i' (w.mem l')).cg s e0 (fun k h1 h2 => f k h1 (by omega)) (fun n hn => fx n (by omega)) fb
theorem oR.ex (o : oR S1 T1 x H) (hc : HC M H) (hd : (H2.1 35 = 0 → giC S2 (x + 3) 0 = 0) ∧ (H2.1 35 ≠ 0 → giC S2 (x + 3) 0 = if H2.1 36 = 0 then 2 else 3)) (hp : ∀ p, p < 8 → (H2.2 34 p = 0 → giC S2 (x + 13 + 3 * p) 0 = 0) ∧ (H2.2 34 p ≠ 0 → giC S2 (x + 13 + 3 * p) 0 = if H2.2 37 p = 0 then (if H2.2 27 (hM H2 (p + 2) 0) = 0 then 2 else 1) else 3)) (all : ∀ g i, hL H2 g i → ¬ (g = gs ∧ i = is) → ∃ g' i', oM S1 S2 T1 T2 x H H2 g i g' i') (exo : hL H2 gs is → ¬ hT H2 gs → giC S2 ((T2 (rP x gs)).getD is 0) 10 = H2.2 25 (hM H2 gs is) ∧ (H2.2 25 (hM H2 gs is) = 0 → H2.2 26 (hM H2 gs is) = 0) ∧ (H2.2 27 (hM H2 gs is) ≠ 0 → 2 ≤ gs ∧ H2.2 25 (hM H2 gs is) = 0)) : oR S2 T2 x H2 := by
  refine ⟨hd, hp, fun g hg l t => ?_, fun g hg l t => ?_, fun g hg l t => ?_⟩
  · by_cases z : g = gs ∧ 0 = is
    · obtain ⟨rfl, rfl⟩ := z
      exact (exo l t).1
    · obtain ⟨g', i', l', m', t', _, e', s, f, _⟩ := all g 0 l z
      have u := mt t'.mpr t
      have e0 := lone0 hc l' u
      subst e0
      rw [e', m', f 25 (by omega) (by omega)]
      exact (s 0 (by omega) 10).trans (o.2.2.1 g' l'.1 l' u)
  · by_cases z : g = gs ∧ 0 = is
    · obtain ⟨rfl, rfl⟩ := z
      exact (exo l t).2.1
    · obtain ⟨g', i', l', m', t', _, e', s, f, _⟩ := all g 0 l z
      have u := mt t'.mpr t
      have e0 := lone0 hc l' u
      subst e0
      rw [m', f 25 (by omega) (by omega), f 26 (by omega) (by omega)]
      exact o.2.2.2.1 g' l'.1 l' u
  · by_cases z : g = gs ∧ 0 = is
    · obtain ⟨rfl, rfl⟩ := z
      exact (exo l t).2.2
    · obtain ⟨g', i', l', m', t', g2, e', s, f, f7, _⟩ := all g 0 l z
      have u := mt t'.mpr t
      have e0 := lone0 hc l' u
      subst e0
      rw [m', f 25 (by omega) (by omega), f7 u]
      intro y
      have v := o.2.2.2.2 g' l'.1 l' u y
      exact ⟨g2 u v.1, v.2⟩
/-- what a laid one's subject is, in both -/
def jN (N : Int) (S : Cst) (T : Nat → List Nat) (x : Nat) (H : HS) (j : Nat) : Prop :=
  (1 ≤ (giC S ((T (rP x j)).getD 0 0) 1).toInt ∧ (giC S ((T (rP x j)).getD 0 0) 1).toInt ≤ (giC S x 8).toInt) ∧ (0 ≤ (H.1 30 - H.2 23 (hM H j 0)).toInt ∧ (H.1 30 - H.2 23 (hM H j 0)).toInt < N) ∧
    (∀ g i, hL H g i → hT H g → (giC S ((T (rP x j)).getD 0 0) 1 = giC S ((T (rP x g)).getD i 0) 0 ↔ H.2 23 (hM H j 0) = H.2 22 (hM H g i))) ∧
    ∀ g, hL H g 0 → ¬ hT H g → H.2 23 (hM H j 0) ≠ H.2 22 (hM H g 0)
theorem nR.ex (n : nR N S1 T1 x H) (hc : HC M H) (hc2 : HC M2 H2) (h8 : (giC S1 x 8).toInt ≤ (giC S2 x 8).toInt ∧ (giC S2 x 8).toInt ≤ N2) (age : ∀ s : Int32, 0 ≤ (H.1 30 - s).toInt → (H.1 30 - s).toInt < N → 0 ≤ (H2.1 30 - s).toInt ∧ (H2.1 30 - s).toInt < N2) (all : ∀ g i, hL H2 g i → ¬ (g = gs ∧ i = is) → ∃ g' i', oM S1 S2 T1 T2 x H H2 g i g' i') (exn : hL H2 gs is → hT H2 gs → H2.2 26 (hM H2 gs is) = 0 ∧ (H2.2 14 (hM H2 gs is) ≠ 9 → giC S2 ((T2 (rP x gs)).getD is 0) 0 ≠ 0) ∧ (giC S2 ((T2 (rP x gs)).getD is 0) 0 = 0 ∨ ((giC S1 x 8).toInt < (giC S2 ((T2 (rP x gs)).getD is 0) 0).toInt ∧ (giC S2 ((T2 (rP x gs)).getD is 0) 0).toInt ≤ (giC S2 x 8).toInt))) (exs : hL H2 gs is → ∀ j, hL H j 0 → ¬ hT H j → H.2 25 (hM H j 0) ≠ 0 → (H.2 14 (hM H j 0) = 2 ∨ H.2 14 (hM H j 0) = 3) → H.2 23 (hM H j 0) ≠ H2.2 22 (hM H2 gs is)) (exj : hL H2 gs is → ¬ hT H2 gs → H2.2 25 (hM H2 gs is) ≠ 0 → (H2.2 14 (hM H2 gs is) = 2 ∨ H2.2 14 (hM H2 gs is) = 3) → jN N2 S2 T2 x H2 gs) : nR N2 S2 T2 x H2 := by
  obtain ⟨n1, n2, n3, n4⟩ := n
  refine ⟨⟨by omega, h8.2⟩, fun g i l t => ?_, fun g i g2 i2 l t l2 t2 k0 e => ?_, fun j l t d k => ?_⟩
  · by_cases z : g = gs ∧ i = is
    · obtain ⟨rfl, rfl⟩ := z
      obtain ⟨p1, p2, p3⟩ := exn l t
      refine ⟨p2, ?_, p1⟩
      rcases p3 with y | y
      · rw [y, i0]
        omega
      · omega
    · obtain ⟨g', i', l', m', t', _, e', s, f, _⟩ := all g i l z
      obtain ⟨p1, p3, p2⟩ := n2 g' i' l' (t'.mp t)
      have s0 : giC S2 ((T1 (rP x g')).getD i' 0) 0 = giC S1 ((T1 (rP x g')).getD i' 0) 0 := s 0 (by omega) 0
      rw [e', m', s0, f 14 (by omega) (by omega), f 26 (by omega) (by omega)]
      exact ⟨p1, by omega, p2⟩
  · by_cases z : g = gs ∧ i = is
    · by_cases z2 : g2 = gs ∧ i2 = is
      · exact ⟨z.1.trans z2.1.symm, z.2.trans z2.2.symm⟩
      · obtain ⟨rfl, rfl⟩ := z
        obtain ⟨p1, p2, p3⟩ := exn l t
        obtain ⟨g', i', l', m', t', _, e', s, f, _⟩ := all g2 i2 l2 z2
        have s0 : giC S2 ((T1 (rP x g')).getD i' 0) 0 = giC S1 ((T1 (rP x g')).getD i' 0) 0 := s 0 (by omega) 0
        have b := (n2 g' i' l' (t'.mp t2)).2.1
        rcases p3 with y | y
        · exact absurd y k0
        · rw [e, e', s0] at y
          omega
    · obtain ⟨g', i', l', m', t', _, e', s, f, _⟩ := all g i l z
      have s0 : giC S2 ((T1 (rP x g')).getD i' 0) 0 = giC S1 ((T1 (rP x g')).getD i' 0) 0 := s 0 (by omega) 0
      by_cases z2 : g2 = gs ∧ i2 = is
      · obtain ⟨rfl, rfl⟩ := z2
        obtain ⟨p1, p2, p3⟩ := exn l2 t2
        have b := (n2 g' i' l' (t'.mp t)).2.1
        rcases p3 with y | y
        · exact absurd (e.trans y) k0
        · rw [← e, e', s0] at y
          omega
      · obtain ⟨g'', i'', l'', m'', t'', _, e'', s', f', _⟩ := all g2 i2 l2 z2
        have s1 : giC S2 ((T1 (rP x g'')).getD i'' 0) 0 = giC S1 ((T1 (rP x g'')).getD i'' 0) 0 := s' 0 (by omega) 0
        rw [e', s0] at k0
        rw [e', e'', s0, s1] at e
        obtain ⟨r1, r2⟩ := n3 g' i' g'' i'' l' (t'.mp t) l'' (t''.mp t2) k0 e
        refine hc2.d l l2 ?_
        rw [m', m'', r1, r2]
  · by_cases z : j = gs ∧ 0 = is
    · obtain ⟨rfl, rfl⟩ := z
      exact exj l t d k
    · obtain ⟨g', i', l', m', t', _, e', s, f, _⟩ := all j 0 l z
      have u := mt t'.mpr t
      have e0 := lone0 hc l' u
      subst e0
      have s1 : giC S2 ((T1 (rP x g')).getD 0 0) 1 = giC S1 ((T1 (rP x g')).getD 0 0) 1 := s 0 (by omega) 1
      rw [m', f 25 (by omega) (by omega)] at d
      rw [m', f 14 (by omega) (by omega)] at k
      obtain ⟨q1, q2, q3, q4⟩ := n4 g' l' u d k
      rw [e', s1, m', f 23 (by omega) (by omega)]
      refine ⟨⟨by omega, by omega⟩, age _ q2.1 q2.2, fun g i lg tg => ?_, fun g lg tg => ?_⟩
      · by_cases z2 : g = gs ∧ i = is
        · obtain ⟨rfl, rfl⟩ := z2
          obtain ⟨p1, p2, p3⟩ := exn lg tg
          have ns := exs lg g' l' u d k
          refine ⟨fun y => ?_, fun y => absurd y ns⟩
          have y' := congrArg Int32.toInt y
          rcases p3 with v | v
          · rw [v, i0] at y'
            omega
          · omega
        · obtain ⟨g'', i'', l'', m'', t'', _, e'', s', f', _⟩ := all g i lg z2
          have s2 : giC S2 ((T1 (rP x g'')).getD i'' 0) 0 = giC S1 ((T1 (rP x g'')).getD i'' 0) 0 := s' 0 (by omega) 0
          rw [e'', s2, m'', f' 22 (by omega) (by omega)]
          exact q3 g'' i'' l'' (t''.mp tg)
      · by_cases z2 : g = gs ∧ 0 = is
        · obtain ⟨rfl, rfl⟩ := z2
          exact exs lg g' l' u d k
        · obtain ⟨g'', i'', l'', m'', t'', _, e'', s', f', _⟩ := all g 0 lg z2
          have u2 := mt t''.mpr tg
          have e0 := lone0 hc l'' u2
          subst e0
          rw [m'', f' 22 (by omega) (by omega)]
          exact q4 g'' l'' u2
/-- the whole state -/
theorem RR.ex (r : RR wF N S1 T1 x H) (hc : HC M H) (hc2 : HC M2 H2) (hh : hR S2 x H2) (jj : jR wF S2 x H2) (aa : aR wF S2 x H2) (sv : sW wF S2 H2) (e0 : H2.1 0 = H.1 0) (ln : ∀ g, g < 10 → ((T2 (rP x g)).length : Int) = hN H2 g) (hd : (H2.1 35 = 0 → giC S2 (x + 3) 0 = 0) ∧ (H2.1 35 ≠ 0 → giC S2 (x + 3) 0 = if H2.1 36 = 0 then 2 else 3)) (hp : ∀ p, p < 8 → (H2.2 34 p = 0 → giC S2 (x + 13 + 3 * p) 0 = 0) ∧ (H2.2 34 p ≠ 0 → giC S2 (x + 13 + 3 * p) 0 = if H2.2 37 p = 0 then (if H2.2 27 (hM H2 (p + 2) 0) = 0 then 2 else 1) else 3)) (h8 : (giC S1 x 8).toInt ≤ (giC S2 x 8).toInt ∧ (giC S2 x 8).toInt ≤ N2) (age : ∀ s : Int32, 0 ≤ (H.1 30 - s).toInt → (H.1 30 - s).toInt < N → 0 ≤ (H2.1 30 - s).toInt ∧ (H2.1 30 - s).toInt < N2) (all : ∀ g i, hL H2 g i → ¬ (g = gs ∧ i = is) → ∃ g' i', oM S1 S2 T1 T2 x H H2 g i g' i') (exm : hL H2 gs is → mR S2 ((T2 (rP x gs)).getD is 0) H2 (hM H2 gs is)) (exo : hL H2 gs is → ¬ hT H2 gs → giC S2 ((T2 (rP x gs)).getD is 0) 10 = H2.2 25 (hM H2 gs is) ∧ (H2.2 25 (hM H2 gs is) = 0 → H2.2 26 (hM H2 gs is) = 0) ∧ (H2.2 27 (hM H2 gs is) ≠ 0 → 2 ≤ gs ∧ H2.2 25 (hM H2 gs is) = 0)) (exn : hL H2 gs is → hT H2 gs → H2.2 26 (hM H2 gs is) = 0 ∧ (H2.2 14 (hM H2 gs is) ≠ 9 → giC S2 ((T2 (rP x gs)).getD is 0) 0 ≠ 0) ∧ (giC S2 ((T2 (rP x gs)).getD is 0) 0 = 0 ∨ ((giC S1 x 8).toInt < (giC S2 ((T2 (rP x gs)).getD is 0) 0).toInt ∧ (giC S2 ((T2 (rP x gs)).getD is 0) 0).toInt ≤ (giC S2 x 8).toInt))) (exs : hL H2 gs is → ∀ j, hL H j 0 → ¬ hT H j → H.2 25 (hM H j 0) ≠ 0 → (H.2 14 (hM H j 0) = 2 ∨ H.2 14 (hM H j 0) = 3) → H.2 23 (hM H j 0) ≠ H2.2 22 (hM H2 gs is)) (exj : hL H2 gs is → ¬ hT H2 gs → H2.2 25 (hM H2 gs is) ≠ 0 → (H2.2 14 (hM H2 gs is) = 2 ∨ H2.2 14 (hM H2 gs is) = 3) → jN N2 S2 T2 x H2 gs) : RR wF N2 S2 T2 x H2 :=
  ⟨hh, r.2.1.ex hc e0 ln all exm, r.2.2.1.ex hc hd hp all exo, jj, ⟨aa, sv⟩, r.2.2.2.2.2.ex hc hc2 h8 age all exn exs exj⟩
/-! motions' cells apart from others', with the store's form alone -/
theorem dM_a (wf : wfS S2) {q q0 : Nat} (k : iK S2 q 3) (k0 : iK S2 q0 3) (ne : q ≠ q0) : ∀ j, j < 4 → ¬ dM q0 (q + j) := fun j hj y =>
  ne (mo_2 wf k k0 hj (j' := q + j - q0) (by have := y.2; omega) (by have := y.1; omega)).1
theorem dM_z {z q0 : Nat} (h : ∀ j, j < 4 → q0 + j ≠ z) : ¬ dM q0 z := fun y => h (z - q0) (by have := y.2; have := y.1; omega) (by have := y.1; omega)
theorem dM_h (ci : CI noE S1 T1 [] c1) (kx : iK S1 x 0) {q : Nat} (k : iK S1 q 3) : ¬ dM q (x + 37) ∧ ¬ dM q (x + 38) ∧ ¬ dM q (x + 39) :=
  ⟨dM_z fun _ hj => (mo_h ci kx k hj).1, dM_z fun _ hj => (mo_h ci kx k hj).2.1, dM_z fun _ hj => (mo_h ci kx k hj).2.2⟩
theorem dM_x (ci : CI noE S1 T1 [] c1) (kx : iK S1 x 0) {q : Nat} (k : iK S1 q 3) : ¬ dM q x ∧ ¬ dM q (x + 3) ∧ ¬ dM q (x + 7) ∧ ¬ dM q (x + 9) ∧ ¬ dM q (x + 11) ∧ ¬ dM q (x + 12) ∧ ∀ p, p < 8 → ¬ dM q (x + 13 + 3 * p) :=
  ⟨dM_z fun _ hj => (mo_x ci kx k hj).1, dM_z fun _ hj => (mo_x ci kx k hj).2.1, dM_z fun _ hj => (mo_x ci kx k hj).2.2.1, dM_z fun _ hj => (mo_x ci kx k hj).2.2.2.1, dM_z fun _ hj => (mo_x ci kx k hj).2.2.2.2.1, dM_z fun _ hj => (mo_x ci kx k hj).2.2.2.2.2.1, fun p hp => dM_z fun _ hj => (mo_x ci kx k hj).2.2.2.2.2.2 p hp⟩
/-- a motion's cells are no ledger's -/
theorem dM_l (ci : CI noE S1 T1 [] c1) (kx : iK S1 x 0) {q : Nat} (k : iK S1 q 3) (j : jR wF S1 x H) {l : Nat} (hl : l = x + 7 ∨ l = x + 9) : ¬ dM q ((grC S1 l 2).getD 0) := dM_z fun i hi y => by
  have W := W3k ci.wf k
  have z := (zl_k ci kx hl).2
  rcases (show i = 0 ∨ i = 1 ∨ i = 2 ∨ i = 3 by omega) with rfl | rfl | rfl | rfl
  · exact ik_ne z k (by decide) y.symm
  · exact ik_ne z W.1 (by decide) y.symm
  · rcases hl with rfl | rfl
    · exact j.2.2.2.1 _ W.1 y.symm
    · exact j.2.2.2.2.1 _ W.1 y.symm
  · exact ik_ne z W.2.2 (by decide) y.symm
theorem vCn_0s {q : Nat} : ∀ n, (∀ s, s < n → giC S1 (q + 3) s = 0) → vCn S1 q n = 0 := by
  intro n
  induction n with
  | zero => intro _; rfl
  | succ n ih =>
    intro h
    rw [vCn, ih (fun s hs => h s (by omega)), if_pos (h n (by omega))]
/-- all motions' votes are counted still: one was made anew -/
theorem sV.nw (v : sV S1) (g : gX D S1 S2) (wf : wfS S1) {q : Nat} (hk : ∀ z, iK S2 z 3 → z = q ∨ iK S1 z 3) (n : ∀ z, iK S1 z 3 → z ≠ q → ∀ j, j < 4 → ¬ D (z + j)) (hq : (giC S2 q 14).toInt = vCn S2 q 200) : sV S2 := fun z k => by
  by_cases e : z = q
  · rw [e]
    exact hq
  · have kz : iK S1 z 3 := (hk z k).resolve_left e
    have c := g.mo4 wf kz (n z kz e)
    rw [vCn_cg (c 3 (by omega)), show giC S2 z 14 = giC S1 z 14 from c 0 (by omega) 14]
    exact v z kz
end
end
section
/-! ===== frames of a step, both sides; a new slot's numbers ===== -/
section
variable {wF : Prop × (Nat → Int32) × Int32 × (Nat → Int32)} {E : Nat → Prop} {x : Nat} {S S1 S2 S3 : Cst} {T T1 T2 : Nat → List Nat} {F F1 : List Nat} {col c1 : Nat → Nat} {H H2 H3 : HS} {N N2 M M2 : Int} {D : Nat → Prop}
theorem ik_b {q c : Nat} (k : iK S2 q c) (e : eN S1 S2) (n : S2.1 = S1.1) : iK S1 q c := by
  have a : q < S1.1 := by
    rw [← n]
    exact k.1
  exact ⟨a, by rw [← (e.2 q a).1]; exact k.2⟩
theorem n1_discard (h : Sst E x S T F col S1 T1 F1 c1) {d : Nat} (o : pl x d) (e : ¬ E (d + 1)) (f : f_Y0_discard S1 x d = (0, S2)) : S2.1 = S1.1 := by
  have k := o.k h
  have w5 := h.ci.wf.w5 k.1
  obtain ⟨-, S3, T3, f1, -, f3, -⟩ := y_release h e o.o.1 o.o.2.1
  have e1 : f_Y0_discard S1 x d = (0, siC S3 d 0 0) := by
    unfold f_Y0_discard
    simp only [b_Y0_discard_8a, w5.2, Option.getD_some, f1]
  obtain ⟨-, rfl⟩ := Prod.mk.inj (f.symm.trans e1)
  exact f3.2.2.2
theorem n1_hold {q : Nat} (h : Sst E x S T F col S1 T1 (q :: F1) c1) {d : Nat} (v : Int32) (o : pl x d) (e : ¬ E (d + 1)) (hl : (T1 (d + 1)).length < 9) (f : f_Y6_hold S1 d v (some q) = (0, S2)) : S2.1 = S1.1 := by
  have k := (o.k h).1
  have w5 := h.ci.wf.w5 k
  have h2 := h.sort o v
  obtain ⟨-, S3, f1, -, f3, -⟩ := y_put h2 e o.o.1 o.o.2.1 hl
  have e1 : f_Y6_hold S1 d v (some q) = (0, S3) := by
    unfold f_Y6_hold
    simp only [b_Y6_hold_13a, gr_si, w5.2, Option.getD_some, f1]
  obtain ⟨-, rfl⟩ := Prod.mk.inj (f.symm.trans e1)
  exact f3.2.2.2
theorem n1_take (hE : ∀ c, ¬ E c) (h : Sst E x S T F col S1 T1 F1 c1) {d d2 : Nat} (o : pl x d) (o2 : pl x d2) (n : d ≠ d2) (hT : T1 (d + 1) = []) (f : f_Y6_takeFrom S1 d d2 = (0, S2)) : S2.1 = S1.1 := by
  have k := (o.k h).1
  have k2 := (o2.k h).1
  have w5 := h.ci.wf.w5 k
  have w52 := h.ci.wf.w5 k2
  have l9 := (h.ci.tp (d2 + 1) (hE _) w52.1).2.1
  have g := h.sort o (giC S1 d2 0)
  obtain ⟨-, S3, T3, f1, -, f3, -⟩ := y_pour hE g o2.o.1 o2.o.2.1 o.o.1 o.o.2.1 (by omega) (by rw [hT]; simp; exact l9)
  have e1 : f_Y6_takeFrom S1 d d2 = (0, siC S3 d2 0 0) := by
    unfold f_Y6_takeFrom
    simp only [b_Y6_takeFrom_19a, gr_si, w5.2, w52.2, Option.getD_some, f1]
  obtain ⟨-, rfl⟩ := Prod.mk.inj (f.symm.trans e1)
  exact f3.2.2.2
/-- one motion's cells, and the places' sorts -/
def D5 (x q : Nat) : Nat → Prop := fun z => dM q z ∨ pl x z
theorem frD (r : RR wF N S1 T1 x H) (ci : CI noE S1 T1 [] c1) (kx : iK S1 x 0) {q : Nat} (g : gX (D5 x q) S1 S2) (wf2 : wfS S2) (kq : iK S2 q 3 ∨ S2.1 ≤ q) (hk : ∀ z, iK S2 z 3 → z = q ∨ iK S1 z 3) (hq : iK S2 q 3 → (giC S2 q 14).toInt = vCn S2 q 200) (e : ∀ k, k ≤ 10 → k ≠ 6 → H2.1 k = H.1 k) (e39 : H2.1 39 = H.1 39) (e2 : H2.2 11 = H.2 11 ∧ H2.2 12 = H.2 12 ∧ H2.2 38 = H.2 38 ∧ H2.2 40 = H.2 40 ∧ H2.2 41 = H.2 41) : (hR S2 x H2 ∧ jR wF S2 x H2 ∧ aR wF S2 x H2 ∧ sW wF S2 H2) ∧ (∀ k, giC S2 x k = giC S1 x k) ∧ ∀ z, iK S1 z 3 → z ≠ q → ∀ j, j < 4 → ∀ i, giC S2 (z + j) i = giC S1 (z + j) i := by
  have le : S1.1 ≤ S2.1 := g.1.1.1
  have nd : ∀ z, z < S1.1 → (iK S1 q 3 → ¬ dM q z) → ¬ dM q z := fun z kz h => by
    by_cases y : q < S1.1
    · rcases kq with k | k
      · exact h ⟨y, by rw [← (g.1.2 q y).1]; exact k.2⟩
      · omega
    · exact fun w => by have := w.1; omega
  have np : ∀ z c, iK S1 z c → c ≠ 5 → ¬ pl x z := fun z c k n o => ik_ne k (pl.lt ci kx o) n rfl
  have w0 := ci.wf.w0 kx
  have k37 : iK S1 (x + 37) 1 := w0.1.1
  have w1 := ci.wf.w1 k37
  have k38 : iK S1 (x + 38) 21 := w1.1.1
  have k39 : iK S1 (x + 39) 20 := w1.1.2.2.1
  have k7 : iK S1 (x + 7) 2 := w0.1.2.2.2.2.1
  have k9 : iK S1 (x + 9) 2 := w0.1.2.2.2.2.2.1
  have k11 : iK S1 (x + 11) 6 := w0.1.2.2.2.2.2.2
  have k12 : iK S1 (x + 12) 20 := (ci.wf.w6 k11).1.1
  have n0 : ¬ D5 x q x := fun y => y.elim (nd x kx.1 (fun k => (dM_x ci kx k).1)) (np x 0 kx (by decide))
  have n37 : ¬ D5 x q (x + 37) := fun y => y.elim (nd _ k37.1 (fun k => (dM_h ci kx k).1)) (np _ 1 k37 (by decide))
  have n38 : ¬ D5 x q (x + 38) := fun y => y.elim (nd _ k38.1 (fun k => (dM_h ci kx k).2.1)) (np _ 21 k38 (by decide))
  have n39 : ¬ D5 x q (x + 39) := fun y => y.elim (nd _ k39.1 (fun k => (dM_h ci kx k).2.2)) (np _ 20 k39 (by decide))
  have n7 : ¬ D5 x q (x + 7) := fun y => y.elim (nd _ k7.1 (fun k => (dM_x ci kx k).2.2.1)) (np _ 2 k7 (by decide))
  have n9 : ¬ D5 x q (x + 9) := fun y => y.elim (nd _ k9.1 (fun k => (dM_x ci kx k).2.2.2.1)) (np _ 2 k9 (by decide))
  have n11 : ¬ D5 x q (x + 11) := fun y => y.elim (nd _ k11.1 (fun k => (dM_x ci kx k).2.2.2.2.1)) (np _ 6 k11 (by decide))
  have n12 : ¬ D5 x q (x + 12) := fun y => y.elim (nd _ k12.1 (fun k => (dM_x ci kx k).2.2.2.2.2.1)) (np _ 20 k12 (by decide))
  have nl : ∀ l, l = x + 7 ∨ l = x + 9 → ¬ D5 x q l ∧ ¬ D5 x q ((grC S1 l 2).getD 0) := fun l hl => by
    have z := (zl_k ci kx hl).2
    refine ⟨?_, fun y => y.elim (nd _ z.1 (fun k => dM_l ci kx k r.2.2.2.1 hl)) (np _ 20 z (by decide))⟩
    rcases hl with rfl | rfl
    · exact n7
    · exact n9
  have mo : ∀ z, iK S1 z 3 → z ≠ q → ∀ j, j < 4 → ¬ D5 x q (z + j) := fun z k n j hj y => by
    rcases y with y | y
    · rcases kq with kq | kq
      · exact dM_a wf2 (k.n g.1) kq n j hj y
      · have := y.1
        have W := W3k ci.wf k
        have := k.1
        have := W.1.1
        have := W.2.1.1
        have := W.2.2.1
        rcases (show j = 0 ∨ j = 1 ∨ j = 2 ∨ j = 3 by omega) with rfl | rfl | rfl | rfl <;> omega
    · obtain ⟨-, m3, -, -, -, -, m13⟩ := mo_x ci kx k hj
      rcases y with y | ⟨p, hp, y⟩
      · exact m3 y
      · exact m13 p hp y
  refine ⟨⟨r.1.gx g ci kx n37 n38 n39 (fun k hk' => e k (by omega) (by omega)) ⟨e2.1, e2.2.1⟩, r.2.2.2.1.gx g ci kx nl (e 7 (by omega) (by omega)) (e 8 (by omega) (by omega)) e2.2.2.2.1 e2.2.2.2.2, r.2.2.2.2.1.1.gx g ci kx n0 n11 n12 (e 9 (by omega) (by omega)) (e 10 (by omega) (by omega)) e39 (by rw [e 8 (by omega) (by omega)]; exact Int.le_refl _) e2.2.2.1, fun z k => ?_, by rw [e 0 (by omega) (by omega)]; exact r.2.2.2.2.1.2.2.1, by rw [e2.2.2.2.1]; exact r.2.2.2.2.1.2.2.2⟩, g.2.1 x kx.1 (by rw [kx.2]; decide) n0, fun z k n => g.mo4 ci.wf k (mo z k n)⟩
  by_cases n : z = q
  · rw [n] at k ⊢
    exact hq k
  · have kz := (hk z k).resolve_left n
    have c := g.mo4 ci.wf kz (mo z kz n)
    rw [vCn_cg (c 3 (by omega)), show giC S2 z 14 = giC S1 z 14 from c 0 (by omega) 14]
    exact r.2.2.2.2.1.2.1 z kz
/-- the places' sorts stand but where they were written -/
theorem srt (g : gX D S1 S2) (ci : CI noE S1 T1 [] c1) (kx : iK S1 x 0) {d : Nat} (o : pl x d) (n : ¬ D d) : giC S2 d 0 = giC S1 d 0 := by
  have k := pl.lt ci kx o
  exact g.2.1 d k.1 (by rw [k.2]; decide) n 0
/-- a new slot's state -/
def nwH (S : HS) (k z : Int32) (u : Nat → Int32) : HS := sA (sR (aN (nL S k z) z) 29 u) 16 z.toNatClampNeg (-1)
theorem nwH_z (S : HS) (k z : Int32) (u : Nat → Int32) : ((nwH S k z u).2 14 z.toNatClampNeg = k ∧ (nwH S k z u).2 15 z.toNatClampNeg = -1 ∧ (nwH S k z u).2 16 z.toNatClampNeg = -1 ∧ (nwH S k z u).2 17 z.toNatClampNeg = 0 ∧ (nwH S k z u).2 18 z.toNatClampNeg = 0) ∧ ((nwH S k z u).2 19 z.toNatClampNeg = 0 ∧ (nwH S k z u).2 20 z.toNatClampNeg = 0 ∧ (nwH S k z u).2 21 z.toNatClampNeg = 0 ∧ (nwH S k z u).2 22 z.toNatClampNeg = S.1 30 + 1 ∧ (nwH S k z u).2 23 z.toNatClampNeg = 0) ∧ (nwH S k z u).2 24 z.toNatClampNeg = 0 ∧ (nwH S k z u).2 25 z.toNatClampNeg = 0 ∧ (nwH S k z u).2 26 z.toNatClampNeg = 0 ∧ (nwH S k z u).2 27 z.toNatClampNeg = 0 :=
  ⟨⟨if_pos rfl, if_pos rfl, if_pos rfl, if_pos rfl, if_pos rfl⟩, ⟨if_pos rfl, if_pos rfl, if_pos rfl, if_pos rfl, if_pos rfl⟩, if_pos rfl, if_pos rfl, if_pos rfl, if_pos rfl⟩
theorem nwH_o (S : HS) (k z : Int32) (u : Nat → Int32) {m : Nat} (h : m ≠ z.toNatClampNeg) {j : Nat} (h1 : 14 ≤ j) (h2 : j ≤ 27) : (nwH S k z u).2 j m = S.2 j m := by
  rcases (show j = 14 ∨ j = 15 ∨ j = 16 ∨ j = 17 ∨ j = 18 ∨ j = 19 ∨ j = 20 ∨ j = 21 ∨ j = 22 ∨ j = 23 ∨ j = 24 ∨ j = 25 ∨ j = 26 ∨ j = 27 by omega) with rfl | rfl | rfl | rfl | rfl | rfl | rfl | rfl | rfl | rfl | rfl | rfl | rfl | rfl <;> exact if_neg h
theorem nwH_1 (S : HS) (k z : Int32) (u : Nat → Int32) {j : Nat} (h : j ≠ 30) : (nwH S k z u).1 j = S.1 j := if_neg h
/-- a new motion, in both -/
theorem mR_new {q m : Nat} {k w : Int32} (a : giC S2 q 2 = k ∧ giC S2 q 3 = w ∧ giC S2 q 4 = -1 ∧ giC S2 q 5 = 0 ∧ giC S2 q 6 = 0) (b : giC S2 q 7 = 0 ∧ giC S2 q 8 = 0 ∧ giC S2 q 9 = 0 ∧ giC S2 q 11 = 0) (v : ∀ s, s < 200 → giC S2 (q + 3) s = 0) (v14 : (giC S2 q 14).toInt = 0) (t : giC S2 (q + 1) 1 = 0) (a' : H2.2 14 m = k ∧ H2.2 15 m = w ∧ H2.2 16 m = -1 ∧ H2.2 17 m = 0 ∧ H2.2 18 m = 0) (b' : H2.2 19 m = 0 ∧ H2.2 20 m = 0 ∧ H2.2 21 m = 0 ∧ H2.2 24 m = 0 ∧ H2.2 26 m = 0) (v' : ∀ s, s < 200 → H2.2 29 (200 * m + s) = 2) : mR S2 q H2 m := by
  refine ⟨⟨a.1.trans a'.1.symm, a.2.1.trans a'.2.1.symm, a.2.2.1.trans a'.2.2.1.symm, a.2.2.2.1.trans a'.2.2.2.1.symm, a.2.2.2.2.trans a'.2.2.2.2.symm⟩, ⟨b.1.trans b'.2.2.2.1.symm, b.2.2.2.trans b'.2.2.2.2.symm⟩, fun _ => ⟨b.2.1.trans b'.2.1.symm, b.2.2.1.trans b'.2.2.1.symm⟩, ⟨t.trans b'.1.symm, fun i hi => ?_⟩, fun s hs => Or.inl ⟨v' s hs, v s hs⟩, ⟨fun s hs _ => v s hs, ?_⟩, fun _ _ => ⟨b'.2.1, b'.2.2.1, b'.2.2.2.2⟩⟩
  · rw [b'.1, i0] at hi
    omega
  · rw [v14, vCn_0s 200 v]
    rfl
theorem nM.cg {q : Nat} {v : Int32} (h : nM S1 q v) (c : ∀ j, j < 4 → ∀ i, giC S2 (q + j) i = giC S1 (q + j) i) : nM S2 q v := by
  obtain ⟨⟨a0, a1, a2, a3, a4, a5, a6⟩, ⟨b1, b2, b3, b4, b5⟩, cc, d⟩ := h
  have o : ∀ i, giC S2 q i = giC S1 q i := c 0 (by omega)
  exact ⟨⟨(o 0).trans a0, (o 1).trans a1, (o 2).trans a2, (o 3).trans a3, (o 4).trans a4, (o 5).trans a5, (o 6).trans a6⟩, ⟨(o 7).trans b1, (o 8).trans b2, (o 9).trans b3, (o 10).trans b4, (o 11).trans b5⟩, fun s hs => (c 3 (by omega) s).trans (cc s hs), by rw [o]; exact d⟩
end
end
section
/-! ===== the deeds: a new draft, a ruling, adjourning ===== -/
section
variable {wF : Prop × (Nat → Int32) × Int32 × (Nat → Int32)} {E : Nat → Prop} {x : Nat} {S S1 S2 S3 : Cst} {T T1 T2 : Nat → List Nat} {F F1 : List Nat} {col c1 : Nat → Nat} {H H2 H3 : HS} {N N2 M M2 : Int} {D : Nat → Prop}
theorem ds_10 (a : AS x S T col S1 T1 c1) (r : RR wF N S1 T1 x H) (h : HA H) (bN : 0 ≤ N ∧ N ≤ 1000000) (i b c d : Int32) (hi : 1 ≤ i.toInt ∧ i.toInt ≤ 8) : DS wF (N + 1) x S T col (f_Y1_perform S1 x 10 i b c d) (f_X11_does H 10 i b c d) := by
  have o3 : pl x (x + 3) := Or.inl rfl
  have w0 := a.w0
  -- the class
  obtain ⟨-, S2, T2, f1, f2, f3, f4, f5, f6⟩ := y_discard a.1 o3 (noE_n _)
  have n12 := n1_discard a.1 o3 (noE_n _) f1
  have b1 := mT_b f2.ci f2.k1
  have b2 := l1_b f2.ci f2.k1
  have b3 : (T2 (x + 4)).length = 0 := by rw [f5]; rfl
  have sv2 : sV S2 := r.2.2.2.2.1.2.1.gx f3 a.ci.wf (fun q k j hj y => (mo_x a.ci a.k1 k hj).2.1 y) (fun q k => ik_b k f3.1 n12)
  obtain ⟨S3, T3, q, c3, g1, g2, g3, g4, g5, g6, g7, g8, g9⟩ := newMot_v f2 (fun z => by rw [z] at b1; simp only [List.length_nil] at b1 ⊢; omega) i sv2
  have hT3 : T3 (x + 3 + 1) = [] := by rw [g6 _ (by omega)]; exact f5
  obtain ⟨-, S4, r2, r3, r4, r5⟩ := y_hold g2 2 o3 (noE_n _) (by rw [hT3]; decide)
  have n34 := n1_hold g2 2 o3 (noE_n _) (by rw [hT3]; decide) r2
  have w2 := f2.ci.wf.w0 f2.k1
  have e1 : f_Y1_perform S1 x 10 i b c d = (i, S4) := by
    unfold f_Y1_perform b_Y1_perform_199a f_Y1_begin b_Y1_begin_8a b_Y1_begin_18a b_Y1_begin_21a
    rw [if_neg (by decide), if_neg (by decide), if_neg (by decide), if_neg (by decide), if_neg (by decide), if_neg (by decide), if_neg (by decide), if_neg (by decide), if_neg (by decide), if_pos rfl, a.g2, Option.getD_some, f1, g1, w2.2.1.2.2.1]
    simp only [Option.getD_some, r2]
  have kq : iK S4 q 3 := g8.n r4.1
  have G : gX (D5 x q) S1 S4 := (f3.mo (fun z y => Or.inr (Or.inl y))).tr ((g3.mo (fun z y => Or.inl y)).tr (r4.mo (fun z y => Or.inr (Or.inl y))))
  have cq : ∀ j, j < 4 → ∀ i, giC S4 (q + j) i = giC S3 (q + j) i := r4.mo4 g2.ci.wf g8 (fun j hj y => (mo_x r3.ci r3.k1 kq hj).2.1 y)
  have nm := g4.cg cq
  have tx : giC S4 (q + 1) 1 = 0 := (cq 1 (by omega) 1).trans g5
  -- the reference
  obtain ⟨uD, d1, d2, d3⟩ := dropDraft_e h.1.1
  have hD := dropDraft_i h.1
  have DO2 := (d_10 h.1 h.2.1.1 (by have := h.2.1.2; omega) hi 10 b c d).2
  rw [d1] at hD DO2
  have n0 : hN (sI (sR H 13 uD) 35 0) 1 = 0 := rfl
  obtain ⟨z, u, z1, z2, z3, z4, z5⟩ := newSlot_v i (slot_free hD.1.1 1 (by omega) (by rw [n0]; omega))
  have z3 : f_X11_newSlot (sI (sR H 13 uD) 35 0) i = (z, nwH (sI (sR H 13 uD) 35 0) i z u) := z3
  have z2 : uD z.toNatClampNeg = 0 := z2
  have e2 : f_X11_does H 10 i b c d = (i, sI (sI (sA (nwH (sI (sR H 13 uD) 35 0) i z u) 32 0 z) 35 1) 36 0) := by
    have e : f_X11_does H 10 i b c d = b_X11_does_a287 (f_X11_dropDraft H).2 10 i b c d := rfl
    rw [e, d1]
    unfold b_X11_does_a287 b_X11_does_a297
    rw [z3, zn0]
  have e3 : (b_X11_does_a287 (sI (sR H 13 uD) 35 0) 10 i b c d).2 = sI (sI (sA (nwH (sI (sR H 13 uD) 35 0) i z u) 32 0 z) 35 1) 36 0 := by
    unfold b_X11_does_a287 b_X11_does_a297
    rw [z3, zn0]
  rw [e3] at DO2
  rw [e1, e2]
  have zz := nwH_z (sI (sR H 13 uD) 35 0) i z u
  have zo := fun {m : Nat} (y : m ≠ z.toNatClampNeg) {j : Nat} h1 h2 => nwH_o (sI (sR H 13 uD) 35 0) i z u y (j := j) h1 h2
  have z130 : (nwH (sI (sR H 13 uD) 35 0) i z u).1 30 = H.1 30 + 1 := rfl
  have zi := fun {j : Nat} (y : j ≠ 30) => nwH_1 (sI (sR H 13 uD) 35 0) i z u (j := j) y
  have z31 : (nwH (sI (sR H 13 uD) 35 0) i z u).2 31 = H.2 31 := rfl
  have z33 : (nwH (sI (sR H 13 uD) 35 0) i z u).2 33 = H.2 33 := rfl
  have z34 : (nwH (sI (sR H 13 uD) 35 0) i z u).2 34 = H.2 34 := rfl
  have z37 : (nwH (sI (sR H 13 uD) 35 0) i z u).2 37 = H.2 37 := rfl
  have z28 : (nwH (sI (sR H 13 uD) 35 0) i z u).2 28 = H.2 28 := rfl
  have z29 : (nwH (sI (sR H 13 uD) 35 0) i z u).2 29 = u := rfl
  have zr : (nwH (sI (sR H 13 uD) 35 0) i z u).2 11 = H.2 11 ∧ (nwH (sI (sR H 13 uD) 35 0) i z u).2 12 = H.2 12 ∧ (nwH (sI (sR H 13 uD) 35 0) i z u).2 38 = H.2 38 ∧ (nwH (sI (sR H 13 uD) 35 0) i z u).2 40 = H.2 40 ∧ (nwH (sI (sR H 13 uD) 35 0) i z u).2 41 = H.2 41 := ⟨rfl, rfl, rfl, rfl, rfl⟩
  have z5 : ∀ m i, m ≠ z.toNatClampNeg → i < 200 → u (200 * m + i) = H.2 29 (200 * m + i) := z5
  have zo2 : ∀ m, m ≠ z.toNatClampNeg → ∀ j, 14 ≤ j → j ≤ 27 → (nwH (sI (sR H 13 uD) 35 0) i z u).2 j m = H.2 j m := fun m y j h1 h2 => by
    rw [zo y h1 h2]
    show (if j = 13 then uD else H.2 j) m = H.2 j m
    rw [if_neg (by omega)]
  have zi2 : ∀ j, j ≠ 30 → j ≠ 35 → (nwH (sI (sR H 13 uD) 35 0) i z u).1 j = H.1 j := fun j y y2 => by
    rw [zi y]
    exact if_neg y2
  clear zi
  generalize nwH (sI (sR H 13 uD) 35 0) i z u = K at *
  obtain ⟨H4, hH4⟩ : ∃ H4, H4 = sI (sI (sA K 32 0 z) 35 1) 36 0 := ⟨_, rfl⟩
  rw [← hH4] at DO2 ⊢
  have q1 : ∀ j, j ≠ 30 → j ≠ 35 → j ≠ 36 → H4.1 j = H.1 j := fun j y y2 y3 => by
    rw [hH4]
    show (if j = 36 then 0 else if j = 35 then 1 else K.1 j) = H.1 j
    rw [if_neg y3, if_neg y2]
    exact zi2 j y y2
  have q35 : H4.1 35 = 1 := by rw [hH4]; rfl
  have q36 : H4.1 36 = 0 := by rw [hH4]; rfl
  have q30 : H4.1 30 = H.1 30 + 1 := by rw [hH4]; exact z130
  have q2 : ∀ j, j ≠ 32 → H4.2 j = K.2 j := fun j y => by rw [hH4]; exact if_neg y
  have q32 : H4.2 32 0 = z := by rw [hH4]; rfl
  clear hH4
  have hN4 : ∀ g, g ≠ 1 → hN H4 g = hN H g := fun g n => by
    match g, n with
    | 0, _ => show (H4.1 6).toInt = _; rw [q1 6 (by decide) (by decide) (by decide)]; rfl
    | p + 2, _ => show (H4.2 34 p).toInt = _; rw [q2 34 (by decide), z34]; rfl
  have hM4 : ∀ g i, g ≠ 1 → hM H4 g i = hM H g i := fun g i n => by
    unfold hM
    match g, n with
    | 0, _ => show (H4.2 31 i).toNatClampNeg = _; rw [q2 31 (by decide), z31]; rfl
    | p + 2, _ => show (H4.2 33 (9 * p + i)).toNatClampNeg = _; rw [q2 33 (by decide), z33]; rfl
  have hT4 : ∀ g, g ≠ 1 → (hT H4 g ↔ hT H g) := fun g n => by
    match g, n with
    | 0, _ => exact Iff.rfl
    | p + 2, _ => show H4.2 37 p ≠ 0 ↔ H.2 37 p ≠ 0; rw [q2 37 (by decide), z37]
  have hN1 : hN H4 1 = 1 := by show (H4.1 35).toInt = 1; rw [q35]; rfl
  have hM1 : hM H4 1 0 = z.toNatClampNeg := by show (H4.2 32 0).toNatClampNeg = _; rw [q32]
  have nz : ∀ g i, g ≠ 1 → hL H g i → hM H g i ≠ z.toNatClampNeg := fun g i n l y => by
    have us := (h.1.1.2.1 g i l).2.2
    have e := d3 (hM H g i) (fun i' l' w => n (h.1.1.d l' l w).1.symm)
    rw [y, z2] at e
    rw [y] at us
    exact us e.symm
  have eT : ∀ g, g < 10 → g ≠ 1 → tU T3 (x + 3 + 1) (T3 (x + 3 + 1) ++ [q]) (rP x g) = T1 (rP x g) := fun g hg n => by
    have ne : rP x g ≠ x + 3 + 1 := fun y => n (rP_inj (x := x) (g := g) (g' := 1) y)
    rw [tU_ne _ _ ne, g6 _ (rP_own hg).2, f6 _ ne (rP_own hg).2]
  have eT1 : tU T3 (x + 3 + 1) (T3 (x + 3 + 1) ++ [q]) (rP x 1) = [q] := by
    show tU T3 (x + 3 + 1) (T3 (x + 3 + 1) ++ [q]) (x + 3 + 1) = [q]
    rw [tU_at, hT3]
    rfl
  obtain ⟨⟨K1, K2, K3, K4⟩, K8, Kc⟩ := frD (H2 := H4) r a.ci a.k1 G r3.ci.wf (Or.inl kq) (fun z k => (g7 z (ik_b k r4.1 n34)).imp id (fun k2 => ik_b k2 f3.1 n12)) (fun _ => by rw [nm.2.2.2, vCn_0s 200 nm.2.2.1]; rfl) (fun k h1 h2 => q1 k (by omega) (by omega) (by omega)) (q1 39 (by decide) (by decide) (by decide)) ⟨(q2 11 (by decide)).trans zr.1, (q2 12 (by decide)).trans zr.2.1, (q2 38 (by decide)).trans zr.2.2.1, (q2 40 (by decide)).trans zr.2.2.2.1, (q2 41 (by decide)).trans zr.2.2.2.2⟩
  have st : ∀ p, p < 8 → giC S4 (x + 13 + 3 * p) 0 = giC S1 (x + 13 + 3 * p) 0 := fun p hp => by
    have o : pl x (x + 13 + 3 * p) := Or.inr ⟨p, hp, rfl⟩
    have k2 := o.lt f2.ci f2.k1
    have k3 := o.lt g2.ci g2.k1
    have nq : ¬ dM q (x + 13 + 3 * p) := (dM_x r3.ci r3.k1 kq).2.2.2.2.2.2 p hp
    rw [r4.2.1 _ k3.1 (by rw [k3.2]; decide) (by omega), g3.2.1 _ k2.1 (by rw [k2.2]; decide) nq]
    exact srt f3 a.ci a.k1 o (by omega)
  have nq1 : ∀ g i, hL H g i → (T1 (rP x g)).getD i 0 ≠ q ∨ g = 1 := fun g i l => by
    by_cases y : g = 1
    · exact Or.inr y
    · have m : (T1 (rP x g)).getD i 0 ∈ T1 (rP x g) := gD_mem (r.2.1.mem l)
      left
      intro w
      rw [w] at m
      rw [← f6 _ (fun v => y (rP_inj (x := x) (g := g) (g' := 1) v)) (rP_own l.1).2] at m
      exact g9 _ (rP_own l.1).2 m
  refine ⟨S4, _, c3, rfl, r3, r.ex (gs := 1) (is := 0) h.1.1 DO2.1.1 K1 K2 K3 K4 (q1 0 (by decide) (by decide) (by decide)) (fun g hg => ?_) ⟨fun y => ?_, fun _ => ?_⟩ (fun p hp => ⟨fun y => ?_, fun y => ?_⟩) ⟨?_, ?_⟩ (fun s h1 h2 => ?_) (fun g i l n => ?_) (fun _ => ?_) (fun _ _ => ⟨?_, fun _ => ?_, fun y => ?_⟩) (fun _ t => ?_) (fun _ j l t d k => ?_) (fun _ _ y => ?_)⟩
  · by_cases y : g = 1
    · rw [y, eT1, hN1]
      rfl
    · rw [eT g hg y, hN4 g y]
      exact (r.2.1 g hg).1
  · rw [q35] at y
    exact absurd y (by decide)
  · rw [q36, if_pos rfl]
    exact r5
  · rw [q2 34 (by decide), z34] at y
    rw [st p hp]
    exact (r.2.2.1.2.1 p hp).1 y
  · rw [q2 34 (by decide), z34] at y
    rw [st p hp, q2 37 (by decide), z37, hM4 _ _ (by omega), q2 27 (by decide), (r.2.2.1.2.1 p hp).2 y]
    have y' := mt iEq.mpr y
    rw [i0] at y'
    have b := (h.1.1.1 (p + 2) (by omega)).1
    have l : hL H (p + 2) 0 := ⟨by omega, by show ((0 : Nat) : Int) < (H.2 34 p).toInt; have : hN H (p + 2) = (H.2 34 p).toInt := rfl; omega⟩
    rw [zo2 _ (nz _ _ (by omega) l) 27 (by omega) (by omega)]
  · rw [K8]
    exact Int.le_refl _
  · rw [K8]
    have := r.2.2.2.2.2.1.2
    omega
  · rw [q30, ageS ⟨h1, h2⟩ bN.2]
    omega
  · by_cases y : g = 1
    · exfalso
      have l2 := l.2
      rw [y, hN1] at l2
      exact n ⟨y, by omega⟩
    · have l' : hL H g i := ⟨l.1, by rw [← hN4 g y]; exact l.2⟩
      have nq := (nq1 g i l').resolve_right y
      have kz := a.m3 (gD_mem (r.2.1.mem l'))
      have nz' := nz g i y l'
      refine ⟨g, i, l', hM4 g i y, hT4 g y, fun _ => id, by rw [eT g l.1 y], Kc _ kz nq, fun k h1 h2 => ?_, fun _ => ?_, fun n' hn => ?_, fun n' hn => ?_⟩
      · rw [q2 k (by omega)]
        exact zo2 _ nz' k h1 (by omega)
      · rw [q2 27 (by decide)]
        exact zo2 _ nz' 27 (by omega) (by omega)
      · rw [q2 28 (by decide), z28]
      · rw [q2 29 (by decide), z29]
        exact z5 _ _ nz' hn
  · rw [eT1, hM1]
    show mR S4 q H4 z.toNatClampNeg
    have o := fun j (y : j ≠ 32) => congrFun (q2 j y) z.toNatClampNeg
    refine mR_new ⟨nm.1.2.2.1, nm.1.2.2.2.1, nm.1.2.2.2.2.1, nm.1.2.2.2.2.2.1, nm.1.2.2.2.2.2.2⟩ ⟨nm.2.1.1, nm.2.1.2.1, nm.2.1.2.2.1, nm.2.1.2.2.2.2⟩ nm.2.2.1 nm.2.2.2 tx ⟨(o 14 (by decide)).trans zz.1.1, (o 15 (by decide)).trans zz.1.2.1, (o 16 (by decide)).trans zz.1.2.2.1, (o 17 (by decide)).trans zz.1.2.2.2.1, (o 18 (by decide)).trans zz.1.2.2.2.2⟩ ⟨(o 19 (by decide)).trans zz.2.1.1, (o 20 (by decide)).trans zz.2.1.2.1, (o 21 (by decide)).trans zz.2.1.2.2.1, (o 24 (by decide)).trans zz.2.2.1, (o 26 (by decide)).trans zz.2.2.2.2.1⟩ (fun s hs => ?_)
    rw [q2 29 (by decide), z29]
    exact z4 s hs
  · rw [eT1, hM1, q2 25 (by decide), zz.2.2.2.1]
    exact nm.2.1.2.2.2.1
  · rw [hM1, q2 26 (by decide)]
    exact zz.2.2.2.2.1
  · rw [hM1, q2 27 (by decide)] at y
    exact absurd zz.2.2.2.2.2 y
  · exact absurd q36 t
  · rw [hM1, q2 22 (by decide), zz.2.1.2.2.2.1]
    have ag := (r.2.2.2.2.2.2.2.2 j l t d k).2.1
    exact ageN ag bN.2
  · rw [hM1, q2 25 (by decide)] at y
    exact absurd zz.2.2.2.1 y
end
end
section
/-! ===== the deeds: a ruling ===== -/
section
variable {wF : Prop × (Nat → Int32) × Int32 × (Nat → Int32)} {E : Nat → Prop} {x : Nat} {S S1 S2 S3 : Cst} {T T1 T2 : Nat → List Nat} {F F1 : List Nat} {col c1 : Nat → Nat} {H H2 H3 : HS} {N N2 M M2 : Int} {D : Nat → Prop}
theorem gD_app {l : List Nat} {q i : Nat} (h : i < l.length) : (l ++ [q]).getD i 0 = l.getD i 0 := by
  rw [List.getD_eq_getElem?_getD, List.getD_eq_getElem?_getD, List.getElem?_append_left h]
theorem gD_end {l : List Nat} {q i : Nat} (h : i = l.length) : (l ++ [q]).getD i 0 = q := by
  rw [List.getD_eq_getElem?_getD, List.getElem?_append_right (by omega), h, Nat.sub_self]
  rfl
theorem ds_19 (a : AS x S T col S1 T1 c1) (r : RR wF N S1 T1 x H) (h : HA H) (bN : 0 ≤ N ∧ N ≤ 1000000) (i b c d : Int32) (hp6 : 1 ≤ (H.1 6).toInt ∧ (H.1 6).toInt ≤ 8) : DS wF (N + 1) x S T col (f_Y1_perform S1 x 19 i b c d) (f_X11_does H 19 i b c d) := by
  have w0 := a.w0
  -- the class
  have b1 := mT_b a.ci a.k1
  have b2 := l1_b a.ci a.k1
  have b3 := l4_b a.ci a.k1
  have ln := rr_n r.2.1
  have hl : (T1 (x + 1)).length < 9 := by omega
  obtain ⟨S3, T3, q, c3, g1, g2, g3, g4, g5, g6, g7, g8, g9⟩ := newMot_v a.1 (fun z => by rw [z] at b1; simp only [List.length_nil] at b1 ⊢; omega) 9 r.2.2.2.2.1.2.1
  have w3 := g2.ci.wf.w0 g2.k1
  have u := (QU.rf g2).mI g8 (g2.fc q (List.mem_cons_self ..)) 3 (giC S3 (x + 37) 3) (by omega) (by omega)
  have w4 := u.w0
  have hT3 : T3 (x + 1) = T1 (x + 1) := g6 _ (by omega)
  obtain ⟨-, S5, r2, r3, r4, -⟩ := y_put u.1 (P := x + 1) (noE_n _) (Or.inr (Or.inl rfl)) (by omega) (by rw [hT3]; exact hl)
  have e1 : f_Y1_perform S1 x 19 i b c d = (9, S5) := by
    unfold f_Y1_perform b_Y1_perform_280a f_Y1_putRuling b_Y1_putRuling_6a b_Y1_putRuling_26a
    rw [if_neg (by decide), if_neg (by decide), if_neg (by decide), if_neg (by decide), if_neg (by decide), if_neg (by decide), if_neg (by decide), if_neg (by decide), if_neg (by decide), if_neg (by decide), if_neg (by decide), if_neg (by decide), if_neg (by decide), if_neg (by decide), if_neg (by decide), if_neg (by decide), if_neg (by decide), if_neg (by decide), if_pos rfl, g1]
    simp only [Option.getD_some]
    rw [w3.2.1.1, Option.getD_some, w4.2.1.2.1, Option.getD_some, r2]
  have k3 : iK (siC S3 q 3 (giC S3 (x + 37) 3)) q 3 := ik_si.mpr g8
  have kq : iK S5 q 3 := k3.n r4.1
  have n35 : S5.1 = S3.1 := r4.2.2.2
  have gq : gX (dM q) S3 (siC S3 q 3 (giC S3 (x + 37) 3)) := (gX.si S3 q 3 (giC S3 (x + 37) 3)).mo (fun z y => by rw [y]; exact ⟨Nat.le_refl _, Nat.le_add_right _ _⟩)
  have G : gX (D5 x q) S1 S5 := (g3.mo (fun z y => Or.inl y)).tr ((gq.mo (fun z y => Or.inl y)).tr (r4.x (D := D5 x q)))
  have cq : ∀ j, j < 4 → ∀ i, giC S5 (q + j) i = giC (siC S3 q 3 (giC S3 (x + 37) 3)) (q + j) i := (r4.x (D := fun _ => False)).mo4 u.1.ci.wf k3 (fun j hj y => y)
  have cq3 : ∀ i, i ≠ 3 → giC S5 q i = giC S3 q i := fun i n => by
    exact (cq 0 (by omega) i).trans (gi_o n)
  have cqj : ∀ j i, 0 < j → j < 4 → giC S5 (q + j) i = giC S3 (q + j) i := fun j i h1 h2 => by
    rw [cq j h2 i, gi_si, if_neg (fun y => by omega)]
  have chr : giC S3 (x + 37) 3 = H.1 2 := by
    have k37 := a.w0.1.1
    rw [g3.2.1 _ k37.1 (by rw [k37.2]; decide) (dM_h r3.ci r3.k1 kq).1]
    exact r.1.1.2.2.1
  have cq33 : giC S5 q 3 = H.1 2 := by
    refine (cq 0 (by omega) 3).trans ?_
    show giC (siC S3 q 3 (giC S3 (x + 37) 3)) q 3 = _
    rw [gi_si, if_pos ⟨rfl, rfl⟩]
    exact chr
  obtain ⟨⟨m0, m1, m2, -, m4, m5, m6⟩, ⟨m7, m8, m9, m10, m11⟩, mv, m14⟩ := g4
  have tx : giC S5 (q + 1) 1 = 0 := (cqj 1 1 (by omega) (by omega)).trans g5
  have mv' : ∀ s, s < 200 → giC S5 (q + 3) s = 0 := fun s hs => (cqj 3 s (by omega) (by omega)).trans (mv s hs)
  have m14' : (giC S5 q 14).toInt = 0 := by rw [cq3 14 (by decide)]; exact m14
  -- the reference
  have DO2 := (d_19 h.1 h.2.1.1 (by have := h.2.1.2; omega) hp6.1 hp6.2 19 i b c d).2
  obtain ⟨z, u', z1, z2, z3, z4, z5⟩ := newSlot_v 9 (slot_free h.1.1 0 (by omega) (by show (H.1 6).toInt ≤ 8; omega))
  have z3 : f_X11_newSlot H 9 = (z, nwH H 9 z u') := z3
  have zz := nwH_z H 9 z u'
  have zo := fun {m : Nat} (y : m ≠ z.toNatClampNeg) {j : Nat} h1 h2 => nwH_o H 9 z u' y (j := j) h1 h2
  have z130 : (nwH H 9 z u').1 30 = H.1 30 + 1 := rfl
  have zi := fun {j : Nat} (y : j ≠ 30) => nwH_1 H 9 z u' (j := j) y
  have zq : ∀ j, j ≠ 13 → j ≤ 12 ∨ j = 28 ∨ 30 ≤ j → (nwH H 9 z u').2 j = H.2 j := fun j y y2 => by
    show (if j = 16 then _ else if j = 29 then _ else if j = 24 then _ else if j = 18 then _ else if j = 17 then _ else if j = 22 then _ else if j = 27 then _ else if j = 26 then _ else if j = 25 then _ else if j = 23 then _ else if j = 21 then _ else if j = 20 then _ else if j = 19 then _ else if j = 15 then _ else if j = 14 then _ else if j = 13 then _ else H.2 j) = H.2 j
    repeat rw [if_neg (by omega)]
  have z29 : (nwH H 9 z u').2 29 = u' := rfl
  have e2 : f_X11_does H 19 i b c d = (9, sI (sA (sA (nwH H 9 z u') 15 z.toNatClampNeg ((nwH H 9 z u').1 2)) 31 ((nwH H 9 z u').1 6).toNatClampNeg z) 6 ((nwH H 9 z u').1 6 + 1)) := by
    have e : f_X11_does H 19 i b c d = b_X11_does_a443 (f_X11_newSlot H 9).2 19 i b c d (f_X11_newSlot H 9).1 := rfl
    rw [e, z3]
    rfl
  have e3 : (b_X11_does_a443 (f_X11_newSlot H 9).2 19 i b c d (f_X11_newSlot H 9).1).2 = sI (sA (sA (nwH H 9 z u') 15 z.toNatClampNeg ((nwH H 9 z u').1 2)) 31 ((nwH H 9 z u').1 6).toNatClampNeg z) 6 ((nwH H 9 z u').1 6 + 1) := by
    rw [z3]
    rfl
  rw [e3] at DO2
  rw [e1, e2]
  have k2 : (nwH H 9 z u').1 2 = H.1 2 := zi (by decide)
  have k6 : (nwH H 9 z u').1 6 = H.1 6 := zi (by decide)
  rw [k2, k6] at DO2 ⊢
  clear e1 e2 e3 z3
  generalize nwH H 9 z u' = K at *
  obtain ⟨H5, hH5⟩ : ∃ H5, H5 = sI (sA (sA K 15 z.toNatClampNeg (H.1 2)) 31 (H.1 6).toNatClampNeg z) 6 (H.1 6 + 1) := ⟨_, rfl⟩
  rw [← hH5] at DO2 ⊢
  have p6 := iAdd (x := H.1 6) (y := 1) (by rw [i1]; omega) (by rw [i1]; omega)
  rw [i1] at p6
  have n6 := iNat (x := H.1 6) (by omega)
  have q1 : ∀ j, j ≠ 30 → j ≠ 6 → H5.1 j = H.1 j := fun j y y2 => by
    rw [hH5]
    show (if j = 6 then _ else K.1 j) = H.1 j
    rw [if_neg y2]
    exact zi y
  have q6 : (H5.1 6).toInt = (H.1 6).toInt + 1 := by rw [hH5]; exact p6
  have q30 : H5.1 30 = H.1 30 + 1 := by rw [hH5]; exact z130
  have q2 : ∀ j, j ≠ 15 → j ≠ 31 → H5.2 j = K.2 j := fun j y y2 => by
    rw [hH5]
    show (if j = 31 then _ else if j = 15 then _ else K.2 j) = K.2 j
    rw [if_neg y2, if_neg y]
  have q15 : H5.2 15 z.toNatClampNeg = H.1 2 := by rw [hH5]; exact if_pos rfl
  have q15o : ∀ m, m ≠ z.toNatClampNeg → H5.2 15 m = K.2 15 m := fun m y => by rw [hH5]; exact if_neg y
  have q31 : H5.2 31 (H.1 6).toNatClampNeg = z := by rw [hH5]; exact if_pos rfl
  have q31o : ∀ m, m ≠ (H.1 6).toNatClampNeg → H5.2 31 m = H.2 31 m := fun m y => by
    rw [hH5]
    exact (if_neg y).trans (congrFun (zq 31 (by decide) (Or.inr (Or.inr (by decide)))) m)
  clear hH5
  have q3 : ∀ j, j ≠ 13 → j ≠ 31 → j ≤ 12 ∨ j = 28 ∨ 30 ≤ j → H5.2 j = H.2 j := fun j y y1 y2 => (q2 j (by omega) y1).trans (zq j y y2)
  have hN5 : ∀ g, g ≠ 0 → hN H5 g = hN H g := fun g n => by
    match g, n with
    | 1, _ => show (H5.1 35).toInt = _; rw [q1 35 (by decide) (by decide)]; rfl
    | p + 2, _ => show (H5.2 34 p).toInt = _; rw [q3 34 (by decide) (by decide) (by omega)]; rfl
  have hM5 : ∀ g i, g ≠ 0 → hM H5 g i = hM H g i := fun g i n => by
    unfold hM
    match g, n with
    | 1, _ => show (H5.2 32 i).toNatClampNeg = _; rw [q3 32 (by decide) (by decide) (by omega)]; rfl
    | p + 2, _ => show (H5.2 33 (9 * p + i)).toNatClampNeg = _; rw [q3 33 (by decide) (by decide) (by omega)]; rfl
  have hT5 : ∀ g, (hT H5 g ↔ hT H g) := fun g => by
    match g with
    | 0 => exact Iff.rfl
    | 1 => show H5.1 36 ≠ 0 ↔ H.1 36 ≠ 0; rw [q1 36 (by decide) (by decide)]
    | p + 2 => show H5.2 37 p ≠ 0 ↔ H.2 37 p ≠ 0; rw [q3 37 (by decide) (by decide) (by omega)]
  have hN0 : hN H5 0 = (H.1 6).toInt + 1 := q6
  have hM0 : hM H5 0 (H.1 6).toNatClampNeg = z.toNatClampNeg := by show (H5.2 31 (H.1 6).toNatClampNeg).toNatClampNeg = _; rw [q31]
  have hM0o : ∀ i, i ≠ (H.1 6).toNatClampNeg → hM H5 0 i = hM H 0 i := fun i y => by show (H5.2 31 i).toNatClampNeg = _; rw [q31o i y]; rfl
  have nz : ∀ g i, hL H g i → hM H g i ≠ z.toNatClampNeg := fun g i l y => by
    have us := (h.1.1.2.1 g i l).2.2
    rw [y] at us
    exact us z2
  have eT : ∀ g, g < 10 → g ≠ 0 → tU T3 (x + 1) (T3 (x + 1) ++ [q]) (rP x g) = T1 (rP x g) := fun g hg n => by
    have ne : rP x g ≠ x + 1 := fun y => n (rP_inj (x := x) (g := g) (g' := 0) y)
    rw [tU_ne _ _ ne, g6 _ (rP_own hg).2]
  have eT0 : tU T3 (x + 1) (T3 (x + 1) ++ [q]) (rP x 0) = T1 (x + 1) ++ [q] := by
    show tU T3 (x + 1) (T3 (x + 1) ++ [q]) (x + 1) = T1 (x + 1) ++ [q]
    rw [tU_at, hT3]
  obtain ⟨⟨K1, K2, K3, K4⟩, K8, Kc⟩ := frD (H2 := H5) r a.ci a.k1 G r3.ci.wf (Or.inl kq) (fun z k => g7 z (ik_si.mp (ik_b k r4.1 n35))) (fun _ => by rw [m14', vCn_0s 200 mv']; rfl) (fun k h1 h2 => q1 k (by omega) h2) (q1 39 (by decide) (by decide)) ⟨q3 11 (by decide) (by decide) (by omega), q3 12 (by decide) (by decide) (by omega), q3 38 (by decide) (by decide) (by omega), q3 40 (by decide) (by decide) (by omega), q3 41 (by decide) (by decide) (by omega)⟩
  have st : ∀ d, pl x d → giC S5 d 0 = giC S1 d 0 := fun d o => by
    have k2 := o.lt a.ci a.k1
    have k5 := o.lt r3.ci r3.k1
    have nq : ¬ dM q d := by
      rcases o with rfl | ⟨p, hp, rfl⟩
      · exact (dM_x r3.ci r3.k1 kq).2.1
      · exact (dM_x r3.ci r3.k1 kq).2.2.2.2.2.2 p hp
    have g35 : gX (dM q) S1 S5 := g3.tr (gq.tr r4.x)
    exact g35.2.1 d k2.1 (by rw [k2.2]; decide) nq 0
  have nq1 : ∀ g i, hL H g i → (T1 (rP x g)).getD i 0 ≠ q := fun g i l w => by
    have m : (T1 (rP x g)).getD i 0 ∈ T1 (rP x g) := gD_mem (r.2.1.mem l)
    rw [w] at m
    exact g9 _ (rP_own l.1).2 m
  refine ⟨S5, _, c3, rfl, r3, r.ex (gs := 0) (is := (H.1 6).toNatClampNeg) h.1.1 DO2.1.1 K1 K2 K3 K4 (q1 0 (by decide) (by decide)) (fun g hg => ?_) ⟨fun y => ?_, fun y => ?_⟩ (fun p hp => ⟨fun y => ?_, fun y => ?_⟩) ⟨?_, ?_⟩ (fun s h1 h2 => ?_) (fun g i l n => ?_) (fun _ => ?_) (fun _ t => absurd trivial t) (fun _ _ => ⟨?_, fun y => absurd ?_ y, Or.inl ?_⟩) (fun _ j l t d k => ?_) (fun _ t => absurd trivial t)⟩
  · by_cases y : g = 0
    · rw [y, eT0, hN0, List.length_append]
      show ((T1 (x + 1)).length + 1 : Nat) = (H.1 6).toInt + 1
      omega
    · rw [eT g hg y, hN5 g y]
      exact (r.2.1 g hg).1
  · rw [q1 35 (by decide) (by decide)] at y
    rw [st _ (Or.inl rfl)]
    exact r.2.2.1.1.1 y
  · rw [q1 35 (by decide) (by decide)] at y
    rw [st _ (Or.inl rfl), q1 36 (by decide) (by decide)]
    exact r.2.2.1.1.2 y
  · rw [q3 34 (by decide) (by decide) (by omega)] at y
    rw [st _ (Or.inr ⟨p, hp, rfl⟩)]
    exact (r.2.2.1.2.1 p hp).1 y
  · rw [q3 34 (by decide) (by decide) (by omega)] at y
    rw [st _ (Or.inr ⟨p, hp, rfl⟩), q3 37 (by decide) (by decide) (by omega), hM5 _ _ (by omega), q2 27 (by decide) (by decide), (r.2.2.1.2.1 p hp).2 y]
    have y' := mt iEq.mpr y
    rw [i0] at y'
    have b := (h.1.1.1 (p + 2) (by omega)).1
    have l : hL H (p + 2) 0 := ⟨by omega, by show ((0 : Nat) : Int) < (H.2 34 p).toInt; have : hN H (p + 2) = (H.2 34 p).toInt := rfl; omega⟩
    rw [zo (nz _ _ l) (by omega) (by omega)]
  · rw [K8]
    exact Int.le_refl _
  · rw [K8]
    have := r.2.2.2.2.2.1.2
    omega
  · rw [q30, ageS ⟨h1, h2⟩ bN.2]
    omega
  · have l' : hL H g i ∧ hM H5 g i = hM H g i ∧ (tU T3 (x + 1) (T3 (x + 1) ++ [q]) (rP x g)).getD i 0 = (T1 (rP x g)).getD i 0 := by
      by_cases y : g = 0
      · subst y
        have l2 := l.2
        rw [hN0] at l2
        have ne : i ≠ (H.1 6).toNatClampNeg := fun w => n ⟨rfl, w⟩
        refine ⟨⟨by omega, by show (i : Int) < (H.1 6).toInt; omega⟩, hM0o i ne, ?_⟩
        rw [eT0]
        exact gD_app (by omega)
      · exact ⟨⟨l.1, by rw [← hN5 g y]; exact l.2⟩, hM5 g i y, by rw [eT g l.1 y]⟩
    obtain ⟨l', em, et⟩ := l'
    have kz := a.m3 (gD_mem (r.2.1.mem l'))
    have nz' := nz g i l'
    refine ⟨g, i, l', em, hT5 g, fun _ => id, et, Kc _ kz (nq1 g i l'), fun k h1 h2 => ?_, fun _ => ?_, fun n' hn => ?_, fun n' hn => ?_⟩
    · by_cases y : k = 15
      · rw [y, q15o _ nz']
        exact zo nz' (by omega) (by omega)
      · rw [q2 k y (by omega)]
        exact zo nz' h1 (by omega)
    · rw [q2 27 (by decide) (by decide)]
      exact zo nz' (by omega) (by omega)
    · rw [q3 28 (by decide) (by decide) (by omega)]
    · rw [q2 29 (by decide) (by decide), z29]
      exact z5 _ _ nz' hn
  · rw [eT0, gD_end (by omega), hM0]
    have o := fun j (y : j ≠ 15) (y2 : j ≠ 31) => congrFun (q2 j y y2) z.toNatClampNeg
    refine mR_new (k := 9) (w := H.1 2) ⟨(cq3 2 (by decide)).trans m2, cq33, (cq3 4 (by decide)).trans m4, (cq3 5 (by decide)).trans m5, (cq3 6 (by decide)).trans m6⟩ ⟨(cq3 7 (by decide)).trans m7, (cq3 8 (by decide)).trans m8, (cq3 9 (by decide)).trans m9, (cq3 11 (by decide)).trans m11⟩ mv' m14' tx ⟨(o 14 (by decide) (by decide)).trans zz.1.1, q15, (o 16 (by decide) (by decide)).trans zz.1.2.2.1, (o 17 (by decide) (by decide)).trans zz.1.2.2.2.1, (o 18 (by decide) (by decide)).trans zz.1.2.2.2.2⟩ ⟨(o 19 (by decide) (by decide)).trans zz.2.1.1, (o 20 (by decide) (by decide)).trans zz.2.1.2.1, (o 21 (by decide) (by decide)).trans zz.2.1.2.2.1, (o 24 (by decide) (by decide)).trans zz.2.2.1, (o 26 (by decide) (by decide)).trans zz.2.2.2.2.1⟩ (fun s hs => ?_)
    rw [q2 29 (by decide) (by decide), z29]
    exact z4 s hs
  · rw [hM0, q2 26 (by decide) (by decide)]
    exact zz.2.2.2.2.1
  · rw [hM0, q2 14 (by decide) (by decide)]
    exact zz.1.1
  · rw [eT0, gD_end (by omega)]
    exact (cq3 0 (by decide)).trans m0
  · rw [hM0, q2 22 (by decide) (by decide), zz.2.1.2.2.2.1]
    have ag := (r.2.2.2.2.2.2.2.2 j l t d k).2.1
    exact ageN ag bN.2
end
end
section
/-! ===== the deeds: adjourning ===== -/
section
variable {wF : Prop × (Nat → Int32) × Int32 × (Nat → Int32)} {E : Nat → Prop} {x : Nat} {S S1 S2 S3 : Cst} {T T1 T2 : Nat → List Nat} {F F1 : List Nat} {col c1 : Nat → Nat} {H H2 H3 : HS} {N N2 M M2 : Int} {D : Nat → Prop}
theorem sI_bk (S : HS) (k : Nat) (v : Int32) : sI (sI S k v) k (S.1 k) = S := by
  refine Prod.ext (funext fun j => ?_) rfl
  show (if j = k then S.1 k else if j = k then v else S.1 j) = S.1 j
  by_cases z : j = k
  · rw [if_pos z, z]
  · rw [if_neg z, if_neg z]
theorem dropD_v {S : HS} (h : 0 ≤ (S.1 35).toInt ∧ (S.1 35).toInt ≤ 9) : ∃ u, (f_X11_dropDraft S).2 = sI (sR S 13 u) 35 0 := by
  obtain ⟨u, e, -⟩ := dropDraft_l 100000 S 0 (by rw [i0]; omega) (by rw [i0]; omega) h.2 (by rw [i0]; omega)
  exact ⟨u, e⟩
theorem adj22 (x1 x2 x3 x4 x5 x6 : Int32) : ∀ (n : Nat) (S : HS), 0 ≤ (S.1 6).toInt → (S.1 6).toInt ≤ 9 → (S.1 6).toInt < n → ∃ S', lp_X11_does_491 n S x1 x2 x3 x4 x5 x6 = (x6, sI (f_X11_dropDraft S').2 5 (-1)) ∧ S'.1 6 = 0 ∧ (∀ j, j ≠ 6 → S'.1 j = S.1 j) ∧ ∀ k, k ≠ 13 → S'.2 k = S.2 k := by
  intro n
  induction n with
  | zero => intro S h1 h9 h2; omega
  | succ n ih =>
    intro S h1 h9 h2
    rw [lp_X11_does_491]
    unfold st_X11_does_491 b_X11_does_a502 b_X11_does_a509
    by_cases c : S.1 6 ≤ 0
    · rw [if_pos c]
      have c := iLe.mp c
      rw [i0] at c
      exact ⟨S, rfl, iEq.mpr (by rw [i0]; omega), fun _ _ => rfl, fun _ _ => rfl⟩
    · rw [if_neg c]
      have c := mt iLe.mpr c
      rw [i0] at c
      have e6 := iSub (x := S.1 6) (y := 1) (by rw [i1]; omega) (by rw [i1]; omega)
      rw [i1] at e6
      have ge := goes_e S
      generalize (f_X11_goes S).2 = G at ge ⊢
      have g6 : G.1 6 = S.1 6 - 1 := by rw [ge]; rfl
      obtain ⟨S', e, a, b, d⟩ := ih G (by rw [g6]; omega) (by rw [g6]; omega) (by rw [g6]; omega)
      refine ⟨S', e, a, fun j y => ?_, fun k y => ?_⟩
      · rw [b j y, ge]
        exact if_neg y
      · rw [d k y, ge]
        exact if_neg y
theorem ds_22 (a : AS x S T col S1 T1 c1) (r : RR wF N S1 T1 x H) (h : HA H) (bN : 0 ≤ N ∧ N ≤ 1000000) (i b c d : Int32) : DS wF (N + 1) x S T col (f_Y1_perform S1 x 22 i b c d) (f_X11_does H 22 i b c d) := by
  have o3 : pl x (x + 3) := Or.inl rfl
  have w0 := a.w0
  obtain ⟨-, S2, T2, f1, f2, f3, f4, f5⟩ := y_release a.1 (noE_n _) (show own x (x + 1) from Or.inr (Or.inl rfl)) (by omega)
  have w2 := f2.ci.wf.w0 f2.k1
  obtain ⟨-, S3, T3, g1, g2, g3, g4, g5, g6⟩ := y_discard f2 o3 (noE_n _)
  have n23 := n1_discard f2 o3 (noE_n _) g1
  have w3 := g2.ci.wf.w0 g2.k1
  have e1 : f_Y1_perform S1 x 22 i b c d = (H.1 6, siC S3 (x + 37) 6 (-1)) := by
    unfold f_Y1_perform b_Y1_perform_301a f_Y1_endSitting b_Y1_endSitting_16a b_Y1_endSitting_24a
    rw [if_neg (by decide), if_neg (by decide), if_neg (by decide), if_neg (by decide), if_neg (by decide), if_neg (by decide), if_neg (by decide), if_neg (by decide), if_neg (by decide), if_neg (by decide), if_neg (by decide), if_neg (by decide), if_neg (by decide), if_neg (by decide), if_neg (by decide), if_neg (by decide), if_neg (by decide), if_neg (by decide), if_neg (by decide), if_neg (by decide), if_neg (by decide), if_pos rfl, w0.2.1.2.1, Option.getD_some, f1]
    simp only
    rw [w2.2.1.2.2.1, Option.getD_some, g1]
    simp only
    rw [w3.2.1.1, Option.getD_some, rr_z a r.2.1]
  -- the reference
  have b6 := h.1.ra.2.1
  have n6 := h.1.1.1 0 (by omega)
  have n35 := h.1.1.1 1 (by omega)
  have e6 : hN H 0 = (H.1 6).toInt := rfl
  have e35 : hN H 1 = (H.1 35).toInt := rfl
  obtain ⟨S', e, s6, s1, s2⟩ := adj22 22 i b c d (H.1 6) 100000 H (by omega) (by omega) (by omega)
  have DO2 := (d_22 22 i b c d (H.1 6) 100000 H h.1 (by omega)).2
  rw [e] at DO2
  have e2 : f_X11_does H 22 i b c d = (H.1 6, sI (f_X11_dropDraft S').2 5 (-1)) := by
    unfold f_X11_does
    rw [if_neg (by decide), if_neg (by decide), if_neg (by decide), if_neg (by decide), if_neg (by decide), if_neg (by decide), if_neg (by decide), if_neg (by decide), if_neg (by decide), if_neg (by decide), if_neg (by decide), if_neg (by decide), if_neg (by decide), if_neg (by decide), if_neg (by decide), if_neg (by decide), if_neg (by decide), if_neg (by decide), if_neg (by decide), if_neg (by decide), if_neg (by decide)]
    exact e
  have s35 : S'.1 35 = H.1 35 := s1 35 (by decide)
  obtain ⟨uD, d1⟩ := dropD_v (S := S') (by rw [s35]; omega)
  rw [e1, e2]
  rw [d1] at DO2 ⊢
  have I4 : HI ((H.1 7).toInt + 1) (sI (sR S' 13 uD) 35 0) := by
    have y := hi_5 DO2.1 ((sI (sR S' 13 uD) 35 0).1 5)
    dsimp only at y
    rw [sI_bk] at y
    exact y
  clear DO2 e e1 e2 d1
  obtain ⟨H4, hH4⟩ : ∃ H4, H4 = sI (sR S' 13 uD) 35 0 := ⟨_, rfl⟩
  rw [← hH4] at I4 ⊢
  have q1 : ∀ j, j ≠ 6 → j ≠ 35 → H4.1 j = H.1 j := fun j y y2 => by
    rw [hH4]
    exact (if_neg y2).trans (s1 j y)
  have q6 : H4.1 6 = 0 := by rw [hH4]; exact s6
  have q35 : H4.1 35 = 0 := by rw [hH4]; rfl
  have q2 : ∀ k, k ≠ 13 → H4.2 k = H.2 k := fun k y => by
    rw [hH4]
    exact (if_neg y).trans (s2 k y)
  clear hH4
  have N0 : hN H4 0 = 0 := by show (H4.1 6).toInt = 0; rw [q6]; rfl
  have N1 : hN H4 1 = 0 := by show (H4.1 35).toInt = 0; rw [q35]; rfl
  have Np : ∀ p, hN H4 (p + 2) = hN H (p + 2) := fun p => by show (H4.2 34 p).toInt = _; rw [q2 34 (by decide)]; rfl
  have Mp : ∀ p i, hM H4 (p + 2) i = hM H (p + 2) i := fun p i => by unfold hM; show (H4.2 33 (9 * p + i)).toNatClampNeg = _; rw [q2 33 (by decide)]; rfl
  have Tp : ∀ p, hT H4 (p + 2) ↔ hT H (p + 2) := fun p => by show H4.2 37 p ≠ 0 ↔ H.2 37 p ≠ 0; rw [q2 37 (by decide)]
  have G : gX (D5 x S3.1) S1 S3 := (f3.x (D := D5 x S3.1)).tr (g3.mo (fun z y => Or.inr (Or.inl y)))
  have eT : ∀ p, p < 8 → T3 (rP x (p + 2)) = T1 (rP x (p + 2)) := fun p hp => by
    have o := rP_own (x := x) (g := p + 2) (by omega)
    have ne : rP x (p + 2) ≠ x + 3 + 1 := fun y => by have := rP_inj (x := x) (g := p + 2) (g' := 1) y; omega
    have ne0 : rP x (p + 2) ≠ x + 1 := fun y => by have := rP_inj (x := x) (g := p + 2) (g' := 0) y; omega
    rw [g6 _ ne o.2, f5 _ ne0 o.2]
  obtain ⟨⟨K1, K2, K3, K4⟩, K8, Kc⟩ := frD (H2 := H4) r a.ci a.k1 G g2.ci.wf (Or.inr (Nat.le_refl _)) (fun z k => Or.inr (f3.ik (ik_b k g3.1 n23))) (fun k => absurd k.1 (Nat.lt_irrefl _)) (fun k h1 h2 => q1 k h2 (by omega)) (q1 39 (by decide) (by decide)) ⟨q2 11 (by decide), q2 12 (by decide), q2 38 (by decide), q2 40 (by decide), q2 41 (by decide)⟩
  have st : ∀ p, p < 8 → giC S3 (x + 13 + 3 * p) 0 = giC S1 (x + 13 + 3 * p) 0 := fun p hp => by
    have o : pl x (x + 13 + 3 * p) := Or.inr ⟨p, hp, rfl⟩
    have k2 := o.lt f2.ci f2.k1
    rw [g3.2.1 _ k2.1 (by rw [k2.2]; decide) (by omega)]
    exact srt (f3.x (D := fun _ => False)) a.ci a.k1 o not_false
  have R4 : RR wF (N + 1) S3 T3 x H4 := by
    refine r.ex (gs := 10) (is := 0) h.1.1 I4.1 K1 K2 K3 K4 (q1 0 (by decide) (by decide)) (fun g hg => ?_) ⟨fun y => g4, fun y => absurd q35 y⟩ (fun p hp => ?_) ⟨?_, ?_⟩ (fun s h1 h2 => ?_) (fun g i l n => ?_) (fun l => absurd l.1 (by omega)) (fun l => absurd l.1 (by omega)) (fun l => absurd l.1 (by omega)) (fun l => absurd l.1 (by omega)) (fun l => absurd l.1 (by omega))
    · match g with
      | 0 =>
        have e0 : T3 (x + 1) = [] := by rw [g6 _ (by omega) (by omega)]; exact f4
        show ((T3 (x + 1)).length : Int) = _
        rw [e0, N0]
        rfl
      | 1 =>
        show ((T3 (x + 3 + 1)).length : Int) = _
        rw [g5, N1]
        rfl
      | p + 2 =>
        rw [eT p (by omega), Np]
        exact (r.2.1 _ hg).1
    · rw [st p hp, q2 34 (by decide), q2 37 (by decide), q2 27 (by decide), Mp]
      exact r.2.2.1.2.1 p hp
    · rw [K8]
      exact Int.le_refl _
    · rw [K8]
      have := r.2.2.2.2.2.1.2
      omega
    · rw [q1 30 (by decide) (by decide)]
      omega
    · match g, l with
      | 0, l =>
        have := l.2
        rw [N0] at this
        omega
      | 1, l =>
        have := l.2
        rw [N1] at this
        omega
      | p + 2, l =>
        have l' : hL H (p + 2) i := ⟨l.1, by rw [← Np]; exact l.2⟩
        have k := a.m3 (gD_mem (r.2.1.mem l'))
        exact ⟨p + 2, i, l', Mp p i, Tp p, fun _ => id, by rw [eT p (by have := l.1; omega)], Kc _ k (fun y => by have := k.1; have := G.1.1.1; omega), fun k h1 h2 => by rw [q2 k (by omega)], fun _ => by rw [q2 27 (by decide)], fun n _ => by rw [q2 28 (by decide)], fun n _ => by rw [q2 29 (by decide)]⟩
  exact ⟨_, T3, c1, rfl, ((QU.rf g2).hI 6 (-1) (by omega)).1, R4.hc g2.ci g2.k1 ((hC'.rf x S3).si 6 (-1) (Or.inl rfl)) (sH.I _ _ (by decide) (by decide) (by decide) (by decide) (by decide)) ⟨rfl, rfl, rfl, rfl, rfl⟩ ⟨rfl, rfl, rfl⟩ (R4.1.f6 (-1))⟩
end
end
section
/-! ===== the deeds: laying ===== -/
section
variable {wF : Prop × (Nat → Int32) × Int32 × (Nat → Int32)} {E : Nat → Prop} {x : Nat} {S S1 S2 S3 : Cst} {T T1 T2 T3 : Nat → List Nat} {F F1 : List Nat} {col c1 : Nat → Nat} {H H2 H3 : HS} {N N2 M M2 : Int} {D : Nat → Prop}
theorem RR.up (r : RR wF N S1 T1 x H) (q : N ≤ N2) : RR wF N2 S1 T1 x H := by
  obtain ⟨a, b, c, d, e, n1, n2, n3, n4⟩ := r
  refine ⟨a, b, c, d, e, by omega, n2, n3, fun j l t y k => ?_⟩
  obtain ⟨q1, q2, q3, q4⟩ := n4 j l t y k
  exact ⟨q1, by omega, q3, q4⟩
theorem sA_id (S : HS) (k i : Nat) {v : Int32} (h : S.2 k i = v) : sA S k i v = S := by
  refine Prod.ext rfl (funext fun j => ?_)
  show (if j = k then upd (S.2 k) i v else S.2 j) = S.2 j
  by_cases z : j = k
  · rw [if_pos z, z]
    funext y
    unfold upd
    by_cases w : y = i
    · rw [if_pos w, w, h]
    · rw [if_neg w]
  · rw [if_neg z]
theorem lay_a {x1 : Int32} : ∀ (n : Nat) (S : HS) (x2 x : Int32), 0 ≤ x.toInt → x.toInt ≤ 9 → (S.1 35).toInt ≤ 9 → 10 - x.toInt < n → (lp_X11_lay_67 n S x1 x2 x).1 = x1 := by
  intro n
  induction n with
  | zero => intro S x2 x h1 h2 h3 h4; omega
  | succ n ih =>
    intro S x2 x h1 h2 h3 h4
    rw [lp_X11_lay_67]
    unfold st_X11_lay_67
    by_cases c : S.1 35 ≤ x
    · rw [if_pos c]
    · rw [if_neg c]
      have c := mt iLe.mpr c
      have e := iAdd (x := x) (y := 1) (by rw [i1]; omega) (by rw [i1]; omega)
      rw [i1] at e
      exact ih _ _ (x + 1) (by omega) (by omega) h3 (by omega)
theorem lay_W {x1 : Int32} (hx : 0 ≤ x1.toInt ∧ x1.toInt ≤ 7) (S : HS) (x2 : Int32) (hb : S.1 36 = 0 ∨ S.1 36 = 1) (h9 : 0 ≤ (S.1 35).toInt ∧ (S.1 35).toInt ≤ 9) : ∃ u, lp_X11_lay_67 100000 S x1 x2 0 = (x1, sI (sA (sA (sR S 33 u) 34 x1.toNatClampNeg (S.1 35)) 37 x1.toNatClampNeg (S.1 36)) 35 0) ∧ (∀ i : Nat, (i : Int) < (S.1 35).toInt → u (9 * x1.toNatClampNeg + i) = S.2 32 i) ∧ (∀ j : Nat, (j : Int) < 9 * x1.toInt ∨ 9 * x1.toInt + (S.1 35).toInt ≤ j → u j = S.2 33 j) := by
  obtain ⟨u, q1, q2, q3⟩ := lay_l hx 100000 S x2 0 hb h9.2 (by rw [i0]; omega) (by rw [i0]; omega) (by rw [i0]; omega)
  have e := lay_a (x1 := x1) 100000 S x2 0 (by rw [i0]; omega) (by rw [i0]; omega) h9.2 (by rw [i0]; omega)
  rw [i0] at q2 q3
  exact ⟨u, Prod.ext e q1, fun i hi => q2 i (by omega) hi, fun j hj => q3 j (by omega)⟩
/-- rows behind laying -/
theorem layRows {p : Nat} (hp : p < 8) {u : Nat → Int32} (e : H2 = sI (sA (sA (sR H 33 u) 34 p (H.1 35)) 37 p (H.1 36)) 35 0) (h9 : (H.1 35).toInt ≤ 9) (u1 : ∀ i : Nat, (i : Int) < (H.1 35).toInt → u (9 * p + i) = H.2 32 i) (u2 : ∀ j : Nat, (j : Int) < 9 * (p : Int) ∨ 9 * (p : Int) + (H.1 35).toInt ≤ j → u j = H.2 33 j) :
    hN H2 1 = 0 ∧ hN H2 (p + 2) = hN H 1 ∧ (∀ g, g ≠ 1 → g ≠ p + 2 → hN H2 g = hN H g) ∧ (∀ i : Nat, (i : Int) < hN H 1 → hM H2 (p + 2) i = hM H 1 i) ∧ (∀ g i, g ≠ p + 2 → i < 9 → hM H2 g i = hM H g i) ∧ (hT H2 (p + 2) ↔ hT H 1) ∧ ∀ g, g ≠ p + 2 → (hT H2 g ↔ hT H g) := by
  have q34 : ∀ p', H2.2 34 p' = upd (H.2 34) p (H.1 35) p' := fun p' => by rw [e]; rfl
  have q37 : ∀ p', H2.2 37 p' = upd (H.2 37) p (H.1 36) p' := fun p' => by rw [e]; rfl
  have q33 : H2.2 33 = u := by rw [e]; rfl
  have q31 : H2.2 31 = H.2 31 := by rw [e]; rfl
  have q32 : H2.2 32 = H.2 32 := by rw [e]; rfl
  have q6 : H2.1 6 = H.1 6 := by rw [e]; rfl
  have q36 : H2.1 36 = H.1 36 := by rw [e]; rfl
  have q35 : H2.1 35 = 0 := by rw [e]; rfl
  refine ⟨?_, ?_, fun g n1 n2 => ?_, fun i hi => ?_, fun g i n hi => ?_, ?_, fun g n => ?_⟩
  · show (H2.1 35).toInt = 0
    rw [q35]
    rfl
  · show (H2.2 34 p).toInt = (H.1 35).toInt
    rw [q34]
    exact congrArg _ (if_pos rfl)
  · match g, n1 with
    | 0, _ => show (H2.1 6).toInt = _; rw [q6]; rfl
    | p' + 2, _ => show (H2.2 34 p').toInt = (H.2 34 p').toInt; rw [q34]; exact congrArg _ (if_neg (by omega))
  · show (H2.2 33 (9 * p + i)).toNatClampNeg = (H.2 32 i).toNatClampNeg
    rw [q33, u1 i hi]
  · unfold hM
    match g with
    | 0 => show (H2.2 31 i).toNatClampNeg = _; rw [q31]; rfl
    | 1 => show (H2.2 32 i).toNatClampNeg = _; rw [q32]; rfl
    | p' + 2 =>
      show (H2.2 33 (9 * p' + i)).toNatClampNeg = (H.2 33 (9 * p' + i)).toNatClampNeg
      rw [q33, u2 _ (by omega)]
  · show H2.2 37 p ≠ 0 ↔ H.1 36 ≠ 0
    rw [q37]
    unfold upd
    rw [if_pos rfl]
  · match g with
    | 0 => exact Iff.rfl
    | 1 => show H2.1 36 ≠ 0 ↔ H.1 36 ≠ 0; rw [q36]
    | p' + 2 =>
      show H2.2 37 p' ≠ 0 ↔ H.2 37 p' ≠ 0
      rw [q37]
      unfold upd
      rw [if_neg (by omega)]
/-- what is drafted goes to a place -/
theorem lay_B (hS : Sst noE x S T [] col S1 T1 [] c1) (r : RR wF N S1 T1 x H) (hc : HC M H) {p : Nat} (hp : p < 8) (z0 : H.2 34 p = 0) (z1 : H.1 35 ≠ 0) {u : Nat → Int32} (e : H2 = sI (sA (sA (sR H 33 u) 34 p (H.1 35)) 37 p (H.1 36)) 35 0) (u1 : ∀ i : Nat, (i : Int) < (H.1 35).toInt → u (9 * p + i) = H.2 32 i) (u2 : ∀ j : Nat, (j : Int) < 9 * (p : Int) ∨ 9 * (p : Int) + (H.1 35).toInt ≤ j → u j = H.2 33 j) (hc2 : HC M2 H2) : ∃ S3 T3, f_Y6_takeFrom S1 (x + 13 + 3 * p) (x + 3) = (0, S3) ∧ Sst noE x S T [] col S3 T3 [] c1 ∧ RR wF N S3 T3 x H2 := by
  have o3 : pl x (x + 3) := Or.inl rfl
  have o : pl x (x + 13 + 3 * p) := Or.inr ⟨p, hp, rfl⟩
  have ci := hS.ci
  have kx := hS.k1
  have l0 := r.2.1 (p + 2) (by omega)
  have eT0 : T1 (x + 13 + 3 * p + 1) = [] := by
    have e0 : hN H (p + 2) = (H.2 34 p).toInt := rfl
    rw [e0, z0, i0] at l0
    exact List.length_eq_zero_iff.mp (by have := l0.1; rw [rP_p] at this; omega)
  obtain ⟨-, S3, T3, f1, f2, f3, f4, f5, f6, f7, f8⟩ := y_takeFrom noE_n hS o o3 (by omega) eT0
  have n23 := n1_take noE_n hS o o3 (by omega) eT0 f1
  have n35 := hc.1 1 (by omega)
  have e35 : hN H 1 = (H.1 35).toInt := rfl
  obtain ⟨r1, r2, r3, r4, r5, r6, r7⟩ := layRows hp e (by omega) u1 u2
  have q1 : ∀ j, j ≠ 35 → H2.1 j = H.1 j := fun j y => by rw [e]; exact if_neg y
  have q2 : ∀ k, k ≠ 33 → k ≠ 34 → k ≠ 37 → H2.2 k = H.2 k := fun k y y2 y3 => by
    rw [e]
    show (if k = 37 then _ else if k = 34 then _ else if k = 33 then _ else H.2 k) = H.2 k
    rw [if_neg y3, if_neg y2, if_neg y]
  have q34 : ∀ p', H2.2 34 p' = upd (H.2 34) p (H.1 35) p' := fun p' => by rw [e]; rfl
  have q37 : ∀ p', H2.2 37 p' = upd (H.2 37) p (H.1 36) p' := fun p' => by rw [e]; rfl
  have q35 : H2.1 35 = 0 := by rw [e]; rfl
  have G : gX (D5 x S3.1) S1 S3 := f3.mo (fun z y => Or.inr (y.elim (fun y => by rw [y]; exact o) (fun y => by rw [y]; exact o3)))
  obtain ⟨⟨K1, K2, K3, K4⟩, K8, Kc⟩ := frD (H2 := H2) r ci kx G f2.ci.wf (Or.inr (Nat.le_refl _)) (fun z k => Or.inr (ik_b k f3.1 n23)) (fun k => absurd k.1 (Nat.lt_irrefl _)) (fun k h1 h2 => q1 k (by omega)) (q1 39 (by decide)) ⟨q2 11 (by decide) (by decide) (by decide), q2 12 (by decide) (by decide) (by decide), q2 38 (by decide) (by decide) (by decide), q2 40 (by decide) (by decide) (by decide), q2 41 (by decide) (by decide) (by decide)⟩
  have z1' := mt iEq.mpr z1
  rw [i0] at z1'
  have L1 : hL H 1 0 := ⟨by omega, by omega⟩
  have eTp : T3 (rP x (p + 2)) = T1 (rP x 1) := f6
  have eT1 : T3 (rP x 1) = [] := f7
  have eTo : ∀ g, g ≠ 1 → g ≠ p + 2 → T3 (rP x g) = T1 (rP x g) := fun g n1 n2 => f8 _ (fun y => n2 (rP_inj (x := x) (g := g) (g' := p + 2) y)) (fun y => n1 (rP_inj (x := x) (g := g) (g' := 1) y))
  refine ⟨S3, T3, f1, f2, r.ex (gs := 10) (is := 0) hc hc2 K1 K2 K3 K4 (q1 0 (by decide)) (fun g hg => ?_) ⟨fun y => f5, fun y => absurd q35 y⟩ (fun p' hp' => ?_) ⟨?_, ?_⟩ (fun s h1 h2 => ?_) (fun g i l n => ?_) (fun l => absurd l.1 (by omega)) (fun l => absurd l.1 (by omega)) (fun l => absurd l.1 (by omega)) (fun l => absurd l.1 (by omega)) (fun l => absurd l.1 (by omega))⟩
  · by_cases y1 : g = 1
    · rw [y1, eT1, r1]
      rfl
    · by_cases y2 : g = p + 2
      · rw [y2, eTp, r2]
        exact (r.2.1 1 (by omega)).1
      · rw [eTo g y1 y2, r3 g y1 y2]
        exact (r.2.1 g hg).1
  · by_cases y : p' = p
    · subst y
      have e34 : H2.2 34 p' = H.1 35 := (q34 p').trans (if_pos rfl)
      have e37 : H2.2 37 p' = H.1 36 := (q37 p').trans (if_pos rfl)
      rw [e34, e37, f4]
      refine ⟨fun w => absurd w z1, fun _ => ?_⟩
      rw [r.2.2.1.1.2 z1]
      by_cases w : H.1 36 = 0
      · rw [if_pos w, if_pos w, r4 0 (by omega), q2 27 (by decide) (by decide) (by decide), if_pos]
        refine Classical.byContradiction (fun v => ?_)
        have := (r.2.2.1.2.2.2.2 1 (by omega) L1 (fun t => t w) v).1
        omega
      · rw [if_neg w, if_neg w]
    · have e34 : H2.2 34 p' = H.2 34 p' := (q34 p').trans (if_neg y)
      have e37 : H2.2 37 p' = H.2 37 p' := (q37 p').trans (if_neg y)
      have o' : pl x (x + 13 + 3 * p') := Or.inr ⟨p', hp', rfl⟩
      rw [e34, e37, srt f3 ci kx o' (by omega), r5 (p' + 2) 0 (by omega) (by omega), q2 27 (by decide) (by decide) (by decide)]
      exact r.2.2.1.2.1 p' hp'
  · rw [K8]
    exact Int.le_refl _
  · rw [K8]
    exact r.2.2.2.2.2.1.2
  · rw [q1 30 (by decide)]
    omega
  · have fin : ∀ g' i', hL H g' i' → hM H2 g i = hM H g' i' → (hT H2 g ↔ hT H g') → (2 ≤ g' → 2 ≤ g) → T3 (rP x g) = T1 (rP x g') → i = i' → ∃ g' i', oM S1 S3 T1 T3 x H H2 g i g' i' := fun g' i' l' m' t' g2 e' ei => by
      have k := ci.tk _ _ (gD_mem (r.2.1.mem l'))
      refine ⟨g', i', l', m', t', fun _ => g2, by rw [e', ei], Kc _ k.1 (fun y => by have := k.1.1; have := G.1.1.1; omega), fun k h1 h2 => by rw [q2 k (by omega) (by omega) (by omega)], fun _ => by rw [q2 27 (by decide) (by decide) (by decide)], fun n _ => by rw [q2 28 (by decide) (by decide) (by decide)], fun n _ => by rw [q2 29 (by decide) (by decide) (by decide)]⟩
    by_cases y1 : g = 1
    · have := l.2
      rw [y1, r1] at this
      omega
    · by_cases y2 : g = p + 2
      · have l2 := l.2
        rw [y2, r2] at l2
        have l' : hL H 1 i := ⟨by omega, l2⟩
        exact fin 1 i l' (by rw [y2]; exact r4 i l2) (by rw [y2]; exact r6) (fun _ => by omega) (by rw [y2]; exact eTp) rfl
      · have l2 := l.2
        rw [r3 g y1 y2] at l2
        have b9 := (hc.1 g l.1).2.1
        exact fin g i ⟨l.1, l2⟩ (r5 g i y2 (by omega)) (r7 g y2) id (eTo g y1 y2) rfl
end
end
section
/-! ===== the deeds: a draft laid ===== -/
section
variable {wF : Prop × (Nat → Int32) × Int32 × (Nat → Int32)} {E : Nat → Prop} {x : Nat} {S S1 S2 S3 : Cst} {T T1 T2 T3 : Nat → List Nat} {F F1 : List Nat} {col c1 : Nat → Nat} {H H2 H3 : HS} {N N2 M M2 : Int} {D : Nat → Prop}
theorem mR.la {q m : Nat} (h : mR S1 q H m) (v y w v' : Int32) : mR (siC (siC S1 q 10 v) q 1 y) q (sA (sA H 23 m w) 25 m v') m := by
  obtain ⟨⟨a1, a2, a3, a4, a5⟩, ⟨b1, b2⟩, c, ⟨d1, d2⟩, e, ⟨f1, f2⟩, g⟩ := h
  have n : ∀ i, i ≠ 10 → i ≠ 1 → giC (siC (siC S1 q 10 v) q 1 y) q i = giC S1 q i := fun i h8 h9 => by rw [gi_si, if_neg (fun z => h9 z.2), gi_si, if_neg (fun z => h8 z.2)]
  have o : ∀ j k, 0 < j → giC (siC (siC S1 q 10 v) q 1 y) (q + j) k = giC S1 (q + j) k := fun j k hj => by rw [gi_si, if_neg (fun z => by omega), gi_si, if_neg (fun z => by omega)]
  refine ⟨⟨(n 2 (by decide) (by decide)).trans a1, (n 3 (by decide) (by decide)).trans a2, (n 4 (by decide) (by decide)).trans a3, (n 5 (by decide) (by decide)).trans a4, (n 6 (by decide) (by decide)).trans a5⟩, ⟨(n 7 (by decide) (by decide)).trans b1, (n 11 (by decide) (by decide)).trans b2⟩, fun z => ⟨(n 8 (by decide) (by decide)).trans (c z).1, (n 9 (by decide) (by decide)).trans (c z).2⟩, ⟨(o 1 1 (by omega)).trans d1, fun i hi => (o 2 i (by omega)).trans (d2 i hi)⟩, fun s hs => ?_, ⟨fun s h1 h2 => (o 3 s (by omega)).trans (f1 s h1 h2), ?_⟩, g⟩
  · rw [o 3 s (by omega)]
    exact e s hs
  · rw [n 14 (by decide) (by decide), vCn_cg (S1 := S1) (fun k => o 3 k (by omega))]
    exact f2
/-- the draft is laid, where it is -/
theorem RR.la (a : AS x S T col S1 T1 c1) (r : RR wF N S1 T1 x H) (h : HA H) (z1 : ¬ H.1 35 = 0) (z2 : H.1 36 = 0) {q : Nat} (hq : T1 (x + 4) = [q]) (y w : Int32) (jn : (H.2 14 (hM H 1 0) = 2 ∨ H.2 14 (hM H 1 0) = 3) → (1 ≤ y.toInt ∧ y.toInt ≤ (giC S1 x 8).toInt) ∧ (0 ≤ (H.1 30 - w).toInt ∧ (H.1 30 - w).toInt < N) ∧ (∀ g i, hL H g i → hT H g → (y = giC S1 ((T1 (rP x g)).getD i 0) 0 ↔ w = H.2 22 (hM H g i))) ∧ ∀ g, hL H g 0 → ¬ hT H g → w ≠ H.2 22 (hM H g 0)) : RR wF N (siC (siC S1 q 10 1) q 1 y) T1 x (sA (sA H 23 (hM H 1 0) w) 25 (hM H 1 0) 1) ∧ HC (H.1 7).toInt (sA (sA H 23 (hM H 1 0) w) 25 (hM H 1 0) 1) := by
  have hu : q ∈ T1 (x + 4) := by rw [hq]; exact List.mem_singleton.mpr rfl
  have kq := a.m3 hu
  have cq : c1 q = x := by rw [(a.ci.tk _ q hu).2]; exact a.1.cx 4 (by omega)
  have U := ((QU.rf a.1).mI kq cq 10 1 (by decide) (fun _ => bz1)).mI (ik_si.mpr kq) cq 1 y (by decide) (by omega)
  have L1 := (dr_L h z1 z2).1
  have nT := (dr_L h z1 z2).2
  have eq0 : (T1 (rP x 1)).getD 0 0 = q := by show (T1 (x + 4)).getD 0 0 = q; rw [hq]; rfl
  have mq : mR S1 q H (hM H 1 0) := by
    have := (r.2.1 1 (by omega)).2 0 (r.2.1.mem L1)
    rw [eq0] at this
    exact this
  have m2 := mq.la 1 y w 1
  generalize hm : hM H 1 0 = m at *
  have q2 : ∀ k, k ≠ 23 → k ≠ 25 → (sA (sA H 23 m w) 25 m 1).2 k = H.2 k := fun k y y2 => by
    show (if k = 25 then _ else if k = 23 then _ else H.2 k) = H.2 k
    rw [if_neg y2, if_neg y]
  have q2m : ∀ k m', m' ≠ m → (sA (sA H 23 m w) 25 m 1).2 k m' = H.2 k m' := fun k m' n => by
    show (if k = 25 then upd (if 25 = 23 then upd (H.2 23) m w else H.2 25) m 1 else if k = 23 then upd (H.2 23) m w else H.2 k) m' = H.2 k m'
    by_cases e1 : k = 25
    · rw [if_pos e1, e1]
      exact if_neg n
    · rw [if_neg e1]
      by_cases e2 : k = 23
      · rw [if_pos e2, e2]
        exact if_neg n
      · rw [if_neg e2]
  have q25 : (sA (sA H 23 m w) 25 m 1).2 25 m = 1 := if_pos rfl
  have q23 : (sA (sA H 23 m w) 25 m 1).2 23 m = w := if_pos rfl
  have q1 : (sA (sA H 23 m w) 25 m 1).1 = H.1 := rfl
  have eN : ∀ g, hN (sA (sA H 23 m w) 25 m 1) g = hN H g := fun g => by
    match g with
    | 0 => rfl
    | 1 => rfl
    | p + 2 => rfl
  have eM : ∀ g i, hM (sA (sA H 23 m w) 25 m 1) g i = hM H g i := fun g i => by
    match g with
    | 0 => rfl
    | 1 => rfl
    | p + 2 => rfl
  have eT : ∀ g, hT (sA (sA H 23 m w) 25 m 1) g ↔ hT H g := fun g => by
    match g with
    | 0 => exact Iff.rfl
    | 1 => exact Iff.rfl
    | p + 2 => exact Iff.rfl
  have eC : ∀ g i, hC (sA (sA H 23 m w) 25 m 1) g i = hC H g i := fun g i => by
    match g with
    | 0 => rfl
    | 1 => rfl
    | p + 2 => rfl
  generalize sA (sA H 23 m w) 25 m 1 = H2 at *
  have one : hN H 1 = 1 := by
    have b := (h.1.1.1 1 (by omega)).2.2 nT
    have := L1.2
    omega
  have uw := h.1.1.2.2.2.2.1 1 0 L1
  rw [hm] at uw
  have hc2 : HC (H.1 7).toInt H2 := h.1.1.slot 1 m (Int.le_refl _) (by omega) one hm (by rw [q1]) (q2 13 (by decide) (by decide)) (q2 14 (by decide) (by decide)) (q2 22 (by decide) (by decide)) (fun x' _ n => ⟨q2m _ _ n, q2m _ _ n, q2m _ _ n, q2m _ _ n⟩) (by unfold uW at uw ⊢; rw [q2 14 (by decide) (by decide), q2 19 (by decide) (by decide), q2 20 (by decide) (by decide), q2 21 (by decide) (by decide)]; exact uw) (fun g _ => ⟨eN g, eT g⟩) (fun g i _ => eC g i)
  refine ⟨?_, hc2⟩
  have G : gX (D5 x q) S1 (siC (siC S1 q 10 1) q 1 y) := ((gX.si S1 q 10 1).tr (gX.si _ q 1 y)).mo (fun z e => Or.inl (by rw [e]; exact ⟨Nat.le_refl _, Nat.le_add_right _ _⟩))
  obtain ⟨⟨K1, K2, K3, K4⟩, K8, Kc⟩ := frD (H2 := H2) r a.ci a.k1 G U.1.ci.wf (Or.inl (ik_si.mpr (ik_si.mpr kq))) (fun z k => Or.inr (ik_si.mp (ik_si.mp k))) (fun _ => m2.2.2.2.2.2.1.2) (fun k _ _ => by rw [q1]) (by rw [q1]) ⟨q2 11 (by decide) (by decide), q2 12 (by decide) (by decide), q2 38 (by decide) (by decide), q2 40 (by decide) (by decide), q2 41 (by decide) (by decide)⟩
  have st : ∀ d, pl x d → giC (siC (siC S1 q 10 1) q 1 y) d 0 = giC S1 d 0 := fun d o => by
    have k5 := pl.lt a.ci a.k1 o
    have n := ik_ne k5 kq (by decide)
    rw [gi_si, if_neg (fun e => n e.1), gi_si, if_neg (fun e => n e.1)]
  have n4 := r.2.2.2.2.2.2.2.2
  refine r.ex (gs := 1) (is := 0) h.1.1 hc2 K1 K2 K3 K4 (by rw [q1]) (fun g hg => by rw [eN]; exact (r.2.1 g hg).1) ?_ (fun p hp => ?_) ⟨by rw [K8]; exact Int.le_refl _, by rw [K8]; exact r.2.2.2.2.2.1.2⟩ (fun s h1 h2 => by rw [q1]; omega) (fun g i l n => ?_) (fun _ => ?_) (fun _ _ => ⟨?_, fun e => ?_, fun e => ?_⟩) (fun _ t => absurd ((eT 1).mp t) nT) (fun _ j l t d k => ?_) (fun _ _ _ k => ?_)
  · rw [st _ (Or.inl rfl), q1]
    exact r.2.2.1.1
  · rw [st _ (Or.inr ⟨p, hp, rfl⟩), q2 34 (by decide) (by decide), q2 37 (by decide) (by decide), q2 27 (by decide) (by decide), eM]
    exact r.2.2.1.2.1 p hp
  · have l' : hL H g i := ⟨l.1, by rw [← eN]; exact l.2⟩
    have k := a.m3 (gD_mem (r.2.1.mem l'))
    have nq : (T1 (rP x g)).getD i 0 ≠ q := fun e => by
      have u := q_uniq a.ci (r.2.1.mem l') (r.2.1.mem L1) (e.trans eq0.symm)
      exact n ⟨rP_inj u.1, u.2⟩
    have nm : hM H g i ≠ m := fun e => n (h.1.1.d l' L1 (e.trans hm.symm))
    exact ⟨g, i, l', eM g i, eT g, fun _ => id, rfl, Kc _ k nq, fun k _ _ => q2m _ _ nm, fun _ => q2m _ _ nm, fun n _ => by rw [q2 28 (by decide) (by decide)], fun n _ => by rw [q2 29 (by decide) (by decide)]⟩
  · rw [eq0, eM, hm]
    exact m2
  · rw [eq0, eM, hm, q25, gi_si, if_neg (fun e => absurd e.2 (by decide)), gi_si, if_pos ⟨rfl, rfl⟩]
  · rw [eM, hm, q25] at e
    exact absurd e (by decide)
  · rw [eM, q2 27 (by decide) (by decide)] at e
    have := (r.2.2.1.2.2.2.2 1 (by omega) L1 nT e).1
    omega
  · rw [eM, q2 22 (by decide) (by decide)]
    exact (n4 j l t d k).2.2.2 1 L1 nT
  · rw [eM, hm, q2 14 (by decide) (by decide)] at k
    obtain ⟨j1, j2, j3, j4⟩ := jn k
    unfold jN
    rw [eM, hm, q23, eq0, K8, q1, gi_si, if_pos ⟨rfl, rfl⟩]
    refine ⟨j1, j2, fun g i l t => ?_, fun g l t => ?_⟩
    · have l' : hL H g i := ⟨l.1, by rw [← eN]; exact l.2⟩
      have nq : (T1 (rP x g)).getD i 0 ≠ q := fun e => by
        have u := q_uniq a.ci (r.2.1.mem l') (r.2.1.mem L1) (e.trans eq0.symm)
        have := rP_inj u.1
        subst this
        exact nT ((eT 1).mp t)
      have kz := a.m3 (gD_mem (r.2.1.mem l'))
      have e0 : giC (siC (siC S1 q 10 1) q 1 y) ((T1 (rP x g)).getD i 0) 0 = giC S1 ((T1 (rP x g)).getD i 0) 0 := Kc _ kz nq 0 (by omega) 0
      rw [eM, q2 22 (by decide) (by decide), e0]
      exact j3 g i l' ((eT g).mp t)
    · rw [eM, q2 22 (by decide) (by decide)]
      exact j4 g ⟨l.1, by rw [← eN]; exact l.2⟩ (mt (eT g).mpr t)
end
end
