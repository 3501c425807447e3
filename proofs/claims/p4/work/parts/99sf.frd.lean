/-! ===== frames of a step, both sides; a new slot's numbers ===== -/
section
variable {wF : Prop × (Nat → Int32) × Int32 × (Nat → Int32)} {E : Nat → Prop} {x : Nat} {S S1 S2 S3 : Cst} {T T1 T2 : Nat → List Nat} {F F1 : List Nat} {col c1 : Nat → Nat} {H H2 H3 : HS} {N N2 M M2 : Int} {D : Nat → Prop}
theorem ik_b {q c : Nat} (k : iK S2 q c) (e : eN S1 S2) (n : S2.1 = S1.1) : iK S1 q c := by
  have a : q < S1.1 := by
    rw [← n]
    exact k.1
  exact ⟨a, by rw [← (e.2 q a).1]; exact k.2⟩
theorem n1_discard (h : Sst E x S T F col S1 T1 F1 c1) {d : Nat} (o : pl x d) (e : ¬ E (d + 1)) (f : f_Y0_discard S1 x d = (0, S2)) : S2.1 = S1.1 := by
  have k := o.k h
  have w5 := h.ci.wf.w5 k.1
  obtain ⟨-, S3, T3, f1, -, f3, -⟩ := y_release h e o.o.1 o.o.2.1
  have e1 : f_Y0_discard S1 x d = (0, siC S3 d 0 0) := by
    unfold f_Y0_discard
    simp only [b_Y0_discard_8a, w5.2, Option.getD_some, f1]
  obtain ⟨-, rfl⟩ := Prod.mk.inj (f.symm.trans e1)
  exact f3.2.2.2
theorem n1_hold {q : Nat} (h : Sst E x S T F col S1 T1 (q :: F1) c1) {d : Nat} (v : Int32) (o : pl x d) (e : ¬ E (d + 1)) (hl : (T1 (d + 1)).length < 9) (f : f_Y6_hold S1 d v (some q) = (0, S2)) : S2.1 = S1.1 := by
  have k := (o.k h).1
  have w5 := h.ci.wf.w5 k
  have h2 := h.sort o v
  obtain ⟨-, S3, f1, -, f3, -⟩ := y_put h2 e o.o.1 o.o.2.1 hl
  have e1 : f_Y6_hold S1 d v (some q) = (0, S3) := by
    unfold f_Y6_hold
    simp only [b_Y6_hold_13a, gr_si, w5.2, Option.getD_some, f1]
  obtain ⟨-, rfl⟩ := Prod.mk.inj (f.symm.trans e1)
  exact f3.2.2.2
theorem n1_take (hE : ∀ c, ¬ E c) (h : Sst E x S T F col S1 T1 F1 c1) {d d2 : Nat} (o : pl x d) (o2 : pl x d2) (n : d ≠ d2) (hT : T1 (d + 1) = []) (f : f_Y6_takeFrom S1 d d2 = (0, S2)) : S2.1 = S1.1 := by
  have k := (o.k h).1
  have k2 := (o2.k h).1
  have w5 := h.ci.wf.w5 k
  have w52 := h.ci.wf.w5 k2
  have l9 := (h.ci.tp (d2 + 1) (hE _) w52.1).2.1
  have g := h.sort o (giC S1 d2 0)
  obtain ⟨-, S3, T3, f1, -, f3, -⟩ := y_pour hE g o2.o.1 o2.o.2.1 o.o.1 o.o.2.1 (by omega) (by rw [hT]; simp; exact l9)
  have e1 : f_Y6_takeFrom S1 d d2 = (0, siC S3 d2 0 0) := by
    unfold f_Y6_takeFrom
    simp only [b_Y6_takeFrom_19a, gr_si, w5.2, w52.2, Option.getD_some, f1]
  obtain ⟨-, rfl⟩ := Prod.mk.inj (f.symm.trans e1)
  exact f3.2.2.2
/-- one motion's cells, and the places' sorts -/
def D5 (x q : Nat) : Nat → Prop := fun z => dM q z ∨ pl x z
theorem frD (r : RR wF N S1 T1 x H) (ci : CI noE S1 T1 [] c1) (kx : iK S1 x 0) {q : Nat} (g : gX (D5 x q) S1 S2) (wf2 : wfS S2) (kq : iK S2 q 3 ∨ S2.1 ≤ q) (hk : ∀ z, iK S2 z 3 → z = q ∨ iK S1 z 3) (hq : iK S2 q 3 → (giC S2 q 14).toInt = vCn S2 q 200) (e : ∀ k, k ≤ 10 → k ≠ 6 → H2.1 k = H.1 k) (e39 : H2.1 39 = H.1 39) (e2 : H2.2 11 = H.2 11 ∧ H2.2 12 = H.2 12 ∧ H2.2 38 = H.2 38 ∧ H2.2 40 = H.2 40 ∧ H2.2 41 = H.2 41) : (hR S2 x H2 ∧ jR wF S2 x H2 ∧ aR wF S2 x H2 ∧ sW wF S2 H2) ∧ (∀ k, giC S2 x k = giC S1 x k) ∧ ∀ z, iK S1 z 3 → z ≠ q → ∀ j, j < 4 → ∀ i, giC S2 (z + j) i = giC S1 (z + j) i := by
  have le : S1.1 ≤ S2.1 := g.1.1.1
  have nd : ∀ z, z < S1.1 → (iK S1 q 3 → ¬ dM q z) → ¬ dM q z := fun z kz h => by
    by_cases y : q < S1.1
    · rcases kq with k | k
      · exact h ⟨y, by rw [← (g.1.2 q y).1]; exact k.2⟩
      · omega
    · exact fun w => by have := w.1; omega
  have np : ∀ z c, iK S1 z c → c ≠ 5 → ¬ pl x z := fun z c k n o => ik_ne k (pl.lt ci kx o) n rfl
  have w0 := ci.wf.w0 kx
  have k37 : iK S1 (x + 37) 1 := w0.1.1
  have w1 := ci.wf.w1 k37
  have k38 : iK S1 (x + 38) 21 := w1.1.1
  have k39 : iK S1 (x + 39) 20 := w1.1.2.2.1
  have k7 : iK S1 (x + 7) 2 := w0.1.2.2.2.2.1
  have k9 : iK S1 (x + 9) 2 := w0.1.2.2.2.2.2.1
  have k11 : iK S1 (x + 11) 6 := w0.1.2.2.2.2.2.2
  have k12 : iK S1 (x + 12) 20 := (ci.wf.w6 k11).1.1
  have n0 : ¬ D5 x q x := fun y => y.elim (nd x kx.1 (fun k => (dM_x ci kx k).1)) (np x 0 kx (by decide))
  have n37 : ¬ D5 x q (x + 37) := fun y => y.elim (nd _ k37.1 (fun k => (dM_h ci kx k).1)) (np _ 1 k37 (by decide))
  have n38 : ¬ D5 x q (x + 38) := fun y => y.elim (nd _ k38.1 (fun k => (dM_h ci kx k).2.1)) (np _ 21 k38 (by decide))
  have n39 : ¬ D5 x q (x + 39) := fun y => y.elim (nd _ k39.1 (fun k => (dM_h ci kx k).2.2)) (np _ 20 k39 (by decide))
  have n7 : ¬ D5 x q (x + 7) := fun y => y.elim (nd _ k7.1 (fun k => (dM_x ci kx k).2.2.1)) (np _ 2 k7 (by decide))
  have n9 : ¬ D5 x q (x + 9) := fun y => y.elim (nd _ k9.1 (fun k => (dM_x ci kx k).2.2.2.1)) (np _ 2 k9 (by decide))
  have n11 : ¬ D5 x q (x + 11) := fun y => y.elim (nd _ k11.1 (fun k => (dM_x ci kx k).2.2.2.2.1)) (np _ 6 k11 (by decide))
  have n12 : ¬ D5 x q (x + 12) := fun y => y.elim (nd _ k12.1 (fun k => (dM_x ci kx k).2.2.2.2.2.1)) (np _ 20 k12 (by decide))
  have nl : ∀ l, l = x + 7 ∨ l = x + 9 → ¬ D5 x q l ∧ ¬ D5 x q ((grC S1 l 2).getD 0) := fun l hl => by
    have z := (zl_k ci kx hl).2
    refine ⟨?_, fun y => y.elim (nd _ z.1 (fun k => dM_l ci kx k r.2.2.2.1 hl)) (np _ 20 z (by decide))⟩
    rcases hl with rfl | rfl
    · exact n7
    · exact n9
  have mo : ∀ z, iK S1 z 3 → z ≠ q → ∀ j, j < 4 → ¬ D5 x q (z + j) := fun z k n j hj y => by
    rcases y with y | y
    · rcases kq with kq | kq
      · exact dM_a wf2 (k.n g.1) kq n j hj y
      · have := y.1
        have W := W3k ci.wf k
        have := k.1
        have := W.1.1
        have := W.2.1.1
        have := W.2.2.1
        rcases (show j = 0 ∨ j = 1 ∨ j = 2 ∨ j = 3 by omega) with rfl | rfl | rfl | rfl <;> omega
    · obtain ⟨-, m3, -, -, -, -, m13⟩ := mo_x ci kx k hj
      rcases y with y | ⟨p, hp, y⟩
      · exact m3 y
      · exact m13 p hp y
  refine ⟨⟨r.1.gx g ci kx n37 n38 n39 (fun k hk' => e k (by omega) (by omega)) ⟨e2.1, e2.2.1⟩, r.2.2.2.1.gx g ci kx nl (e 7 (by omega) (by omega)) (e 8 (by omega) (by omega)) e2.2.2.2.1 e2.2.2.2.2, r.2.2.2.2.1.1.gx g ci kx n0 n11 n12 (e 9 (by omega) (by omega)) (e 10 (by omega) (by omega)) e39 (by rw [e 8 (by omega) (by omega)]; exact Int.le_refl _) e2.2.2.1, fun z k => ?_, by rw [e 0 (by omega) (by omega)]; exact r.2.2.2.2.1.2.2.1, by rw [e2.2.2.2.1]; exact r.2.2.2.2.1.2.2.2⟩, g.2.1 x kx.1 (by rw [kx.2]; decide) n0, fun z k n => g.mo4 ci.wf k (mo z k n)⟩
  by_cases n : z = q
  · rw [n] at k ⊢
    exact hq k
  · have kz := (hk z k).resolve_left n
    have c := g.mo4 ci.wf kz (mo z kz n)
    rw [vCn_cg (c 3 (by omega)), show giC S2 z 14 = giC S1 z 14 from c 0 (by omega) 14]
    exact r.2.2.2.2.1.2.1 z kz
/-- the places' sorts stand but where they were written -/
theorem srt (g : gX D S1 S2) (ci : CI noE S1 T1 [] c1) (kx : iK S1 x 0) {d : Nat} (o : pl x d) (n : ¬ D d) : giC S2 d 0 = giC S1 d 0 := by
  have k := pl.lt ci kx o
  exact g.2.1 d k.1 (by rw [k.2]; decide) n 0
/-- a new slot's state -/
def nwH (S : HS) (k z : Int32) (u : Nat → Int32) : HS := sA (sR (aN (nL S k z) z) 29 u) 16 z.toNatClampNeg (-1)
theorem nwH_z (S : HS) (k z : Int32) (u : Nat → Int32) : ((nwH S k z u).2 14 z.toNatClampNeg = k ∧ (nwH S k z u).2 15 z.toNatClampNeg = -1 ∧ (nwH S k z u).2 16 z.toNatClampNeg = -1 ∧ (nwH S k z u).2 17 z.toNatClampNeg = 0 ∧ (nwH S k z u).2 18 z.toNatClampNeg = 0) ∧ ((nwH S k z u).2 19 z.toNatClampNeg = 0 ∧ (nwH S k z u).2 20 z.toNatClampNeg = 0 ∧ (nwH S k z u).2 21 z.toNatClampNeg = 0 ∧ (nwH S k z u).2 22 z.toNatClampNeg = S.1 30 + 1 ∧ (nwH S k z u).2 23 z.toNatClampNeg = 0) ∧ (nwH S k z u).2 24 z.toNatClampNeg = 0 ∧ (nwH S k z u).2 25 z.toNatClampNeg = 0 ∧ (nwH S k z u).2 26 z.toNatClampNeg = 0 ∧ (nwH S k z u).2 27 z.toNatClampNeg = 0 :=
  ⟨⟨if_pos rfl, if_pos rfl, if_pos rfl, if_pos rfl, if_pos rfl⟩, ⟨if_pos rfl, if_pos rfl, if_pos rfl, if_pos rfl, if_pos rfl⟩, if_pos rfl, if_pos rfl, if_pos rfl, if_pos rfl⟩
theorem nwH_o (S : HS) (k z : Int32) (u : Nat → Int32) {m : Nat} (h : m ≠ z.toNatClampNeg) {j : Nat} (h1 : 14 ≤ j) (h2 : j ≤ 27) : (nwH S k z u).2 j m = S.2 j m := by
  rcases (show j = 14 ∨ j = 15 ∨ j = 16 ∨ j = 17 ∨ j = 18 ∨ j = 19 ∨ j = 20 ∨ j = 21 ∨ j = 22 ∨ j = 23 ∨ j = 24 ∨ j = 25 ∨ j = 26 ∨ j = 27 by omega) with rfl | rfl | rfl | rfl | rfl | rfl | rfl | rfl | rfl | rfl | rfl | rfl | rfl | rfl <;> exact if_neg h
theorem nwH_1 (S : HS) (k z : Int32) (u : Nat → Int32) {j : Nat} (h : j ≠ 30) : (nwH S k z u).1 j = S.1 j := if_neg h
/-- a new motion, in both -/
theorem mR_new {q m : Nat} {k w : Int32} (a : giC S2 q 2 = k ∧ giC S2 q 3 = w ∧ giC S2 q 4 = -1 ∧ giC S2 q 5 = 0 ∧ giC S2 q 6 = 0) (b : giC S2 q 7 = 0 ∧ giC S2 q 8 = 0 ∧ giC S2 q 9 = 0 ∧ giC S2 q 11 = 0) (v : ∀ s, s < 200 → giC S2 (q + 3) s = 0) (v14 : (giC S2 q 14).toInt = 0) (t : giC S2 (q + 1) 1 = 0) (a' : H2.2 14 m = k ∧ H2.2 15 m = w ∧ H2.2 16 m = -1 ∧ H2.2 17 m = 0 ∧ H2.2 18 m = 0) (b' : H2.2 19 m = 0 ∧ H2.2 20 m = 0 ∧ H2.2 21 m = 0 ∧ H2.2 24 m = 0 ∧ H2.2 26 m = 0) (v' : ∀ s, s < 200 → H2.2 29 (200 * m + s) = 2) : mR S2 q H2 m := by
  refine ⟨⟨a.1.trans a'.1.symm, a.2.1.trans a'.2.1.symm, a.2.2.1.trans a'.2.2.1.symm, a.2.2.2.1.trans a'.2.2.2.1.symm, a.2.2.2.2.trans a'.2.2.2.2.symm⟩, ⟨b.1.trans b'.2.2.2.1.symm, b.2.2.2.trans b'.2.2.2.2.symm⟩, fun _ => ⟨b.2.1.trans b'.2.1.symm, b.2.2.1.trans b'.2.2.1.symm⟩, ⟨t.trans b'.1.symm, fun i hi => ?_⟩, fun s hs => Or.inl ⟨v' s hs, v s hs⟩, ⟨fun s hs _ => v s hs, ?_⟩, fun _ _ => ⟨b'.2.1, b'.2.2.1, b'.2.2.2.2⟩⟩
  · rw [b'.1, i0] at hi
    omega
  · rw [v14, vCn_0s 200 v]
    rfl
theorem nM.cg {q : Nat} {v : Int32} (h : nM S1 q v) (c : ∀ j, j < 4 → ∀ i, giC S2 (q + j) i = giC S1 (q + j) i) : nM S2 q v := by
  obtain ⟨⟨a0, a1, a2, a3, a4, a5, a6⟩, ⟨b1, b2, b3, b4, b5⟩, cc, d⟩ := h
  have o : ∀ i, giC S2 q i = giC S1 q i := c 0 (by omega)
  exact ⟨⟨(o 0).trans a0, (o 1).trans a1, (o 2).trans a2, (o 3).trans a3, (o 4).trans a4, (o 5).trans a5, (o 6).trans a6⟩, ⟨(o 7).trans b1, (o 8).trans b2, (o 9).trans b3, (o 10).trans b4, (o 11).trans b5⟩, fun s hs => (c 3 (by omega) s).trans (cc s hs), by rw [o]; exact d⟩
end
