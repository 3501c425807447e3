theorem mr_395 {S : HS} {x1 x2 x3 x4 : Int32} (r : (b_X11_reasonOfMove_395 S x1 x2 x3 x4).1 = 0) : (x3 = 4 ∨ x3 = 5 ∨ x3 = 7) → ∃ p, p < 8 ∧ S.2 34 p = 0 := by
  have f : (b_X11_reasonOfMove_411 S x1 x2 x3 x4).1 = 0 → ∃ p, p < 8 ∧ S.2 34 p = 0 := fun q => by
    unfold b_X11_reasonOfMove_411 b_X11_reasonOfMove_a415 at q
    by_cases z : (f_X11_free S).1 = -1
    · rw [if_pos z] at q
      exact absurd (show (10 : Int32) = 0 from q) (by decide)
    · exact free_0 100000 0 (by rw [i0]; omega) (by rw [i0]; omega) (by rw [i0]; omega) z
  unfold b_X11_reasonOfMove_395 at r
  by_cases z4 : x3 = 4
  · rw [if_pos z4] at r
    exact fun _ => f r
  rw [if_neg z4] at r
  by_cases z5 : x3 = 5
  · rw [if_pos z5] at r
    exact fun _ => f r
  rw [if_neg z5] at r
  by_cases z7 : x3 = 7
  · rw [if_pos z7] at r
    exact fun _ => f r
  rintro (q | q | q)
  · exact absurd q z4
  · exact absurd q z5
  · exact absurd q z7
/-- the bounds of a motion's numbers, for sums -/
def bW (N : Int) (S : HS) (m : Nat) : Prop := (0 ≤ (S.2 19 m).toInt ∧ (S.2 19 m).toInt ≤ 400) ∧ (0 ≤ (S.2 20 m).toInt ∧ (S.2 20 m).toInt ≤ (S.2 21 m).toInt ∧ (S.2 21 m).toInt ≤ 400 * (N + 1))
theorem sum_i {a b c d : Int32} (h1 : 0 ≤ a.toInt ∧ a.toInt ≤ 400) (h2 : -1000000000 ≤ b.toInt ∧ b.toInt ≤ 400) (h3 : 0 ≤ d.toInt ∧ d.toInt ≤ c.toInt ∧ c.toInt ≤ 500000000) : ((a + b) - (c - d)).toInt = a.toInt + b.toInt - (c.toInt - d.toInt) := by
  have e1 := iSub (x := c) (y := d) (by omega) (by omega)
  have e2 := iAdd (x := a) (y := b) (by omega) (by omega)
  have e3 := iSub (x := a + b) (y := c - d) (by omega) (by omega)
  omega
theorem i400 : (400 : Int32).toInt = 400 := by decide
/-- what a move's reason of 0 says of a motion m above t -/
def uB (S : HS) (m t : Nat) (x3 : Int32) : Prop :=
  (S.1 6).toInt ≤ 8 ∧
  (x3 = 2 ∨ x3 = 3 → (S.2 25 m = 0 ∨ S.2 23 m = S.2 22 t) ∧ (S.2 21 m).toInt ≤ (S.2 19 t).toInt ∧ (S.2 19 t).toInt + (S.2 19 m).toInt - ((S.2 21 m).toInt - (S.2 20 m).toInt) ≤ 400) ∧
  (x3 = 3 → 2 ≤ (S.1 6).toInt → (S.2 19 (hM S 0 ((S.1 6).toNatClampNeg - 2))).toInt + ((S.2 19 t).toInt + (S.2 19 m).toInt - ((S.2 21 m).toInt - (S.2 20 m).toInt)) - ((S.2 21 t).toInt - (S.2 20 t).toInt) ≤ 400) ∧
  (x3 = 4 ∨ x3 = 5 ∨ x3 = 7 → ∃ p, p < 8 ∧ S.2 34 p = 0)
theorem mr_259 {N : Int} {S : HS} (h : HI N S) (hN6 : N ≤ 1000000) (ht : S.1 36 = 0) {x1 x2 x3 x4 : Int32} (r : (b_X11_reasonOfMove_259 S x1 x2 x3 x4).1 = 0) (wm : bW N S x2.toNatClampNeg)
    (x23 : x3 = 2 ∨ x3 = 3 → ¬ x4 = 0 ∧ 1 ≤ (S.1 6).toInt ∧ (S.2 25 x2.toNatClampNeg = 0 ∨ S.2 23 x2.toNatClampNeg = S.2 22 (f_X11_top S).1.toNatClampNeg) ∧ (S.2 21 x2.toNatClampNeg).toInt ≤ (S.2 19 (f_X11_top S).1.toNatClampNeg).toInt) (x0 : ¬ x4 = 0 → 1 ≤ (S.1 6).toInt) : uB S x2.toNatClampNeg (f_X11_top S).1.toNatClampNeg x3 := by
  have n6 := h.ra.2.1
  have k6 := iNat (x := S.1 6) n6.1
  unfold b_X11_reasonOfMove_259 at r
  rw [if_pos ht] at r
  by_cases z9 : S.1 6 = 9
  · rw [if_pos z9] at r
    exact absurd (show (10 : Int32) = 0 from r) (by decide)
  rw [if_neg z9] at r
  have z9 := mt iEq.mpr z9
  have e9 : (9 : Int32).toInt = 9 := by decide
  rw [e9] at z9
  by_cases z0 : x4 = 0
  · rw [if_pos z0] at r
    exact ⟨by omega, fun q => absurd z0 (x23 q).1, fun q => absurd z0 (x23 (Or.inr q)).1, mr_395 r⟩
  rw [if_neg z0, top_s] at r
  have hp := x0 z0
  have lt : hL S 0 ((S.1 6).toNatClampNeg - 1) := ⟨by omega, by show _ < (S.1 6).toInt; omega⟩
  have wt := h.1.2.2.2.2.1 0 _ lt
  rw [← top_m hp] at wt
  unfold b_X11_reasonOfMove_a293 at r
  have s1 := sum_i (a := S.2 19 (f_X11_top S).1.toNatClampNeg) (b := S.2 19 x2.toNatClampNeg) (c := S.2 21 x2.toNatClampNeg) (d := S.2 20 x2.toNatClampNeg) wt.2.1 (by have := wm.1; omega) (by have := wm.2; omega)
  by_cases z4 : ((S.2 19 (f_X11_top S).1.toNatClampNeg) + (S.2 19 x2.toNatClampNeg)) - ((S.2 21 x2.toNatClampNeg) - (S.2 20 x2.toNatClampNeg)) ≤ 400
  · rw [if_pos z4] at r
    have z4 := iLe.mp z4
    rw [s1, i400] at z4
    by_cases z3 : x3 = 3
    · rw [if_pos z3] at r
      have xx := x23 (Or.inr z3)
      unfold b_X11_reasonOfMove_348 at r
      refine ⟨by omega, fun _ => ⟨xx.2.2.1, xx.2.2.2, z4⟩, fun _ hp2 => ?_, fun q => ?_⟩
      · have e2 : (2 : Int32).toInt = 2 := by decide
        have s2 := iSub (x := S.1 6) (y := 2) (by rw [e2]; omega) (by rw [e2]; omega)
        rw [e2] at s2
        have k2 := iNat (x := S.1 6 - 2) (by omega)
        have c2 : (S.1 6 - 2).toNatClampNeg = (S.1 6).toNatClampNeg - 2 := by omega
        have lb : hL S 0 ((S.1 6).toNatClampNeg - 2) := ⟨by omega, by show _ < (S.1 6).toInt; omega⟩
        have vb := h.1.2.1 0 _ lb
        have wb := h.1.2.2.2.2.1 0 _ lb
        rw [c2] at r
        have nb : ¬ S.2 31 ((S.1 6).toNatClampNeg - 2) = -1 := fun q => by
          have v := vb.1
          have q : hC S 0 ((S.1 6).toNatClampNeg - 2) = -1 := q
          rw [q] at v
          exact absurd v (by decide)
        rw [if_neg nb, top_s] at r
        unfold b_X11_reasonOfMove_a374 at r
        rw [top_s] at r
        unfold b_X11_reasonOfMove_a383 at r
        have wmm := wm.2
        have s3 := sum_i (a := S.2 19 (hM S 0 ((S.1 6).toNatClampNeg - 2))) (b := ((S.2 19 (f_X11_top S).1.toNatClampNeg) + (S.2 19 x2.toNatClampNeg)) - ((S.2 21 x2.toNatClampNeg) - (S.2 20 x2.toNatClampNeg))) (c := S.2 21 (f_X11_top S).1.toNatClampNeg) (d := S.2 20 (f_X11_top S).1.toNatClampNeg) wb.2.1 (by rw [s1]; have := wm.1; have := wt.2.1; omega) (by have := wt.2.2; omega)
        by_cases z5 : S.2 19 (hM S 0 ((S.1 6).toNatClampNeg - 2)) + (((S.2 19 (f_X11_top S).1.toNatClampNeg) + (S.2 19 x2.toNatClampNeg)) - ((S.2 21 x2.toNatClampNeg) - (S.2 20 x2.toNatClampNeg))) - (S.2 21 (f_X11_top S).1.toNatClampNeg - S.2 20 (f_X11_top S).1.toNatClampNeg) ≤ 400
        · have z5 := iLe.mp z5
          rw [s3, s1, i400] at z5
          exact z5
        · have r : (if S.2 19 (hM S 0 ((S.1 6).toNatClampNeg - 2)) + (((S.2 19 (f_X11_top S).1.toNatClampNeg) + (S.2 19 x2.toNatClampNeg)) - ((S.2 21 x2.toNatClampNeg) - (S.2 20 x2.toNatClampNeg))) - (S.2 21 (f_X11_top S).1.toNatClampNeg - S.2 20 (f_X11_top S).1.toNatClampNeg) ≤ 400 then (b_X11_reasonOfMove_395 S x1 x2 x3 x4) else ((10 : Int32), S)).1 = 0 := r
          rw [if_neg z5] at r
          exact absurd (show (10 : Int32) = 0 from r) (by decide)
      · rw [z3] at q
        exact absurd q (by decide)
    · rw [if_neg z3] at r
      unfold b_X11_reasonOfMove_348 at r
      rw [if_pos rfl] at r
      refine ⟨by omega, fun q => ?_, fun q => absurd q z3, mr_395 r⟩
      have xx := x23 q
      exact ⟨xx.2.2.1, xx.2.2.2, z4⟩
  · rw [if_neg z4] at r
    exact absurd (show (10 : Int32) = 0 from r) (by decide)
theorem mr_127 {N : Int} {S : HS} (h : HI N S) (hN6 : N ≤ 1000000) (ht : S.1 36 = 0) {x1 x2 x3 : Int32} (r : (b_X11_reasonOfMove_127 S x1 x2 x3).1 = 0) (wm : bW N S x2.toNatClampNeg) (hp : x3 = 2 ∨ x3 = 3 → 1 ≤ (S.1 6).toInt) : uB S x2.toNatClampNeg (f_X11_top S).1.toNatClampNeg x3 := by
  have b161 : (b_X11_reasonOfMove_161 S x1 x2 x3).1 = 0 → uB S x2.toNatClampNeg (f_X11_top S).1.toNatClampNeg x3 := fun r => by
    have b257 : ∀ y, ¬ (b_X11_reasonOfMove_257 S x1 x2 x3 y).1 = 0 := fun y q => absurd (show (5 : Int32) = 0 from q) (by decide)
    have b196 : (b_X11_reasonOfMove_196 S x1 x2 x3 1).1 = 0 → 1 ≤ (S.1 6).toInt → uB S x2.toNatClampNeg (f_X11_top S).1.toNatClampNeg x3 := fun r hp => by
      unfold b_X11_reasonOfMove_196 at r
      rw [if_neg (by decide)] at r
      have b239 : (b_X11_reasonOfMove_239 S x1 x2 x3 1).1 = 0 → (S.2 25 x2.toNatClampNeg = 0 ∨ S.2 23 x2.toNatClampNeg = S.2 22 (f_X11_top S).1.toNatClampNeg) → uB S x2.toNatClampNeg (f_X11_top S).1.toNatClampNeg x3 := fun r s => by
        unfold b_X11_reasonOfMove_239 at r
        rw [top_s] at r
        unfold b_X11_reasonOfMove_a253 at r
        by_cases z : S.2 21 x2.toNatClampNeg ≤ S.2 19 (f_X11_top S).1.toNatClampNeg
        · rw [if_pos z] at r
          exact mr_259 h hN6 ht r wm (fun _ => ⟨by decide, hp, s, iLe.mp z⟩) (fun _ => hp)
        · rw [if_neg z] at r
          exact absurd r (b257 1)
      by_cases z6 : S.2 26 x2.toNatClampNeg = 0
      · rw [if_pos z6] at r
        by_cases z5 : S.2 25 x2.toNatClampNeg = 0
        · rw [if_pos z5] at r
          exact b239 r (Or.inl z5)
        · rw [if_neg z5, top_s] at r
          unfold b_X11_reasonOfMove_a235 at r
          by_cases z3 : S.2 23 x2.toNatClampNeg = S.2 22 (f_X11_top S).1.toNatClampNeg
          · rw [if_pos z3] at r
            exact b239 r (Or.inr z3)
          · rw [if_neg z3] at r
            exact absurd r (b257 1)
      · rw [if_neg z6] at r
        exact absurd r (b257 1)
    unfold b_X11_reasonOfMove_161 at r
    by_cases z : S.1 3 ≤ S.1 1
    · rw [if_pos z, if_pos ht] at r
      by_cases z2 : x3 = 2
      · rw [if_pos z2] at r
        exact b196 r (hp (Or.inl z2))
      rw [if_neg z2] at r
      by_cases z3 : x3 = 3
      · rw [if_pos z3] at r
        exact b196 r (hp (Or.inr z3))
      rw [if_neg z3] at r
      unfold b_X11_reasonOfMove_195 b_X11_reasonOfMove_196 at r
      rw [if_pos rfl] at r
      exact mr_259 h hN6 ht r wm (fun q => absurd q (fun q => q.elim z2 z3)) (fun q => absurd rfl q)
    · rw [if_neg z] at r
      exact absurd (show (4 : Int32) = 0 from r) (by decide)
  unfold b_X11_reasonOfMove_127 at r
  have b143 : ¬ (b_X11_reasonOfMove_143 S x1 x2 x3).1 = 0 := fun q => absurd (show (2 : Int32) = 0 from q) (by decide)
  by_cases z1 : S.1 5 = -1
  · rw [if_pos z1] at r
    exact absurd r b143
  rw [if_neg z1] at r
  by_cases z2 : S.1 5 = x1
  · rw [if_pos z2] at r
    by_cases z3 : S.1 6 ≤ 0
    · rw [if_pos z3] at r
      exact b161 r
    rw [if_neg z3, seconder_s] at r
    unfold b_X11_reasonOfMove_a156 at r
    by_cases z4 : (f_X11_hasSeconder S).1 = 0
    · rw [if_pos z4] at r
      exact absurd (show (3 : Int32) = 0 from r) (by decide)
    · rw [if_neg z4] at r
      exact b161 r
  · rw [if_neg z2] at r
    exact absurd r b143
theorem rf_move {N : Int} {S : HS} (h : HI N S) (hN6 : N ≤ 1000000) {x : Int32} (r : (f_X11_reasonOfMove S x).1 = 0) :
    1 ≤ (S.1 35).toInt ∧ (S.1 36 ≠ 0 → S.1 6 = 0) ∧ (S.1 36 = 0 → mV S (hM S 1 0) (f_X11_top S).1.toNatClampNeg) := by
  have n6 := h.ra.2.1
  have n35 := h.ra.2.2.1
  have m0 : hM S 1 0 = (S.2 32 (0 : Int32).toNatClampNeg).toNatClampNeg := by rw [zn0]; rfl
  unfold f_X11_reasonOfMove at r
  by_cases z : S.1 35 = 0
  · rw [if_pos z] at r
    exact absurd (show (11 : Int32) = 0 from r) (by decide)
  rw [if_neg z] at r
  have z := mt iEq.mpr z
  rw [i0] at z
  have hd : 1 ≤ (S.1 35).toInt := by omega
  refine ⟨hd, ?_⟩
  have s0 : S.1 6 ≤ 0 → S.1 6 = 0 := fun q => by
    have q := iLe.mp q
    rw [i0] at q
    exact iEq.mpr (by rw [i0]; omega)
  by_cases ht : S.1 36 = 0
  · rw [if_pos ht, ← m0] at r
    refine ⟨fun q => absurd ht q, fun _ => ?_⟩
    have l : hL S 1 0 := ⟨by omega, by have := one_n h hd ht; omega⟩
    have w := h.1.2.2.2.2.1 1 0 l
    have wm : bW N S (S.2 32 (0 : Int32).toNatClampNeg).toNatClampNeg := by rw [← m0]; exact w.2
    have bm : ∀ k, uB S (S.2 32 (0 : Int32).toNatClampNeg).toNatClampNeg (f_X11_top S).1.toNatClampNeg k → uB S (hM S 1 0) (f_X11_top S).1.toNatClampNeg k := fun k q => by rw [m0]; exact q
    have kr := w.1
    unfold mV
    generalize hk : S.2 14 (hM S 1 0) = k at r kr
    unfold b_X11_reasonOfMove_34 at r
    by_cases k1 : k = 1
    · rw [if_pos k1] at r
      by_cases z6 : S.1 6 ≤ 0
      · have e := s0 z6
        have e' := iEq.mp e
        rw [i0] at e'
        have nk : ∀ y : Int32, y ≠ 1 → ¬ k = y := fun y a b => a (b.symm.trans k1)
        exact ⟨by omega, fun _ => e, fun q => absurd k1 q, fun q => absurd q (fun q => q.elim (nk 2 (by decide)) (nk 3 (by decide))), fun q => absurd q (nk 3 (by decide)), fun q => absurd q (nk 2 (by decide)), fun q => absurd q (fun q => q.elim (nk 4 (by decide)) (fun q => q.elim (nk 5 (by decide)) (nk 7 (by decide))))⟩
      · rw [if_neg z6] at r
        exact absurd (show (1 : Int32) = 0 from r) (by decide)
    rw [if_neg k1] at r
    by_cases k4 : 4 ≤ k
    · rw [if_pos k4] at r
      have g := mr_70 _ _ _ n6 100000 0 0 (by rw [i0]; omega) (by rw [i0]; omega) (by rw [i0]; omega) r
      have b := bm _ (mr_127 h hN6 ht g.2 wm (fun _ => g.1))
      have k4 := iLe.mp k4
      have e4 : (4 : Int32).toInt = 4 := by decide
      rw [e4] at k4
      have nk : ∀ y : Int32, y.toInt < 4 → ¬ k = y := fun y a b => by rw [b] at k4; omega
      exact ⟨b.1, fun q => absurd q k1, fun _ => g.1, fun q => absurd q (fun q => q.elim (nk 2 (by decide)) (nk 3 (by decide))), fun q => absurd q (nk 3 (by decide)), fun q => absurd q (nk 2 (by decide)), b.2.2.2⟩
    · rw [if_neg k4, isAbout_s] at r
      unfold b_X11_reasonOfMove_a59 at r
      by_cases a : (f_X11_isAbout S k).1 = 0
      · rw [if_pos a] at r
        exact absurd (show (1 : Int32) = 0 from r) (by decide)
      rw [if_neg a] at r
      have hp := isAbout_pos h.ra a
      have ka := isAbout_k a
      have b := bm _ (mr_127 h hN6 ht r wm (fun _ => hp))
      have t3 : k = 3 → S.2 14 (f_X11_top S).1.toNatClampNeg = 2 := fun q => ka.2 (by rw [q]; decide)
      have t2 : k = 2 → S.2 14 (f_X11_top S).1.toNatClampNeg ≠ 2 ∧ S.2 14 (f_X11_top S).1.toNatClampNeg ≠ 3 := fun q => by
        rcases ka.1 q with y | y | y <;> rw [y] <;> decide
      exact ⟨b.1, fun q => absurd q k1, fun _ => hp, b.2.1, fun q => ⟨t3 q, b.2.2.1 q⟩, t2, b.2.2.2⟩
  · rw [if_neg ht] at r
    refine ⟨fun _ => ?_, fun q => absurd q ht⟩
    unfold b_X11_reasonOfMove_34 at r
    rw [if_pos rfl] at r
    by_cases z6 : S.1 6 ≤ 0
    · exact s0 z6
    · rw [if_neg z6] at r
      exact absurd (show (1 : Int32) = 0 from r) (by decide)
