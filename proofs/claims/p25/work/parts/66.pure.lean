section
/-! ===== what lay's reason of 0 says ===== -/
theorem fp_e {S : HS} {p : Nat} (hp : p < 8) (h0 : S.2 34 p = 0) (h1 : ∀ q, q < 8 → q ≠ p → S.2 34 q ≠ 0) : ∀ (n : Nat) (y x : Int32), 0 ≤ x.toInt → x.toInt ≤ 8 → 8 - x.toInt < n → y.toInt = (if (p : Int) < x.toInt then 1 else 0) → (lp_X11_freePlaces_4 n S y x).1 = 1 := by
  intro n
  induction n with
  | zero => intro y x a b c d; omega
  | succ n ih =>
    intro y x a b c d
    rw [lp_X11_freePlaces_4]
    unfold st_X11_freePlaces_4
    have e8 : (8 : Int32).toInt = 8 := by decide
    by_cases z : 8 ≤ x
    · rw [if_pos z]
      have z := iLe.mp z
      rw [e8] at z
      rw [if_pos (by omega)] at d
      exact iEq.mpr (by rw [i1]; exact d)
    rw [if_neg z]
    have z := mt iLe.mpr z
    rw [e8] at z
    have e := iAdd (x := x) (y := 1) (by rw [i1]; omega) (by rw [i1]; omega)
    rw [i1] at e
    have k := iNat a
    by_cases w : S.2 34 x.toNatClampNeg = 0
    · rw [if_pos w]
      have xp : x.toNatClampNeg = p := Classical.byContradiction (fun q => h1 _ (by omega) q w)
      rw [if_neg (by omega)] at d
      refine ih (y + 1) (x + 1) (by omega) (by omega) (by omega) ?_
      rw [iAdd (by rw [i1]; omega) (by rw [i1]; omega), i1, if_pos (by omega)]
      omega
    · rw [if_neg w]
      have xp : x.toNatClampNeg ≠ p := fun q => w (by rw [q]; exact h0)
      refine ih (y + 0) (x + 1) (by omega) (by omega) (by omega) ?_
      have hy : 0 ≤ y.toInt ∧ y.toInt ≤ 1 := by
        rw [d]
        split <;> omega
      rw [iAdd (by rw [i0]; omega) (by rw [i0]; omega), i0, d]
      by_cases v : (p : Int) < x.toInt
      · rw [if_pos v, if_pos (by omega)]
        omega
      · rw [if_neg v, if_neg (by omega)]
        omega
theorem wants_e {S : HS} (h6 : (S.1 6).toInt ≤ 9) : ∀ (n : Nat) (x : Int32), 0 ≤ x.toInt → x.toInt ≤ 9 → 9 - x.toInt < n → (lp_X11_wantsPlace_2 n S x).1 = 0 → ∀ i : Nat, x.toInt ≤ i → (i : Int) < (S.1 6).toInt → ¬ (S.2 14 (hM S 0 i) = 4 ∨ S.2 14 (hM S 0 i) = 5 ∨ S.2 14 (hM S 0 i) = 7) := by
  intro n
  induction n with
  | zero => intro x a b c; omega
  | succ n ih =>
    intro x a b c r i u v
    rw [lp_X11_wantsPlace_2] at r
    unfold st_X11_wantsPlace_2 at r
    by_cases z : S.1 6 ≤ x
    · have z := iLe.mp z
      omega
    rw [if_neg z] at r
    have z := mt iLe.mpr z
    have e := iAdd (x := x) (y := 1) (by rw [i1]; omega) (by rw [i1]; omega)
    rw [i1] at e
    have k := iNat a
    by_cases z4 : S.2 14 (S.2 31 x.toNatClampNeg).toNatClampNeg = 4
    · rw [if_pos z4] at r
      exact absurd (show (1 : Int32) = 0 from r) (by decide)
    rw [if_neg z4] at r
    by_cases z5 : S.2 14 (S.2 31 x.toNatClampNeg).toNatClampNeg = 5
    · rw [if_pos z5] at r
      exact absurd (show (1 : Int32) = 0 from r) (by decide)
    rw [if_neg z5] at r
    by_cases z7 : S.2 14 (S.2 31 x.toNatClampNeg).toNatClampNeg = 7
    · rw [if_pos z7] at r
      exact absurd (show (1 : Int32) = 0 from r) (by decide)
    rw [if_neg z7] at r
    by_cases w : i = x.toNatClampNeg
    · subst w
      exact fun q => by
        rcases q with q | q | q
        · exact z4 q
        · exact z5 q
        · exact z7 q
    · exact ih (x + 1) (by omega) (by omega) (by omega) r i (by omega) v
theorem hasDraft_1 {S : HS} (hd : 1 ≤ (S.1 35).toInt) (ht : S.1 36 = 0) (hk : S.2 14 (S.2 32 (0 : Int32).toNatClampNeg).toNatClampNeg = 2 ∨ S.2 14 (S.2 32 (0 : Int32).toNatClampNeg).toNatClampNeg = 3) : (f_X11_hasDraft S 2 3).1 = 1 := by
  unfold f_X11_hasDraft
  rw [if_neg (fun q => by have q := iLe.mp q; rw [i0] at q; omega), if_pos ht, if_neg]
  · rfl
  · rw [in_f, if_pos]
    · decide
    · rcases hk with q | q <;> rw [q] <;> decide
theorem rf_lay {S : HS} (h : RA S) {x : Int32} (r : (f_X11_reasonOfLay S x).1 = 0) : (0 ≤ x.toInt ∧ x.toInt ≤ 7) ∧ 1 ≤ (S.1 35).toInt ∧ (S.2 34 x.toNatClampNeg).toInt ≤ 0 ∧
    (S.1 36 = 0 → S.2 25 (S.2 32 (0 : Int32).toNatClampNeg).toNatClampNeg = 0 → (S.2 14 (S.2 32 (0 : Int32).toNatClampNeg).toNatClampNeg = 2 ∨ S.2 14 (S.2 32 (0 : Int32).toNatClampNeg).toNatClampNeg = 3) → 1 ≤ (S.1 6).toInt) ∧ ((f_X11_freePlaces S).1 = 1 → (f_X11_wantsPlace S).1 = 0) := by
  unfold f_X11_reasonOfLay at r
  by_cases z1 : f_X12_in x 0 7 = 0
  · rw [if_pos z1] at r
    exact absurd (show (9 : Int32) = 0 from r) (by decide)
  rw [if_neg z1] at r
  by_cases z2 : S.1 35 = 0
  · rw [if_pos z2] at r
    exact absurd (show (11 : Int32) = 0 from r) (by decide)
  rw [if_neg z2] at r
  have z2 := mt iEq.mpr z2
  rw [i0] at z2
  have hd : 1 ≤ (S.1 35).toInt := by have := h.2.2.1; omega
  by_cases z3 : S.2 34 x.toNatClampNeg ≤ 0
  · rw [if_pos z3, hasDraft_s] at r
    have z3 := iLe.mp z3
    rw [i0] at z3
    have b100 : (b_X11_reasonOfLay_100 S x).1 = 0 → ((f_X11_freePlaces S).1 = 1 → (f_X11_wantsPlace S).1 = 0) := fun q a => by
      unfold b_X11_reasonOfLay_100 at q
      rw [freePlaces_s] at q
      unfold b_X11_reasonOfLay_a104 at q
      rw [if_pos a, wantsPlace_s] at q
      unfold b_X11_reasonOfLay_a112 at q
      refine Classical.byContradiction (fun w => ?_)
      rw [if_neg w] at q
      exact absurd (show (10 : Int32) = 0 from q) (by decide)
    refine ⟨in_07 z1, hd, z3, ?_⟩
    unfold b_X11_reasonOfLay_a38 at r
    by_cases z4 : (f_X11_hasDraft S 2 3).1 = 0
    · rw [if_pos z4] at r
      refine ⟨fun a b c => ?_, b100 r⟩
      rw [hasDraft_1 hd a c] at z4
      exact absurd z4 (by decide)
    rw [if_neg z4] at r
    by_cases z5 : S.2 25 (S.2 32 (0 : Int32).toNatClampNeg).toNatClampNeg = 0
    · rw [if_pos z5, isAbout_s] at r
      unfold b_X11_reasonOfLay_a70 at r
      by_cases z6 : (f_X11_isAbout S (S.2 14 (S.2 32 (0 : Int32).toNatClampNeg).toNatClampNeg)).1 = 0
      · rw [if_pos z6] at r
        exact absurd (show (1 : Int32) = 0 from r) (by decide)
      rw [if_neg z6, top_s] at r
      unfold b_X11_reasonOfLay_a94 at r
      refine ⟨fun _ _ _ => isAbout_pos h z6, ?_⟩
      by_cases z7 : S.2 21 (S.2 32 (0 : Int32).toNatClampNeg).toNatClampNeg ≤ S.2 19 (f_X11_top S).1.toNatClampNeg
      · rw [if_pos z7] at r
        exact b100 r
      · rw [if_neg z7] at r
        exact absurd (show (5 : Int32) = 0 from r) (by decide)
    · rw [if_neg z5] at r
      exact ⟨fun _ b => absurd b z5, b100 r⟩
  · rw [if_neg z3] at r
    exact absurd (show (11 : Int32) = 0 from r) (by decide)
theorem lay_w {N : Int} {S : HS} (h : HI N S) {x : Int32} (r : (f_X11_reasonOfLay S x).1 = 0) : wP S → ∃ q, q < 8 ∧ q ≠ x.toNatClampNeg ∧ S.2 34 q = 0 := by
  obtain ⟨a1, a2, a3, a4, a5⟩ := rf_lay h.ra r
  rintro ⟨i, b, c⟩
  have k := iNat a1.1
  have n := h.1.1 (x.toNatClampNeg + 2) (by omega)
  have e : hN S (x.toNatClampNeg + 2) = (S.2 34 x.toNatClampNeg).toInt := rfl
  have z : S.2 34 x.toNatClampNeg = 0 := iEq.mpr (by rw [i0]; omega)
  have n6 := h.ra.2.1
  refine Classical.byContradiction (fun w => ?_)
  have f := fp_e (S := S) (p := x.toNatClampNeg) (by omega) z (fun q y1 y2 y3 => w ⟨q, y1, y2, y3⟩) 100000 0 0 (by rw [i0]; omega) (by rw [i0]; omega) (by rw [i0]; omega) (by rw [i0, if_neg (by omega)])
  have g := a5 f
  exact wants_e n6.2 100000 0 (by rw [i0]; omega) (by rw [i0]; omega) (by rw [i0]; omega) g i (by rw [i0]; omega) b.2 c
/-! ===== what move's reason of 0 says ===== -/
theorem free_0 {S : HS} : ∀ (n : Nat) (x : Int32), 0 ≤ x.toInt → x.toInt ≤ 8 → 8 - x.toInt < n → (lp_X11_free_2 n S x).1 ≠ -1 → ∃ p, p < 8 ∧ S.2 34 p = 0 := by
  intro n
  induction n with
  | zero => intro x a b c; omega
  | succ n ih =>
    intro x a b c r
    rw [lp_X11_free_2] at r
    unfold st_X11_free_2 at r
    have e8 : (8 : Int32).toInt = 8 := by decide
    by_cases z : 8 ≤ x
    · rw [if_pos z] at r
      exact absurd rfl r
    rw [if_neg z] at r
    have z := mt iLe.mpr z
    rw [e8] at z
    have e := iAdd (x := x) (y := 1) (by rw [i1]; omega) (by rw [i1]; omega)
    rw [i1] at e
    have k := iNat a
    by_cases w : S.2 34 x.toNatClampNeg = 0
    · exact ⟨_, by omega, w⟩
    · rw [if_neg w] at r
      exact ih (x + 1) (by omega) (by omega) (by omega) r
theorem isAbout_k {S : HS} {k : Int32} (q : ¬ (f_X11_isAbout S k).1 = 0) : (k = 2 → S.2 14 (f_X11_top S).1.toNatClampNeg = 1 ∨ S.2 14 (f_X11_top S).1.toNatClampNeg = 4 ∨ S.2 14 (f_X11_top S).1.toNatClampNeg = 5) ∧ (¬ k = 2 → S.2 14 (f_X11_top S).1.toNatClampNeg = 2) := by
  unfold f_X11_isAbout at q
  by_cases z : S.1 6 = 0
  · rw [if_pos z] at q
    exact absurd rfl q
  rw [if_neg z, top_s] at q
  unfold b_X11_isAbout_a17 at q
  refine ⟨fun y => ?_, fun y => ?_⟩
  · rw [if_pos y] at q
    by_cases a : S.2 14 (f_X11_top S).1.toNatClampNeg = 1
    · exact Or.inl a
    rw [if_neg a] at q
    by_cases b : S.2 14 (f_X11_top S).1.toNatClampNeg = 4
    · exact Or.inr (Or.inl b)
    rw [if_neg b] at q
    by_cases c : S.2 14 (f_X11_top S).1.toNatClampNeg = 5
    · exact Or.inr (Or.inr c)
    rw [if_neg c] at q
    exact absurd rfl q
  · rw [if_neg y] at q
    by_cases a : S.2 14 (f_X11_top S).1.toNatClampNeg = 2
    · exact a
    rw [if_neg a] at q
    exact absurd rfl q
theorem mr_70 {S : HS} (x1 x2 x3 : Int32) (h6 : 0 ≤ (S.1 6).toInt ∧ (S.1 6).toInt ≤ 9) : ∀ (n : Nat) (x4 x5 : Int32), 0 ≤ x5.toInt → x5.toInt ≤ 9 → 9 - x5.toInt < n → (lp_X11_reasonOfMove_70 n S x1 x2 x3 x4 x5).1 = 0 → 1 ≤ (S.1 6).toInt ∧ (b_X11_reasonOfMove_127 S x1 x2 x3).1 = 0 := by
  intro n
  induction n with
  | zero => intro x4 x5 a b c; omega
  | succ n ih =>
    intro x4 x5 a b c r
    rw [lp_X11_reasonOfMove_70] at r
    unfold st_X11_reasonOfMove_70 at r
    by_cases z : S.1 6 ≤ x5
    · rw [if_pos z] at r
      dsimp only at r
      by_cases y : S.1 6 = 0
      · rw [if_pos y] at r
        exact absurd (show (1 : Int32) = 0 from r) (by decide)
      rw [if_neg y] at r
      have y := mt iEq.mpr y
      rw [i0] at y
      by_cases w : x4 = 0
      · rw [if_pos w] at r
        exact ⟨by omega, r⟩
      · rw [if_neg w] at r
        exact absurd (show (1 : Int32) = 0 from r) (by decide)
    rw [if_neg z] at r
    have z := mt iLe.mpr z
    have e := iAdd (x := x5) (y := 1) (by rw [i1]; omega) (by rw [i1]; omega)
    rw [i1] at e
    have g : ∀ y, (lp_X11_reasonOfMove_70 n S x1 x2 x3 y (x5 + 1)).1 = 0 → _ := fun y => ih y (x5 + 1) (by omega) (by omega) (by omega)
    by_cases w : x4 = 0
    · rw [if_pos w] at r
      by_cases v : S.2 14 (S.2 31 x5.toNatClampNeg).toNatClampNeg < x3
      · rw [if_pos v] at r
        exact g 0 r
      · rw [if_neg v] at r
        exact g 1 r
    · rw [if_neg w] at r
      exact g 1 r
end
section
theorem mr_395 {S : HS} {x1 x2 x3 x4 : Int32} (r : (b_X11_reasonOfMove_395 S x1 x2 x3 x4).1 = 0) : (x3 = 4 ∨ x3 = 5 ∨ x3 = 7) → ∃ p, p < 8 ∧ S.2 34 p = 0 := by
  have f : (b_X11_reasonOfMove_411 S x1 x2 x3 x4).1 = 0 → ∃ p, p < 8 ∧ S.2 34 p = 0 := fun q => by
    unfold b_X11_reasonOfMove_411 b_X11_reasonOfMove_a415 at q
    by_cases z : (f_X11_free S).1 = -1
    · rw [if_pos z] at q
      exact absurd (show (10 : Int32) = 0 from q) (by decide)
    · exact free_0 100000 0 (by rw [i0]; omega) (by rw [i0]; omega) (by rw [i0]; omega) z
  unfold b_X11_reasonOfMove_395 at r
  by_cases z4 : x3 = 4
  · rw [if_pos z4] at r
    exact fun _ => f r
  rw [if_neg z4] at r
  by_cases z5 : x3 = 5
  · rw [if_pos z5] at r
    exact fun _ => f r
  rw [if_neg z5] at r
  by_cases z7 : x3 = 7
  · rw [if_pos z7] at r
    exact fun _ => f r
  rintro (q | q | q)
  · exact absurd q z4
  · exact absurd q z5
  · exact absurd q z7
/-- the bounds of a motion's numbers, for sums -/
def bW (N : Int) (S : HS) (m : Nat) : Prop := (0 ≤ (S.2 19 m).toInt ∧ (S.2 19 m).toInt ≤ 400) ∧ (0 ≤ (S.2 20 m).toInt ∧ (S.2 20 m).toInt ≤ (S.2 21 m).toInt ∧ (S.2 21 m).toInt ≤ 400 * (N + 1))
theorem sum_i {a b c d : Int32} (h1 : 0 ≤ a.toInt ∧ a.toInt ≤ 400) (h2 : -1000000000 ≤ b.toInt ∧ b.toInt ≤ 400) (h3 : 0 ≤ d.toInt ∧ d.toInt ≤ c.toInt ∧ c.toInt ≤ 500000000) : ((a + b) - (c - d)).toInt = a.toInt + b.toInt - (c.toInt - d.toInt) := by
  have e1 := iSub (x := c) (y := d) (by omega) (by omega)
  have e2 := iAdd (x := a) (y := b) (by omega) (by omega)
  have e3 := iSub (x := a + b) (y := c - d) (by omega) (by omega)
  omega
theorem i400 : (400 : Int32).toInt = 400 := by decide
/-- what a move's reason of 0 says of a motion m above t -/
def uB (S : HS) (m t : Nat) (x3 : Int32) : Prop :=
  (S.1 6).toInt ≤ 8 ∧
  (x3 = 2 ∨ x3 = 3 → (S.2 25 m = 0 ∨ S.2 23 m = S.2 22 t) ∧ (S.2 21 m).toInt ≤ (S.2 19 t).toInt ∧ (S.2 19 t).toInt + (S.2 19 m).toInt - ((S.2 21 m).toInt - (S.2 20 m).toInt) ≤ 400) ∧
  (x3 = 3 → 2 ≤ (S.1 6).toInt → (S.2 19 (hM S 0 ((S.1 6).toNatClampNeg - 2))).toInt + ((S.2 19 t).toInt + (S.2 19 m).toInt - ((S.2 21 m).toInt - (S.2 20 m).toInt)) - ((S.2 21 t).toInt - (S.2 20 t).toInt) ≤ 400) ∧
  (x3 = 4 ∨ x3 = 5 ∨ x3 = 7 → ∃ p, p < 8 ∧ S.2 34 p = 0)
theorem mr_259 {N : Int} {S : HS} (h : HI N S) (hN6 : N ≤ 1000000) (ht : S.1 36 = 0) {x1 x2 x3 x4 : Int32} (r : (b_X11_reasonOfMove_259 S x1 x2 x3 x4).1 = 0) (wm : bW N S x2.toNatClampNeg)
    (x23 : x3 = 2 ∨ x3 = 3 → ¬ x4 = 0 ∧ 1 ≤ (S.1 6).toInt ∧ (S.2 25 x2.toNatClampNeg = 0 ∨ S.2 23 x2.toNatClampNeg = S.2 22 (f_X11_top S).1.toNatClampNeg) ∧ (S.2 21 x2.toNatClampNeg).toInt ≤ (S.2 19 (f_X11_top S).1.toNatClampNeg).toInt) (x0 : ¬ x4 = 0 → 1 ≤ (S.1 6).toInt) : uB S x2.toNatClampNeg (f_X11_top S).1.toNatClampNeg x3 := by
  have n6 := h.ra.2.1
  have k6 := iNat (x := S.1 6) n6.1
  unfold b_X11_reasonOfMove_259 at r
  rw [if_pos ht] at r
  by_cases z9 : S.1 6 = 9
  · rw [if_pos z9] at r
    exact absurd (show (10 : Int32) = 0 from r) (by decide)
  rw [if_neg z9] at r
  have z9 := mt iEq.mpr z9
  have e9 : (9 : Int32).toInt = 9 := by decide
  rw [e9] at z9
  by_cases z0 : x4 = 0
  · rw [if_pos z0] at r
    exact ⟨by omega, fun q => absurd z0 (x23 q).1, fun q => absurd z0 (x23 (Or.inr q)).1, mr_395 r⟩
  rw [if_neg z0, top_s] at r
  have hp := x0 z0
  have lt : hL S 0 ((S.1 6).toNatClampNeg - 1) := ⟨by omega, by show _ < (S.1 6).toInt; omega⟩
  have wt := h.1.2.2.2.2.1 0 _ lt
  rw [← top_m hp] at wt
  unfold b_X11_reasonOfMove_a293 at r
  have s1 := sum_i (a := S.2 19 (f_X11_top S).1.toNatClampNeg) (b := S.2 19 x2.toNatClampNeg) (c := S.2 21 x2.toNatClampNeg) (d := S.2 20 x2.toNatClampNeg) wt.2.1 (by have := wm.1; omega) (by have := wm.2; omega)
  by_cases z4 : ((S.2 19 (f_X11_top S).1.toNatClampNeg) + (S.2 19 x2.toNatClampNeg)) - ((S.2 21 x2.toNatClampNeg) - (S.2 20 x2.toNatClampNeg)) ≤ 400
  · rw [if_pos z4] at r
    have z4 := iLe.mp z4
    rw [s1, i400] at z4
    by_cases z3 : x3 = 3
    · rw [if_pos z3] at r
      have xx := x23 (Or.inr z3)
      unfold b_X11_reasonOfMove_348 at r
      refine ⟨by omega, fun _ => ⟨xx.2.2.1, xx.2.2.2, z4⟩, fun _ hp2 => ?_, fun q => ?_⟩
      · have e2 : (2 : Int32).toInt = 2 := by decide
        have s2 := iSub (x := S.1 6) (y := 2) (by rw [e2]; omega) (by rw [e2]; omega)
        rw [e2] at s2
        have k2 := iNat (x := S.1 6 - 2) (by omega)
        have c2 : (S.1 6 - 2).toNatClampNeg = (S.1 6).toNatClampNeg - 2 := by omega
        have lb : hL S 0 ((S.1 6).toNatClampNeg - 2) := ⟨by omega, by show _ < (S.1 6).toInt; omega⟩
        have vb := h.1.2.1 0 _ lb
        have wb := h.1.2.2.2.2.1 0 _ lb
        rw [c2] at r
        have nb : ¬ S.2 31 ((S.1 6).toNatClampNeg - 2) = -1 := fun q => by
          have v := vb.1
          have q : hC S 0 ((S.1 6).toNatClampNeg - 2) = -1 := q
          rw [q] at v
          exact absurd v (by decide)
        rw [if_neg nb, top_s] at r
        unfold b_X11_reasonOfMove_a374 at r
        rw [top_s] at r
        unfold b_X11_reasonOfMove_a383 at r
        have wmm := wm.2
        have s3 := sum_i (a := S.2 19 (hM S 0 ((S.1 6).toNatClampNeg - 2))) (b := ((S.2 19 (f_X11_top S).1.toNatClampNeg) + (S.2 19 x2.toNatClampNeg)) - ((S.2 21 x2.toNatClampNeg) - (S.2 20 x2.toNatClampNeg))) (c := S.2 21 (f_X11_top S).1.toNatClampNeg) (d := S.2 20 (f_X11_top S).1.toNatClampNeg) wb.2.1 (by rw [s1]; have := wm.1; have := wt.2.1; omega) (by have := wt.2.2; omega)
        by_cases z5 : S.2 19 (hM S 0 ((S.1 6).toNatClampNeg - 2)) + (((S.2 19 (f_X11_top S).1.toNatClampNeg) + (S.2 19 x2.toNatClampNeg)) - ((S.2 21 x2.toNatClampNeg) - (S.2 20 x2.toNatClampNeg))) - (S.2 21 (f_X11_top S).1.toNatClampNeg - S.2 20 (f_X11_top S).1.toNatClampNeg) ≤ 400
        · have z5 := iLe.mp z5
          rw [s3, s1, i400] at z5
          exact z5
        · have r : (if S.2 19 (hM S 0 ((S.1 6).toNatClampNeg - 2)) + (((S.2 19 (f_X11_top S).1.toNatClampNeg) + (S.2 19 x2.toNatClampNeg)) - ((S.2 21 x2.toNatClampNeg) - (S.2 20 x2.toNatClampNeg))) - (S.2 21 (f_X11_top S).1.toNatClampNeg - S.2 20 (f_X11_top S).1.toNatClampNeg) ≤ 400 then (b_X11_reasonOfMove_395 S x1 x2 x3 x4) else ((10 : Int32), S)).1 = 0 := r
          rw [if_neg z5] at r
          exact absurd (show (10 : Int32) = 0 from r) (by decide)
      · rw [z3] at q
        exact absurd q (by decide)
    · rw [if_neg z3] at r
      unfold b_X11_reasonOfMove_348 at r
      rw [if_pos rfl] at r
      refine ⟨by omega, fun q => ?_, fun q => absurd q z3, mr_395 r⟩
      have xx := x23 q
      exact ⟨xx.2.2.1, xx.2.2.2, z4⟩
  · rw [if_neg z4] at r
    exact absurd (show (10 : Int32) = 0 from r) (by decide)
theorem mr_127 {N : Int} {S : HS} (h : HI N S) (hN6 : N ≤ 1000000) (ht : S.1 36 = 0) {x1 x2 x3 : Int32} (r : (b_X11_reasonOfMove_127 S x1 x2 x3).1 = 0) (wm : bW N S x2.toNatClampNeg) (hp : x3 = 2 ∨ x3 = 3 → 1 ≤ (S.1 6).toInt) : uB S x2.toNatClampNeg (f_X11_top S).1.toNatClampNeg x3 := by
  have b161 : (b_X11_reasonOfMove_161 S x1 x2 x3).1 = 0 → uB S x2.toNatClampNeg (f_X11_top S).1.toNatClampNeg x3 := fun r => by
    have b257 : ∀ y, ¬ (b_X11_reasonOfMove_257 S x1 x2 x3 y).1 = 0 := fun y q => absurd (show (5 : Int32) = 0 from q) (by decide)
    have b196 : (b_X11_reasonOfMove_196 S x1 x2 x3 1).1 = 0 → 1 ≤ (S.1 6).toInt → uB S x2.toNatClampNeg (f_X11_top S).1.toNatClampNeg x3 := fun r hp => by
      unfold b_X11_reasonOfMove_196 at r
      rw [if_neg (by decide)] at r
      have b239 : (b_X11_reasonOfMove_239 S x1 x2 x3 1).1 = 0 → (S.2 25 x2.toNatClampNeg = 0 ∨ S.2 23 x2.toNatClampNeg = S.2 22 (f_X11_top S).1.toNatClampNeg) → uB S x2.toNatClampNeg (f_X11_top S).1.toNatClampNeg x3 := fun r s => by
        unfold b_X11_reasonOfMove_239 at r
        rw [top_s] at r
        unfold b_X11_reasonOfMove_a253 at r
        by_cases z : S.2 21 x2.toNatClampNeg ≤ S.2 19 (f_X11_top S).1.toNatClampNeg
        · rw [if_pos z] at r
          exact mr_259 h hN6 ht r wm (fun _ => ⟨by decide, hp, s, iLe.mp z⟩) (fun _ => hp)
        · rw [if_neg z] at r
          exact absurd r (b257 1)
      by_cases z6 : S.2 26 x2.toNatClampNeg = 0
      · rw [if_pos z6] at r
        by_cases z5 : S.2 25 x2.toNatClampNeg = 0
        · rw [if_pos z5] at r
          exact b239 r (Or.inl z5)
        · rw [if_neg z5, top_s] at r
          unfold b_X11_reasonOfMove_a235 at r
          by_cases z3 : S.2 23 x2.toNatClampNeg = S.2 22 (f_X11_top S).1.toNatClampNeg
          · rw [if_pos z3] at r
            exact b239 r (Or.inr z3)
          · rw [if_neg z3] at r
            exact absurd r (b257 1)
      · rw [if_neg z6] at r
        exact absurd r (b257 1)
    unfold b_X11_reasonOfMove_161 at r
    by_cases z : S.1 3 ≤ S.1 1
    · rw [if_pos z, if_pos ht] at r
      by_cases z2 : x3 = 2
      · rw [if_pos z2] at r
        exact b196 r (hp (Or.inl z2))
      rw [if_neg z2] at r
      by_cases z3 : x3 = 3
      · rw [if_pos z3] at r
        exact b196 r (hp (Or.inr z3))
      rw [if_neg z3] at r
      unfold b_X11_reasonOfMove_195 b_X11_reasonOfMove_196 at r
      rw [if_pos rfl] at r
      exact mr_259 h hN6 ht r wm (fun q => absurd q (fun q => q.elim z2 z3)) (fun q => absurd rfl q)
    · rw [if_neg z] at r
      exact absurd (show (4 : Int32) = 0 from r) (by decide)
  unfold b_X11_reasonOfMove_127 at r
  have b143 : ¬ (b_X11_reasonOfMove_143 S x1 x2 x3).1 = 0 := fun q => absurd (show (2 : Int32) = 0 from q) (by decide)
  by_cases z1 : S.1 5 = -1
  · rw [if_pos z1] at r
    exact absurd r b143
  rw [if_neg z1] at r
  by_cases z2 : S.1 5 = x1
  · rw [if_pos z2] at r
    by_cases z3 : S.1 6 ≤ 0
    · rw [if_pos z3] at r
      exact b161 r
    rw [if_neg z3, seconder_s] at r
    unfold b_X11_reasonOfMove_a156 at r
    by_cases z4 : (f_X11_hasSeconder S).1 = 0
    · rw [if_pos z4] at r
      exact absurd (show (3 : Int32) = 0 from r) (by decide)
    · rw [if_neg z4] at r
      exact b161 r
  · rw [if_neg z2] at r
    exact absurd r b143
theorem rf_move {N : Int} {S : HS} (h : HI N S) (hN6 : N ≤ 1000000) {x : Int32} (r : (f_X11_reasonOfMove S x).1 = 0) :
    1 ≤ (S.1 35).toInt ∧ (S.1 36 ≠ 0 → S.1 6 = 0) ∧ (S.1 36 = 0 → mV S (hM S 1 0) (f_X11_top S).1.toNatClampNeg) := by
  have n6 := h.ra.2.1
  have n35 := h.ra.2.2.1
  have m0 : hM S 1 0 = (S.2 32 (0 : Int32).toNatClampNeg).toNatClampNeg := by rw [zn0]; rfl
  unfold f_X11_reasonOfMove at r
  by_cases z : S.1 35 = 0
  · rw [if_pos z] at r
    exact absurd (show (11 : Int32) = 0 from r) (by decide)
  rw [if_neg z] at r
  have z := mt iEq.mpr z
  rw [i0] at z
  have hd : 1 ≤ (S.1 35).toInt := by omega
  refine ⟨hd, ?_⟩
  have s0 : S.1 6 ≤ 0 → S.1 6 = 0 := fun q => by
    have q := iLe.mp q
    rw [i0] at q
    exact iEq.mpr (by rw [i0]; omega)
  by_cases ht : S.1 36 = 0
  · rw [if_pos ht, ← m0] at r
    refine ⟨fun q => absurd ht q, fun _ => ?_⟩
    have l : hL S 1 0 := ⟨by omega, by have := one_n h hd ht; omega⟩
    have w := h.1.2.2.2.2.1 1 0 l
    have wm : bW N S (S.2 32 (0 : Int32).toNatClampNeg).toNatClampNeg := by rw [← m0]; exact w.2
    have bm : ∀ k, uB S (S.2 32 (0 : Int32).toNatClampNeg).toNatClampNeg (f_X11_top S).1.toNatClampNeg k → uB S (hM S 1 0) (f_X11_top S).1.toNatClampNeg k := fun k q => by rw [m0]; exact q
    have kr := w.1
    unfold mV
    generalize hk : S.2 14 (hM S 1 0) = k at r kr
    unfold b_X11_reasonOfMove_34 at r
    by_cases k1 : k = 1
    · rw [if_pos k1] at r
      by_cases z6 : S.1 6 ≤ 0
      · have e := s0 z6
        have e' := iEq.mp e
        rw [i0] at e'
        have nk : ∀ y : Int32, y ≠ 1 → ¬ k = y := fun y a b => a (b.symm.trans k1)
        exact ⟨by omega, fun _ => e, fun q => absurd k1 q, fun q => absurd q (fun q => q.elim (nk 2 (by decide)) (nk 3 (by decide))), fun q => absurd q (nk 3 (by decide)), fun q => absurd q (nk 2 (by decide)), fun q => absurd q (fun q => q.elim (nk 4 (by decide)) (fun q => q.elim (nk 5 (by decide)) (nk 7 (by decide))))⟩
      · rw [if_neg z6] at r
        exact absurd (show (1 : Int32) = 0 from r) (by decide)
    rw [if_neg k1] at r
    by_cases k4 : 4 ≤ k
    · rw [if_pos k4] at r
      have g := mr_70 _ _ _ n6 100000 0 0 (by rw [i0]; omega) (by rw [i0]; omega) (by rw [i0]; omega) r
      have b := bm _ (mr_127 h hN6 ht g.2 wm (fun _ => g.1))
      have k4 := iLe.mp k4
      have e4 : (4 : Int32).toInt = 4 := by decide
      rw [e4] at k4
      have nk : ∀ y : Int32, y.toInt < 4 → ¬ k = y := fun y a b => by rw [b] at k4; omega
      exact ⟨b.1, fun q => absurd q k1, fun _ => g.1, fun q => absurd q (fun q => q.elim (nk 2 (by decide)) (nk 3 (by decide))), fun q => absurd q (nk 3 (by decide)), fun q => absurd q (nk 2 (by decide)), b.2.2.2⟩
    · rw [if_neg k4, isAbout_s] at r
      unfold b_X11_reasonOfMove_a59 at r
      by_cases a : (f_X11_isAbout S k).1 = 0
      · rw [if_pos a] at r
        exact absurd (show (1 : Int32) = 0 from r) (by decide)
      rw [if_neg a] at r
      have hp := isAbout_pos h.ra a
      have ka := isAbout_k a
      have b := bm _ (mr_127 h hN6 ht r wm (fun _ => hp))
      have t3 : k = 3 → S.2 14 (f_X11_top S).1.toNatClampNeg = 2 := fun q => ka.2 (by rw [q]; decide)
      have t2 : k = 2 → S.2 14 (f_X11_top S).1.toNatClampNeg ≠ 2 ∧ S.2 14 (f_X11_top S).1.toNatClampNeg ≠ 3 := fun q => by
        rcases ka.1 q with y | y | y <;> rw [y] <;> decide
      exact ⟨b.1, fun q => absurd q k1, fun _ => hp, b.2.1, fun q => ⟨t3 q, b.2.2.1 q⟩, t2, b.2.2.2⟩
  · rw [if_neg ht] at r
    refine ⟨fun _ => ?_, fun q => absurd q ht⟩
    unfold b_X11_reasonOfMove_34 at r
    rw [if_pos rfl] at r
    by_cases z6 : S.1 6 ≤ 0
    · exact s0 z6
    · rw [if_neg z6] at r
      exact absurd (show (1 : Int32) = 0 from r) (by decide)
end
section
/-! ===== an act does what it does: safe, and the invariant is kept ===== -/
theorem hi_10 {N : Int} {S : HS} (h : HI N S) (v : Int32) : HI N (sI S 10 v) := h
theorem hi_11 {N : Int} {S : HS} (h : HI N S) (i : Nat) (v : Int32) : HI N (sA S 11 i v) := h
theorem hi_12 {N : Int} {S : HS} (h : HI N S) (i : Nat) (v : Int32) : HI N (sA S 12 i v) := h
theorem hi_17 {N : Int} {S : HS} (h : HI N S) (i : Nat) (v : Int32) : HI N (sA S 17 i v) := h
theorem hi_18 {N : Int} {S : HS} (h : HI N S) (i : Nat) (v : Int32) : HI N (sA S 18 i v) := h
theorem hi_1 {N : Int} {S : HS} (h : HI N S) (v : Int32) : HI N (sI S 1 v) := h
theorem hi_2 {N : Int} {S : HS} (h : HI N S) (v : Int32) : HI N (sI S 2 v) := h
theorem hi_3 {N : Int} {S : HS} (h : HI N S) (v : Int32) : HI N (sI S 3 v) := h
theorem hi_4 {N : Int} {S : HS} (h : HI N S) (v : Int32) : HI N (sI S 4 v) := h
theorem d_7 {N : Int} {S : HS} (h : HI N S) (hp : 1 ≤ (S.1 6).toInt) (x1 x2 x3 x4 x5 : Int32) :
    (p_X11_top S ∧ q_X11_does_a231 (f_X11_top S).2 x1 x2 x3 x4 x5 (f_X11_top S).1) ∧ DO N S (b_X11_does_a231 (f_X11_top S).2 x1 x2 x3 x4 x5 (f_X11_top S).1).2 := by
  have t := top_in h.ra hp
  have v : vp_in (f_X11_top S).1 90 := vIn t.1 t.2
  exact ⟨⟨top_p h.ra hp, v, v, top_p (S := sA S 17 _ _) h.ra hp, v, True.intro⟩, DO.of (hi_17 h _ _) rfl rfl⟩
theorem d_9 {N : Int} {S : HS} (h : HI N S) (hp : 1 ≤ (S.1 6).toInt) (x1 x2 x3 x4 x5 : Int32) :
    (p_X11_top S ∧ q_X11_does_a268 (f_X11_top S).2 x1 x2 x3 x4 x5 (f_X11_top S).1) ∧ DO N S (b_X11_does_a268 (f_X11_top S).2 x1 x2 x3 x4 x5 (f_X11_top S).1).2 := by
  have t := top_in h.ra hp
  have v : vp_in (f_X11_top S).1 90 := vIn t.1 t.2
  exact ⟨⟨top_p h.ra hp, v, v, top_p (S := sA S 18 _ _) h.ra hp, v, True.intro⟩, DO.of (hi_18 h _ _) rfl rfl⟩
theorem d_16 {N : Int} {S : HS} (h : HI N S) (hp : 1 ≤ (S.1 6).toInt) (x1 x2 x3 x4 x5 : Int32) : q_X11_does_390 S x1 x2 x3 x4 x5 ∧ DO N S (b_X11_does_390 S x1 x2 x3 x4 x5).2 := by
  have t := top_in h.ra hp
  have v : vp_in (f_X11_top S).1 90 := vIn t.1 t.2
  exact ⟨⟨top_p h.ra hp, v, True.intro⟩, DO.of (hi_16 h _ _) rfl rfl⟩
theorem d_1 {N : Int} {S : HS} (h : HI N S) {x2 : Int32} (v : vp_in x2 200) (a : Int32) (i : Nat) (b : Int32) : DO N S (sI (sA S 11 i a) 1 b) := DO.of (hi_1 (hi_11 h _ _) _) rfl rfl
theorem DO.up {N M : Int} {S r : HS} (h : DO N S r) (q : N ≤ M) : DO M S r := ⟨h.1.up q, h.2⟩
theorem seat_v {S : HS} (h : RA S) {x : Int32} (r : ¬ (f_X11_isSeat S x).1 = 0) : vp_in x 200 := seat_in h r
theorem does_i {N : Int} {S : HS} (h : HI N S) (hN0 : 0 ≤ N) (hN6 : N ≤ 1000000) (hr : 0 ≤ (S.1 8).toInt ∧ (S.1 8).toInt < 600) (v x1 x2 x3 x4 x5 : Int32) (r : (f_X11_reason S x1 x2 x3 x4 x5).1 = 0) :
    p_X11_does (sI S 10 v) x1 x2 x3 x4 x5 ∧ DO (N + 1) (sI S 10 v) (f_X11_does (sI S 10 v) x1 x2 x3 x4 x5).2 := by
  have hT := hi_10 h v
  have hNN : N ≤ N + 1 := by omega
  have pp : (S.1 6) ≠ 0 → 1 ≤ ((sI S 10 v).1 6).toInt := fun q => pend_pos h.ra q
  have b7 : ∀ y : Int32, y ≠ 0 → ¬ ((y, S) : Int32 × HS).1 = 0 := fun y q => q
  unfold f_X11_reason at r
  unfold p_X11_does f_X11_does
  by_cases c1 : x1 = 1
  · rw [if_pos c1] at r
    rw [if_pos c1, if_pos c1]
    have s := seat_v h.ra (rf_105 r)
    exact ⟨⟨s, True.intro⟩, DO.up (DO.of (hi_1 (hi_11 hT _ _) _) rfl rfl) hNN⟩
  rw [if_neg c1] at r
  rw [if_neg c1, if_neg c1]
  by_cases c2 : x1 = 2
  · rw [if_pos c2] at r
    rw [if_pos c2, if_pos c2]
    have s := seat_v h.ra (rf_129 r)
    refine ⟨⟨s, ?_⟩, ?_⟩
    · split <;> exact True.intro
    · split
      · exact DO.up (DO.of (hi_5 (hi_1 (hi_11 hT _ _) _) _) rfl rfl) hNN
      · exact DO.up (DO.of (hi_1 (hi_11 hT _ _) _) rfl rfl) hNN
  rw [if_neg c2] at r
  rw [if_neg c2, if_neg c2]
  by_cases c3 : x1 = 3
  · rw [if_pos c3, if_pos c3]
    exact ⟨True.intro, DO.up (DO.of (hi_3 hT _) rfl rfl) hNN⟩
  rw [if_neg c3] at r
  rw [if_neg c3, if_neg c3]
  by_cases c4 : x1 = 4
  · rw [if_pos c4, if_pos c4]
    refine ⟨?_, ?_⟩
    · split <;> exact True.intro
    · split
      · exact DO.up (DO.of (hi_5 (hi_2 hT _) _) rfl rfl) hNN
      · exact DO.up (DO.of (hi_2 hT _) rfl rfl) hNN
  rw [if_neg c4] at r
  rw [if_neg c4, if_neg c4]
  by_cases c5 : x1 = 5
  · rw [if_pos c5] at r
    rw [if_pos c5, if_pos c5]
    by_cases z : f_X12_in x2 1 8 = 0
    · rw [if_pos z] at r
      exact absurd (show (9 : Int32) = 0 from r) (by decide)
    have a := in_of z
    have e8 : (8 : Int32).toInt = 8 := by decide
    rw [i1, e8] at a
    have s : vp_in x2 9 := vIn (by omega) (by omega)
    exact ⟨⟨s, s, True.intro⟩, DO.up (DO.of (hi_12 hT _ _) rfl rfl) hNN⟩
  rw [if_neg c5] at r
  rw [if_neg c5, if_neg c5]
  by_cases c6 : x1 = 6
  · rw [if_pos c6, if_pos c6]
    exact ⟨True.intro, DO.up (DO.of (hi_4 hT _) rfl rfl) hNN⟩
  rw [if_neg c6] at r
  rw [if_neg c6, if_neg c6]
  by_cases c7 : x1 = 7
  · rw [if_pos c7, if_pos c7]
    have h5 := hi_5 hT x2
    by_cases z : (sI (sI S 10 v) 5 x2).1 6 = 0
    · rw [if_pos z, if_pos z]
      exact ⟨True.intro, DO.up (DO.of h5 rfl rfl) hNN⟩
    · rw [if_neg z, if_neg z]
      have d := d_7 h5 (pend_pos h5.ra z) x1 x2 x3 x4 x5
      exact ⟨d.1, d.2.1.up hNN, d.2.2.1, d.2.2.2⟩
  rw [if_neg c7] at r
  rw [if_neg c7, if_neg c7]
  by_cases c8 : x1 = 8
  · rw [if_pos c8, if_pos c8]
    exact ⟨True.intro, DO.up (DO.of (hi_5 hT _) rfl rfl) hNN⟩
  rw [if_neg c8] at r
  rw [if_neg c8, if_neg c8]
  by_cases c9 : x1 = 9
  · rw [if_pos c9] at r
    rw [if_pos c9, if_pos c9]
    by_cases z : S.1 6 = 0
    · rw [if_pos z] at r
      exact absurd (show (7 : Int32) = 0 from r) (by decide)
    have d := d_9 hT (pp z) x1 x2 x3 x4 x5
    exact ⟨d.1, d.2.up hNN⟩
  rw [if_neg c9] at r
  rw [if_neg c9, if_neg c9]
  by_cases c10 : x1 = 10
  · rw [if_pos c10] at r
    rw [if_pos c10, if_pos c10]
    by_cases z : f_X12_in x2 1 8 = 0
    · rw [if_pos z] at r
      exact absurd (show (9 : Int32) = 0 from r) (by decide)
    have a := in_of z
    have e8 : (8 : Int32).toInt = 8 := by decide
    rw [i1, e8] at a
    exact d_10 hT hN0 hN6 a x1 x3 x4 x5
  rw [if_neg c10] at r
  rw [if_neg c10, if_neg c10]
  by_cases c11 : x1 = 11
  · rw [if_pos c11] at r
    rw [if_pos c11, if_pos c11]
    have f := rf_461 r
    exact d_11 hT hN0 f.1 f.2.1 f.2.2.1 f.2.2.2.1 f.2.2.2.2
  rw [if_neg c11] at r
  rw [if_neg c11, if_neg c11]
  by_cases c12 : x1 = 12
  · rw [if_pos c12] at r
    rw [if_pos c12, if_pos c12]
    have f := rf_word (S := S) r (fun a b => (h.1.2.2.2.2.1 1 0 ⟨by omega, by have := one_n h a b; omega⟩).2.1)
    exact d_12 hT f.1 f.2.1 x1 x2 x3 x4 x5 f.2.2
  rw [if_neg c12] at r
  rw [if_neg c12, if_neg c12]
  by_cases c13 : x1 = 13
  · rw [if_pos c13] at r
    rw [if_pos c13, if_pos c13]
    have f := rf_lay (S := S) h.ra r
    have w := lay_w (S := S) h r
    exact ⟨⟨lay_d hT.ra f.2.1 f.1 f.2.2.2.1, True.intro⟩, d_13 hT f.2.1 f.1 f.2.2.1 w⟩
  rw [if_neg c13] at r
  rw [if_neg c13, if_neg c13]
  by_cases c14 : x1 = 14
  · rw [if_pos c14] at r
    rw [if_pos c14, if_pos c14]
    by_cases z : f_X12_in x2 0 7 = 0
    · rw [if_pos z] at r
      exact absurd (show (9 : Int32) = 0 from r) (by decide)
    rw [if_neg z] at r
    by_cases y : 0 < S.1 35
    · rw [if_pos y] at r
      exact absurd (show (11 : Int32) = 0 from r) (by decide)
    rw [if_neg y] at r
    have y := mt iLt.mpr y
    rw [i0] at y
    by_cases w : S.2 34 x2.toNatClampNeg = 0
    · rw [if_pos w] at r
      exact absurd (show (11 : Int32) = 0 from r) (by decide)
    have d := d_14 hT (show (S.1 35).toInt ≤ 0 by omega) (in_07 z) w
    exact ⟨⟨d.1, True.intro⟩, d.2⟩
  rw [if_neg c14] at r
  rw [if_neg c14, if_neg c14]
  by_cases c15 : x1 = 15
  · rw [if_pos c15] at r
    rw [if_pos c15, if_pos c15]
    have f := rf_move h hN6 r
    have d := d_15 hT f.1 x2 f.2.1 f.2.2
    exact ⟨⟨d.1, True.intro⟩, d.2⟩
  rw [if_neg c15] at r
  rw [if_neg c15, if_neg c15]
  by_cases c16 : x1 = 16
  · rw [if_pos c16] at r
    rw [if_pos c16, if_pos c16]
    by_cases z : S.1 6 = 0
    · rw [if_pos z] at r
      exact absurd (show (7 : Int32) = 0 from r) (by decide)
    have d := d_16 hT (pp z) x1 x2 x3 x4 x5
    exact ⟨d.1, d.2.up hNN⟩
  rw [if_neg c16] at r
  rw [if_neg c16, if_neg c16]
  by_cases c17 : x1 = 17
  · rw [if_pos c17] at r
    rw [if_pos c17, if_pos c17]
    by_cases z : S.1 6 = 0
    · rw [if_pos z] at r
      exact absurd (show (7 : Int32) = 0 from r) (by decide)
    rw [if_neg z] at r
    have s : ¬ (f_X11_isSeat S x2).1 = 0 := fun q => by
      unfold b_X11_reason_a676 at r
      rw [if_pos q] at r
      exact absurd (show (9 : Int32) = 0 from r) (by decide)
    exact d_17 hT (pp z) (seat_v h.ra s) x1 x3 x4 x5
  rw [if_neg c17] at r
  rw [if_neg c17, if_neg c17]
  by_cases c18 : x1 = 18
  · rw [if_pos c18] at r
    rw [if_pos c18, if_pos c18]
    by_cases z : S.1 6 = 0
    · rw [if_pos z] at r
      exact absurd (show (7 : Int32) = 0 from r) (by decide)
    have g := goes_i hT (pp z)
    have g7 : (f_X11_goes (sI S 10 v)).2.1 7 = (sI S 10 v).1 7 := by rw [goes_e]; rfl
    have g8 : (f_X11_goes (sI S 10 v)).2.1 8 = (sI S 10 v).1 8 := by rw [goes_e]; rfl
    exact ⟨⟨goes_p hT.ra (pp z), True.intro⟩, g.up hNN, g7, Or.inl g8⟩
  rw [if_neg c18] at r
  rw [if_neg c18, if_neg c18]
  by_cases c19 : x1 = 19
  · rw [if_pos c19] at r
    rw [if_pos c19, if_pos c19]
    rw [sf_X11_isHere] at r
    unfold b_X11_reason_a778 at r
    by_cases y : (f_X11_isHere S (S.1 2)).1 = 0
    · rw [if_pos y] at r
      exact absurd (show (8 : Int32) = 0 from r) (by decide)
    rw [if_neg y] at r
    by_cases z : S.1 6 = 0
    · rw [if_pos z] at r
      exact absurd (show (7 : Int32) = 0 from r) (by decide)
    rw [if_neg z, top_s] at r
    unfold b_X11_reason_a802 at r
    by_cases w : S.2 14 (f_X11_top S).1.toNatClampNeg = 9
    · rw [if_pos w] at r
      exact absurd (show (11 : Int32) = 0 from r) (by decide)
    rw [if_neg w] at r
    by_cases u : S.1 6 = 9
    · rw [if_pos u] at r
      exact absurd (show (10 : Int32) = 0 from r) (by decide)
    have u := mt iEq.mpr u
    have e9 : (9 : Int32).toInt = 9 := by decide
    rw [e9] at u
    have n6 := h.ra.2.1
    exact d_19 hT hN0 hN6 (pp z) (show (S.1 6).toInt ≤ 8 by omega) x1 x2 x3 x4 x5
  rw [if_neg c19] at r
  rw [if_neg c19, if_neg c19]
  by_cases c20 : x1 = 20
  · rw [if_pos c20] at r
    rw [if_pos c20, if_pos c20]
    by_cases z : S.1 6 = 0
    · rw [if_pos z] at r
      exact absurd (show (7 : Int32) = 0 from r) (by decide)
    have d := d_16 hT (pp z) x1 x2 x3 x4 x5
    exact ⟨d.1, d.2.up hNN⟩
  rw [if_neg c20] at r
  rw [if_neg c20, if_neg c20]
  by_cases c21 : x1 = 21
  · rw [if_pos c21] at r
    rw [if_pos c21, if_pos c21]
    rw [sf_X11_isHere] at r
    unfold b_X11_reason_a906 at r
    by_cases y : (f_X11_isHere S (S.1 2)).1 = 0
    · rw [if_pos y] at r
      exact absurd (show (8 : Int32) = 0 from r) (by decide)
    rw [if_neg y] at r
    by_cases z : S.1 6 = 0
    · rw [if_pos z] at r
      exact absurd (show (7 : Int32) = 0 from r) (by decide)
    have d := d_21 hT hN0 hN6 (pp z) hr
    exact ⟨⟨d.1, True.intro⟩, d.2⟩
  rw [if_neg c21, if_neg c21]
  have n6 := hT.ra.2.1
  exact d_22 x1 x2 x3 x4 x5 ((sI S 10 v).1 6) 100000 (sI S 10 v) hT (by omega)
end
section
/-! ===== a Hall from call to call ===== -/
/-- a Hall's invariant: with its entries and results -/
def HA (S : HS) : Prop := HI (S.1 7).toInt S ∧ (0 ≤ (S.1 7).toInt ∧ (S.1 7).toInt ≤ 600) ∧ (0 ≤ (S.1 8).toInt ∧ (S.1 8).toInt ≤ (S.1 7).toInt)
/-- what begin needs of a Hall: its marks are 0 or 1 -/
def HB (S : HS) : Prop := (S.1 36 = 0 ∨ S.1 36 = 1) ∧ ∀ p, p < 8 → S.2 37 p = 0 ∨ S.2 37 p = 1
theorem HA.hb {S : HS} (h : HA S) : HB S := h.1.2.2.2.2
theorem hi_7 {N : Int} {S : HS} (h : HI N S) (v : Int32) : HI N (sI S 7 v) := h
theorem hi_40 {N : Int} {S : HS} (h : HI N S) (u : Nat → Int32) : HI N (sR S 40 u) := h
theorem ha_10 {S : HS} (h : HA S) (v : Int32) : HA (sI S 10 v) := h
theorem act_e (D : HS) (x1 x2 x3 x4 x5 x6 y0 : Int32) : ∃ u, (b_X11_act_a58 D x1 x2 x3 x4 x5 x6 y0).2 = sI (sR D 40 u) 7 (D.1 7 + 1) := by
  have a163 : ∀ (S : HS) (x8 x9 z0 z1 : Int32), ∃ u, (b_X11_act_163 S x1 x2 x3 x4 x5 x6 y0 x8 x9 z0 z1).2 = sI (sR S 40 u) 7 (S.1 7 + 1) := fun S x8 x9 z0 z1 => ⟨upd (upd (S.2 40) z1.toNatClampNeg z0) (x8 + 5).toNatClampNeg y0, by
    have e : sR S 40 (upd (upd (S.2 40) z1.toNatClampNeg z0) (x8 + 5).toNatClampNeg y0) = sA (sA S 40 z1.toNatClampNeg z0) 40 (x8 + 5).toNatClampNeg y0 := by
      rw [← sR_sA S 40 z1.toNatClampNeg z0]
      rfl
    rw [e]
    rfl⟩
  have st : ∀ (S : HS) (i : Nat) (v : Int32) (r : HS), (∃ u, r = sI (sR (sA S 40 i v) 40 u) 7 ((sA S 40 i v).1 7 + 1)) → ∃ u, r = sI (sR S 40 u) 7 (S.1 7 + 1) := fun S i v r ⟨u, q⟩ => ⟨u, by rw [sR_sA] at q; exact q⟩
  have a142 : ∀ (S : HS) (x8 x9 z0 z1 : Int32), ∃ u, (b_X11_act_142 S x1 x2 x3 x4 x5 x6 y0 x8 x9 z0 z1).2 = sI (sR S 40 u) 7 (S.1 7 + 1) := fun S x8 x9 z0 z1 => by
    unfold b_X11_act_142
    split <;> exact st _ _ _ _ (a163 _ _ _ _ _)
  have a121 : ∀ (S : HS) (x8 x9 z0 z1 : Int32), ∃ u, (b_X11_act_121 S x1 x2 x3 x4 x5 x6 y0 x8 x9 z0 z1).2 = sI (sR S 40 u) 7 (S.1 7 + 1) := fun S x8 x9 z0 z1 => by
    unfold b_X11_act_121
    split <;> exact st _ _ _ _ (a142 _ _ _ _ _)
  have a101 : ∀ (S : HS) (x8 x9 z0 z1 : Int32), ∃ u, (b_X11_act_101 S x1 x2 x3 x4 x5 x6 y0 x8 x9 z0 z1).2 = sI (sR S 40 u) 7 (S.1 7 + 1) := fun S x8 x9 z0 z1 => by
    unfold b_X11_act_101
    split <;> exact st _ _ _ _ (a121 _ _ _ _ _)
  unfold b_X11_act_a58
  split <;> exact st _ _ _ _ (a101 _ _ _ _ _)
theorem act_i {S : HS} (h : HA S) (x1 x2 x3 x4 x5 : Int32) : p_X11_act S x1 x2 x3 x4 x5 ∧ HA (f_X11_act S x1 x2 x3 x4 x5).2 := by
  obtain ⟨h1, h2, h3⟩ := h
  have dd := fun (z : (f_X11_reason S x1 x2 x3 x4 x5).1 = 0) (y : S.1 7 ≠ 600) => does_i h1 h2.1 (by omega) ⟨h3.1, by
    have y := mt iEq.mpr y
    have e6 : (600 : Int32).toInt = 600 := by decide
    rw [e6] at y
    omega⟩ 0 x1 x2 x3 x4 x5 z
  have n600 : S.1 7 ≠ 600 → (S.1 7).toInt < 600 := fun y => by
    have y := mt iEq.mpr y
    have e6 : (600 : Int32).toInt = 600 := by decide
    rw [e6] at y
    omega
  refine ⟨act_p h1.ra h1.rk x1 x2 x3 x4 x5 (fun z y => ?_), ?_⟩
  · have d := dd z y
    refine ⟨d.1, ?_⟩
    rw [d.2.2.1]
    have := n600 y
    show 0 ≤ (S.1 7).toInt ∧ (S.1 7).toInt < 600
    omega
  unfold f_X11_act
  rw [sf_X11_reason]
  have n := nf_X11_reason S x1 x2 x3 x4 x5
  unfold NN at n
  have hS : HA S := ⟨h1, h2, h3⟩
  unfold b_X11_act_a11
  by_cases z : (f_X11_reason S x1 x2 x3 x4 x5).1 = 0
  · rw [if_pos z]
    by_cases y : S.1 7 = 600
    · rw [if_pos y]
      unfold b_X11_act_32
      rw [if_neg (by decide)]
      exact ha_10 hS 10
    · rw [if_neg y, z]
      have d := (dd z y).2
      have n6 := n600 y
      unfold b_X11_act_32
      rw [if_pos (by decide)]
      obtain ⟨u, q⟩ := act_e (f_X11_does (sI S 10 0) x1 x2 x3 x4 x5).2 x1 x2 x3 x4 x5 0 (f_X11_does (sI S 10 0) x1 x2 x3 x4 x5).1
      rw [q]
      generalize (f_X11_does (sI S 10 0) x1 x2 x3 x4 x5).2 = D at d
      obtain ⟨d1, d2, d3⟩ := d
      have d2 : D.1 7 = S.1 7 := d2
      have d3 : D.1 8 = S.1 8 ∨ D.1 8 = S.1 8 + 1 := d3
      have e := iAdd (x := S.1 7) (y := 1) (by rw [i1]; omega) (by rw [i1]; omega)
      rw [i1] at e
      rw [d2]
      generalize S.1 7 + 1 = w at e
      have g := hi_7 (hi_40 d1 u) w
      have r7 : (sI (sR D 40 u) 7 w).1 7 = w := by
        show upd D.1 7 w 7 = w
        exact upd_eq
      have r8 : (sI (sR D 40 u) 7 w).1 8 = D.1 8 := by
        show upd D.1 7 w 8 = D.1 8
        exact upd_ne (by decide)
      refine ⟨?_, ?_, ?_⟩
      · rw [r7, e]
        exact g
      · rw [r7]
        omega
      · rw [r7, r8]
        rcases d3 with d3 | d3
        · rw [d3]
          omega
        · have e8 := iAdd (x := S.1 8) (y := 1) (by rw [i1]; omega) (by rw [i1]; omega)
          rw [i1] at e8
          rw [d3]
          omega
  · rw [if_neg z]
    unfold b_X11_act_32
    rw [if_neg (fun q => z (iEq.mpr (by
      have a := iLe.mp n
      have b := iLe.mp q
      omega)))]
    exact ha_10 hS _
/-! ===== a Hall is begun anew ===== -/
theorem zero_c {S : HS} (h6 : (S.1 6).toInt = 0) (h35 : (S.1 35).toInt = 0) (h34 : ∀ p, p < 8 → S.2 34 p = 0) (h13 : ∀ m, m < 90 → S.2 13 m = 0) (N : Int) : HC N S := by
  have n : ∀ g, g < 10 → hN S g = 0 := fun g q => by
    rcases g with _ | _ | p
    · exact h6
    · exact h35
    · show (S.2 34 p).toInt = 0
      rw [h34 p (by omega), i0]
  have l : ∀ g i, ¬ hL S g i := fun g i a => by
    have a2 := a.2
    rw [n g a.1] at a2
    omega
  exact ⟨fun g q => by rw [n g q]; omega, fun g i a => absurd a (l g i), fun m a b => absurd (h13 m a) b, fun g a => absurd a (l g 0), fun g i a => absurd a (l g i), fun g i a => absurd a (l g i), fun g i _ _ a => absurd a (l g i), fun g i a => absurd a (l g _), fun g i a => absurd a (l g _)⟩
/-- what the loops of begin leave -/
def bE (S r : HS) : Prop := r.1 = S.1 ∧ r.2 37 = S.2 37 ∧ (∀ p, p < 8 → r.2 34 p = 0) ∧ (∀ m, m < 90 → r.2 13 m = 0)
theorem beg_141 (x1 : Int32) : ∀ (n : Nat) (S : HS) (x : Int32), 0 ≤ x.toInt → x.toInt ≤ 8 → 8 - x.toInt < n → (∀ p : Nat, (p : Int) < x.toInt → S.2 34 p = 0) → (∀ m, m < 90 → S.2 13 m = 0) → lq_X11_begin_141 n S x1 x ∧ bE S (lp_X11_begin_141 n S x1 x).2 := by
  intro n
  induction n with
  | zero => intro S x a b c; omega
  | succ n ih =>
    intro S x a b c d f
    rw [lq_X11_begin_141, lp_X11_begin_141]
    unfold ps_X11_begin_141 st_X11_begin_141
    have e8 : (8 : Int32).toInt = 8 := by decide
    by_cases z : 8 ≤ x
    · rw [if_pos z, if_pos z]
      have z := iLe.mp z
      rw [e8] at z
      exact ⟨⟨True.intro, True.intro⟩, rfl, rfl, fun p q => d p (by omega), f⟩
    rw [if_neg z, if_neg z]
    have z := mt iLe.mpr z
    rw [e8] at z
    have e := iAdd (x := x) (y := 1) (by rw [i1]; omega) (by rw [i1]; omega)
    rw [i1] at e
    have k := iNat a
    have g := ih (sA S 34 x.toNatClampNeg 0) (x + 1) (by omega) (by omega) (by omega) (fun p q => by
      show upd (S.2 34) x.toNatClampNeg 0 p = 0
      unfold upd
      split
      · rfl
      · exact d p (by omega)) f
    exact ⟨⟨⟨vIn a (by omega), True.intro⟩, g.1⟩, g.2.1, g.2.2.1, g.2.2.2⟩
theorem beg_120 (x1 : Int32) : ∀ (n : Nat) (S : HS) (x : Int32), 0 ≤ x.toInt → x.toInt ≤ 90 → 90 - x.toInt < n → (∀ m : Nat, (m : Int) < x.toInt → S.2 13 m = 0) → lq_X11_begin_120 n S x1 x ∧ bE S (lp_X11_begin_120 n S x1 x).2 := by
  intro n
  induction n with
  | zero => intro S x a b c; omega
  | succ n ih =>
    intro S x a b c d
    rw [lq_X11_begin_120, lp_X11_begin_120]
    unfold ps_X11_begin_120 st_X11_begin_120
    have e9 : (90 : Int32).toInt = 90 := by decide
    by_cases z : 90 ≤ x
    · rw [if_pos z, if_pos z]
      have z := iLe.mp z
      rw [e9] at z
      dsimp only
      have g := beg_141 x1 100000 S 0 (by rw [i0]; omega) (by rw [i0]; omega) (by rw [i0]; omega) (fun p q => by rw [i0] at q; omega) (fun m q => d m (by omega))
      exact ⟨⟨g.1, True.intro⟩, g.2⟩
    rw [if_neg z, if_neg z]
    have z := mt iLe.mpr z
    rw [e9] at z
    have e := iAdd (x := x) (y := 1) (by rw [i1]; omega) (by rw [i1]; omega)
    rw [i1] at e
    have k := iNat a
    have g := ih (sA S 13 x.toNatClampNeg 0) (x + 1) (by omega) (by omega) (by omega) (fun p q => by
      show upd (S.2 13) x.toNatClampNeg 0 p = 0
      unfold upd
      split
      · rfl
      · exact d p (by omega))
    exact ⟨⟨⟨vIn a (by omega), True.intro⟩, g.1⟩, g.2.1, g.2.2.1, g.2.2.2⟩
theorem beg_89 (x1 : Int32) : ∀ (n : Nat) (S : HS) (x : Int32), 0 ≤ x.toInt → x.toInt ≤ 9 → 9 - x.toInt < n → lq_X11_begin_89 n S x1 x ∧ bE S (lp_X11_begin_89 n S x1 x).2 := by
  intro n
  induction n with
  | zero => intro S x a b c; omega
  | succ n ih =>
    intro S x a b c
    rw [lq_X11_begin_89, lp_X11_begin_89]
    unfold ps_X11_begin_89 st_X11_begin_89
    have e9 : (9 : Int32).toInt = 9 := by decide
    by_cases z : 9 ≤ x
    · rw [if_pos z, if_pos z]
      dsimp only
      have g := beg_120 x1 100000 S 0 (by rw [i0]; omega) (by rw [i0]; omega) (by rw [i0]; omega) (fun p q => by rw [i0] at q; omega)
      exact ⟨⟨g.1, True.intro⟩, g.2⟩
    rw [if_neg z, if_neg z]
    have z := mt iLe.mpr z
    rw [e9] at z
    have e := iAdd (x := x) (y := 1) (by rw [i1]; omega) (by rw [i1]; omega)
    rw [i1] at e
    have v : vp_in x 9 := vIn a (by omega)
    have g : ∀ w, _ ∧ _ := fun w => ih (sA S 12 x.toNatClampNeg w) (x + 1) (by omega) (by omega) (by omega)
    by_cases y : x = 6
    · rw [if_pos y, if_pos y]
      exact ⟨⟨⟨v, True.intro⟩, (g 2).1⟩, (g 2).2.1, (g 2).2.2.1, (g 2).2.2.2⟩
    · rw [if_neg y, if_neg y]
      exact ⟨⟨⟨v, True.intro⟩, (g 1).1⟩, (g 1).2.1, (g 1).2.2.1, (g 1).2.2.2⟩
theorem beg_67 (x1 : Int32) : ∀ (n : Nat) (S : HS) (x : Int32), 0 ≤ x.toInt → x.toInt ≤ 200 → 200 - x.toInt < n → lq_X11_begin_67 n S x1 x ∧ bE S (lp_X11_begin_67 n S x1 x).2 := by
  intro n
  induction n with
  | zero => intro S x a b c; omega
  | succ n ih =>
    intro S x a b c
    rw [lq_X11_begin_67, lp_X11_begin_67]
    unfold ps_X11_begin_67 st_X11_begin_67
    by_cases z : 200 ≤ x
    · rw [if_pos z, if_pos z]
      dsimp only
      have g := beg_89 x1 100000 S 0 (by rw [i0]; omega) (by rw [i0]; omega) (by rw [i0]; omega)
      exact ⟨⟨g.1, True.intro⟩, g.2⟩
    rw [if_neg z, if_neg z]
    have z := mt iLe.mpr z
    rw [i200] at z
    have e := iAdd (x := x) (y := 1) (by rw [i1]; omega) (by rw [i1]; omega)
    rw [i1] at e
    have v : vp_in x 200 := vIn a (by omega)
    have g := ih (sA S 11 x.toNatClampNeg (vp_nar .boolean 0)) (x + 1) (by omega) (by omega) (by omega)
    exact ⟨⟨⟨v, True.intro⟩, g.1⟩, g.2.1, g.2.2.1, g.2.2.2⟩
theorem begin_i {S : HS} (h : HB S) {x1 : Int32} (hx : 1 ≤ x1.toInt ∧ x1.toInt ≤ 200) : p_X11_begin S x1 ∧ HA (f_X11_begin S x1).2 ∧ (f_X11_begin S x1).2.1 7 = 0 ∧ (f_X11_begin S x1).2.1 0 = x1 := by
  have g := beg_67 x1 100000 (sI (sI (sI (sI (sI (sI (sI (sI (sI (sI (sI (sI (sI S 0 x1) 1 0) 2 (-1)) 3 0) 4 0) 5 (-1)) 6 0) 7 0) 8 0) 9 0) 10 0) 35 0) 39 (-1)) 0 (by rw [i0]; omega) (by rw [i0]; omega) (by rw [i0]; omega)
  unfold p_X11_begin f_X11_begin
  refine ⟨g.1, ?_⟩
  obtain ⟨g1, g2, g3, g4⟩ := g.2
  generalize (lp_X11_begin_67 100000 (sI (sI (sI (sI (sI (sI (sI (sI (sI (sI (sI (sI (sI S 0 x1) 1 0) 2 (-1)) 3 0) 4 0) 5 (-1)) 6 0) 7 0) 8 0) 9 0) 10 0) 35 0) 39 (-1)) x1 0).2 = R at g1 g2 g3 g4
  have r0 : R.1 0 = x1 := by rw [g1]; rfl
  have r6 : R.1 6 = 0 := by rw [g1]; rfl
  have r7 : R.1 7 = 0 := by rw [g1]; rfl
  have r8 : R.1 8 = 0 := by rw [g1]; rfl
  have r35 : R.1 35 = 0 := by rw [g1]; rfl
  have r36 : R.1 36 = S.1 36 := by rw [g1]; rfl
  have r39 : R.1 39 = -1 := by rw [g1]; rfl
  have r37 : R.2 37 = S.2 37 := g2
  have im : (-1 : Int32).toInt = -1 := by decide
  refine ⟨⟨⟨?_, ?_, ?_⟩, ?_, ?_⟩, r7, r0⟩
  · exact zero_c (by rw [r6, i0]) (by rw [r35, i0]) g3 g4 _
  · exact ⟨fun _ => ⟨0, by omega, g3 0 (by omega)⟩, fun _ => ⟨0, 1, by omega, by omega, by omega, g3 0 (by omega), g3 1 (by omega)⟩⟩
  · refine ⟨?_, ?_, ?_, ?_⟩
    · rw [r0]
      exact hx
    · rw [r39, im]
      omega
    · rw [r36]
      exact h.1
    · rw [r37]
      exact h.2
  · rw [r7, i0]
    omega
  · rw [r7, r8, i0]
    omega
/-! ===== another Hall's entries are done ===== -/
theorem c6 {x : Int32} (h : 0 ≤ x.toInt ∧ x.toInt < 600) {k : Int32} (hk : 0 ≤ k.toInt ∧ k.toInt ≤ 5) : vp_in (6 * x) 3600 ∧ vp_in ((6 * x) + k) 3600 := ent_in h hk
theorem follow_i (F : Nat → Int32) {x2 : Int32} (h2 : x2.toInt ≤ 600) : ∀ (n : Nat) (S : HS) (x3 : Int32), HA S → 0 ≤ x3.toInt → x3.toInt ≤ 600 → 600 - x3.toInt < n → lq_X11_follow_2 F n S x2 x3 ∧ HA (lp_X11_follow_2 F n S x2 x3).2 := by
  intro n
  induction n with
  | zero => intro S x a b c d; omega
  | succ n ih =>
    intro S x h b c d
    rw [lq_X11_follow_2, lp_X11_follow_2]
    unfold ps_X11_follow_2 st_X11_follow_2
    by_cases z : x2 ≤ x
    · rw [if_pos z, if_pos z]
      exact ⟨⟨True.intro, True.intro⟩, h⟩
    rw [if_neg z, if_neg z]
    have z := mt iLe.mpr z
    have e := iAdd (x := x) (y := 1) (by rw [i1]; omega) (by rw [i1]; omega)
    rw [i1] at e
    have hx : 0 ≤ x.toInt ∧ x.toInt < 600 := by omega
    have a := act_i h (F (6 * x).toNatClampNeg) (F ((6 * x) + 1).toNatClampNeg) (F ((6 * x) + 2).toNatClampNeg) (F ((6 * x) + 3).toNatClampNeg) (F ((6 * x) + 4).toNatClampNeg)
    have g := ih _ (x + 1) a.2 (by omega) (by omega) (by omega)
    exact ⟨⟨⟨(c6 hx (k := 1) (by decide)).1, (c6 hx (by decide)).2, (c6 hx (by decide)).2, (c6 hx (by decide)).2, (c6 hx (by decide)).2, a.1, True.intro⟩, g.1⟩, g.2⟩
end
section
/-! ===== the model: its invariant, and its calls one by one ===== -/
def MI (M : MS) : Prop := HA M.2.1 ∧ HB M.2.2 ∧ (0 ≤ (M.1.1 6).toInt ∧ (M.1.1 6).toInt ≤ 600) ∧ ∀ k, k < 2 → M.1.2 3 k = -1 ∨ ((0 ≤ (M.1.2 3 k).toInt ∧ (M.1.2 3 k).toInt ≤ 600) ∧ (1 ≤ (M.1.2 2 k).toInt ∧ (M.1.2 2 k).toInt ≤ 200))
theorem MI.hall {M : MS} (h : MI M) {T : HS} (q : HA T) : MI (mH M T) := ⟨q, h.2⟩
theorem MI.spare {M : MS} (h : MI M) {T : HS} (q : HB T) : MI (mS M T) := ⟨h.1, q, h.2.2⟩
theorem mi_act {M : MS} (h : MI M) (x1 x2 x3 x4 x5 : Int32) : p_X11_act M.2.1 x1 x2 x3 x4 x5 ∧ MI (mH M (f_X11_act M.2.1 x1 x2 x3 x4 x5).2) :=
  have a := act_i h.1 x1 x2 x3 x4 x5
  ⟨a.1, h.hall a.2⟩
theorem m_there {M : MS} (h : MI M) (x1 : Int32) : p_X12_there M x1 ∧ MI (f_X12_there M x1).2 := (mi_act h 1 x1 0 0 0).imp (fun a => ⟨a, True.intro⟩) (fun a => a)
theorem m_gone {M : MS} (h : MI M) (x1 : Int32) : p_X12_gone M x1 ∧ MI (f_X12_gone M x1).2 := (mi_act h 2 x1 0 0 0).imp (fun a => ⟨a, True.intro⟩) (fun a => a)
theorem m_quorum {M : MS} (h : MI M) (x1 : Int32) : p_X12_quorum M x1 ∧ MI (f_X12_quorum M x1).2 := (mi_act h 3 x1 0 0 0).imp (fun a => ⟨a, True.intro⟩) (fun a => a)
theorem m_chair {M : MS} (h : MI M) (x1 : Int32) : p_X12_chair M x1 ∧ MI (f_X12_chair M x1).2 := (mi_act h 4 x1 0 0 0).imp (fun a => ⟨a, True.intro⟩) (fun a => a)
theorem m_majority {M : MS} (h : MI M) (x1 x2 : Int32) : p_X12_majority M x1 x2 ∧ MI (f_X12_majority M x1 x2).2 := (mi_act h 5 x1 x2 0 0).imp (fun a => ⟨a, True.intro⟩) (fun a => a)
theorem m_limit {M : MS} (h : MI M) (x1 : Int32) : p_X12_limit M x1 ∧ MI (f_X12_limit M x1).2 := (mi_act h 6 x1 0 0 0).imp (fun a => ⟨a, True.intro⟩) (fun a => a)
theorem m_floor {M : MS} (h : MI M) (x1 : Int32) : p_X12_floor M x1 ∧ MI (f_X12_floor M x1).2 := (mi_act h 7 x1 0 0 0).imp (fun a => ⟨a, True.intro⟩) (fun a => a)
theorem m_cede {M : MS} (h : MI M) : p_X12_cede M  ∧ MI (f_X12_cede M ).2 := (mi_act h 8 0 0 0 0).imp (fun a => ⟨a, True.intro⟩) (fun a => a)
theorem m_debate {M : MS} (h : MI M) (x1 : Int32) : p_X12_debate M x1 ∧ MI (f_X12_debate M x1).2 := (mi_act h 9 x1 0 0 0).imp (fun a => ⟨a, True.intro⟩) (fun a => a)
theorem m_draft {M : MS} (h : MI M) (x1 : Int32) : p_X12_draft M x1 ∧ MI (f_X12_draft M x1).2 := (mi_act h 10 x1 0 0 0).imp (fun a => ⟨a, True.intro⟩) (fun a => a)
theorem m_span {M : MS} (h : MI M) (x1 x2 : Int32) : p_X12_span M x1 x2 ∧ MI (f_X12_span M x1 x2).2 := (mi_act h 11 x1 x2 0 0).imp (fun a => ⟨a, True.intro⟩) (fun a => a)
theorem m_word {M : MS} (h : MI M) (x1 x2 x3 x4 : Int32) : p_X12_word M x1 x2 x3 x4 ∧ MI (f_X12_word M x1 x2 x3 x4).2 := (mi_act h 12 x1 x2 x3 x4).imp (fun a => ⟨a, True.intro⟩) (fun a => a)
theorem m_lay {M : MS} (h : MI M) (x1 : Int32) : p_X12_lay M x1 ∧ MI (f_X12_lay M x1).2 := (mi_act h 13 x1 0 0 0).imp (fun a => ⟨a, True.intro⟩) (fun a => a)
theorem m_take {M : MS} (h : MI M) (x1 : Int32) : p_X12_take M x1 ∧ MI (f_X12_take M x1).2 := (mi_act h 14 x1 0 0 0).imp (fun a => ⟨a, True.intro⟩) (fun a => a)
theorem m_move {M : MS} (h : MI M) (x1 : Int32) : p_X12_move M x1 ∧ MI (f_X12_move M x1).2 := (mi_act h 15 x1 0 0 0).imp (fun a => ⟨a, True.intro⟩) (fun a => a)
theorem m_second {M : MS} (h : MI M) (x1 : Int32) : p_X12_second M x1 ∧ MI (f_X12_second M x1).2 := (mi_act h 16 x1 0 0 0).imp (fun a => ⟨a, True.intro⟩) (fun a => a)
theorem m_vote {M : MS} (h : MI M) (x1 x2 : Int32) : p_X12_vote M x1 x2 ∧ MI (f_X12_vote M x1 x2).2 := (mi_act h 17 x1 x2 0 0).imp (fun a => ⟨a, True.intro⟩) (fun a => a)
theorem m_withdraw {M : MS} (h : MI M) (x1 : Int32) : p_X12_withdraw M x1 ∧ MI (f_X12_withdraw M x1).2 := (mi_act h 18 x1 0 0 0).imp (fun a => ⟨a, True.intro⟩) (fun a => a)
theorem m_rule {M : MS} (h : MI M) : p_X12_rule M  ∧ MI (f_X12_rule M ).2 := (mi_act h 19 0 0 0 0).imp (fun a => ⟨a, True.intro⟩) (fun a => a)
theorem m_appeal {M : MS} (h : MI M) (x1 : Int32) : p_X12_appeal M x1 ∧ MI (f_X12_appeal M x1).2 := (mi_act h 20 x1 0 0 0).imp (fun a => ⟨a, True.intro⟩) (fun a => a)
theorem m_told {M : MS} (h : MI M) : p_X12_told M  ∧ MI (f_X12_told M ).2 := (mi_act h 21 0 0 0 0).imp (fun a => ⟨a, True.intro⟩) (fun a => a)
theorem m_adjourn {M : MS} (h : MI M) : p_X12_adjourn M  ∧ MI (f_X12_adjourn M ).2 := (mi_act h 22 0 0 0 0).imp (fun a => ⟨a, True.intro⟩) (fun a => a)
theorem m_seats {M : MS} (h : MI M) (x1 : Int32) : p_X12_seats M x1 ∧ MI (f_X12_seats M x1).2 := by
  unfold p_X12_seats f_X12_seats
  by_cases z : f_X12_in x1 1 200 = 0
  · rw [if_pos z, if_pos z]
    exact ⟨⟨in_p _ _ _, True.intro⟩, h⟩
  · rw [if_neg z, if_neg z]
    have a := in_of z
    rw [i1, i200] at a
    have b := begin_i h.1.hb a
    exact ⟨⟨in_p _ _ _, b.1, True.intro⟩, h.hall b.2.1⟩
theorem m_strike {M : MS} (h : MI M) : p_X12_strike M ∧ MI (f_X12_strike M).2 :=
  ⟨True.intro, h.1, h.2.1, ⟨by show 0 ≤ (0 : Int32).toInt; rw [i0]; omega, by show (0 : Int32).toInt ≤ 600; rw [i0]; omega⟩, h.2.2.2⟩
theorem m_why {M : MS} (h : MI M) : p_X12_why M ∧ MI (f_X12_why M).2 := ⟨True.intro, h⟩
theorem m_order {M : MS} (h : MI M) (x1 : Int32) : p_X12_order M x1 ∧ MI (f_X12_order M x1).2 := by
  have n35 := h.1.1.ra.2.2.1
  have mp := move_p h.1.1.ra h.1.1.rk (by
    by_cases z : M.2.1.1 35 = 0
    · exact Or.inr z
    · have z := mt iEq.mpr z
      rw [i0] at z
      exact Or.inl (by omega)) x1
  unfold p_X12_order f_X12_order
  rw [sf_X11_reasonOfMove]
  have e : mH M M.2.1 = M := rfl
  rw [e]
  generalize (f_X11_reasonOfMove M.2.1 x1).1 = r
  have b36 : ∀ y z, q_X12_order_36 M x1 y z ∧ MI (b_X12_order_36 M x1 y z).2 := fun y z => by
    unfold q_X12_order_36 b_X12_order_36
    have g := h.hall (ha_10 h.1 z)
    by_cases w : ((mH M (sI M.2.1 10 z)).2.1).1 10 = 0
    · rw [if_pos w, if_pos w]
      exact ⟨True.intro, g⟩
    · rw [if_neg w, if_neg w]
      exact ⟨True.intro, g⟩
  unfold q_X12_order_a8 b_X12_order_a8
  by_cases z : r = 0
  · rw [if_pos z, if_pos z]
    by_cases w : M.2.1.1 7 = 600
    · rw [if_pos w, if_pos w]
      exact ⟨⟨mp, (b36 _ _).1⟩, (b36 _ _).2⟩
    · rw [if_neg w, if_neg w]
      exact ⟨⟨mp, (b36 _ _).1⟩, (b36 _ _).2⟩
  · rw [if_neg z, if_neg z]
    exact ⟨⟨mp, (b36 _ _).1⟩, (b36 _ _).2⟩
theorem m_tell {M : MS} (h : MI M) (x1 x2 x3 x4 x5 x6 : Int32) : p_X12_tell M x1 x2 x3 x4 x5 x6 ∧ MI (f_X12_tell M x1 x2 x3 x4 x5 x6).2 := by
  unfold p_X12_tell f_X12_tell
  by_cases z : M.1.1 6 = 600
  · rw [if_pos z, if_pos z]
    exact ⟨True.intro, h⟩
  · rw [if_neg z, if_neg z]
    have z := mt iEq.mpr z
    have e6 : (600 : Int32).toInt = 600 := by decide
    rw [e6] at z
    have t := h.2.2.1
    have hx : 0 ≤ (M.1.1 6).toInt ∧ (M.1.1 6).toInt < 600 := by omega
    have e := iAdd (x := M.1.1 6) (y := 1) (by rw [i1]; omega) (by rw [i1]; omega)
    rw [i1] at e
    refine ⟨⟨(c6 hx (k := 1) (by decide)).1, (c6 hx (by decide)).2, (c6 hx (by decide)).2, (c6 hx (by decide)).2, (c6 hx (by decide)).2, (c6 hx (by decide)).2, True.intro⟩, h.1, h.2.1, ⟨?_, ?_⟩, h.2.2.2⟩
    · show 0 ≤ (M.1.1 6 + 1).toInt
      omega
    · show (M.1.1 6 + 1).toInt ≤ 600
      omega
end
section
/-! ===== the model's looks ===== -/
theorem in_ofS {v n : Int32} (hn : -1 ≤ n.toInt - 1 ∧ n.toInt ≤ 100000) (q : ¬ f_X12_in v 0 (n - 1) = 0) : 0 ≤ v.toInt ∧ v.toInt < n.toInt := by
  have a := in_of q
  have e := iSub (x := n) (y := 1) (by rw [i1]; omega) (by rw [i1]; omega)
  rw [i1] at e
  rw [i0, e] at a
  omega
/-- a motion's words, in their row -/
theorem tx_in {S : HS} {y x : Int32} (hy : 0 ≤ y.toInt ∧ y.toInt < 90) (hx : 0 ≤ x.toInt ∧ x.toInt < 400) : vp_in ((400 * y) + x) 36000 := by
  have m := iMul (x := 400) (y := y) (n := 400 * y.toInt) (by rw [i400]) (by omega) (by omega)
  have a := iAdd (x := 400 * y) (y := x) (by rw [m]; omega) (by rw [m]; omega)
  rw [m] at a
  exact vIn (by omega) (by omega)
theorem text_i {S : HS} (h : HA S) (x1 x2 : Int32) : p_X11_text S x1 x2 ∧ (f_X11_text S x1 x2).2 = S := by
  have b87 : ∀ y, (y = (-1) ∨ ((0 ≤ y.toInt ∧ y.toInt < 90) ∧ (0 ≤ (S.2 19 y.toNatClampNeg).toInt ∧ (S.2 19 y.toNatClampNeg).toInt ≤ 400))) → q_X11_text_87 S x1 x2 y ∧ (b_X11_text_87 S x1 x2 y).2 = S := fun y q => by
    unfold q_X11_text_87 b_X11_text_87
    by_cases z : y = (-1)
    · rw [if_pos z, if_pos z]
      exact ⟨True.intro, rfl⟩
    · rw [if_neg z, if_neg z]
      have q := q.resolve_left z
      by_cases w : f_X12_in x2 0 ((S.2 19 y.toNatClampNeg) - 1) = 0
      · rw [if_pos w, if_pos w]
        exact ⟨⟨vIn q.1.1 q.1.2, in_p _ _ _, True.intro⟩, rfl⟩
      · rw [if_neg w, if_neg w]
        have a := in_ofS ⟨by omega, by omega⟩ w
        exact ⟨⟨vIn q.1.1 q.1.2, in_p _ _ _, tx_in (S := S) q.1 ⟨a.1, by omega⟩, True.intro⟩, rfl⟩
  have live : ∀ g i, hL S g i → (0 ≤ (hC S g i).toInt ∧ (hC S g i).toInt < 90) ∧ (0 ≤ (S.2 19 (hC S g i).toNatClampNeg).toInt ∧ (S.2 19 (hC S g i).toNatClampNeg).toInt ≤ 400) := fun g i a => by
    have v := h.1.1.2.1 g i a
    have w := h.1.1.2.2.2.2.1 g i a
    exact ⟨⟨v.1, v.2.1⟩, w.2.1⟩
  have r := h.1.ra
  have zz := h.1.2.2
  unfold p_X11_text f_X11_text
  by_cases z1 : x1 = (-1)
  · rw [if_pos z1, if_pos z1]
    by_cases z2 : f_X12_in x2 0 ((S.1 39) - 1) = 0
    · rw [if_pos z2, if_pos z2]
      exact ⟨⟨in_p _ _ _, True.intro⟩, rfl⟩
    · rw [if_neg z2, if_neg z2]
      have a := in_of z2
      have im : (-1 : Int32).toInt = -1 := by decide
      have e := iSub (x := S.1 39) (y := 1) (by rw [i1]; have := zz.2.1; omega) (by rw [i1]; have := zz.2.1; omega)
      rw [i1] at e
      rw [i0, e] at a
      have := zz.2.1
      exact ⟨⟨in_p _ _ _, vIn a.1 (by omega), True.intro⟩, rfl⟩
  rw [if_neg z1, if_neg z1]
  by_cases z2 : x1 = 9
  · rw [if_pos z2, if_pos z2]
    by_cases z3 : S.1 35 ≤ 0
    · rw [if_pos z3, if_pos z3]
      exact b87 (-1) (Or.inl rfl)
    rw [if_neg z3, if_neg z3]
    have z3 := mt iLe.mpr z3
    rw [i0] at z3
    by_cases z4 : S.1 36 = 0
    · rw [if_pos z4, if_pos z4]
      have l := live 1 0 ⟨by omega, by show ((0 : Nat) : Int) < (S.1 35).toInt; omega⟩
      have b := b87 (S.2 32 (0 : Int32).toNatClampNeg) (Or.inr (by rw [zn0]; exact l))
      exact ⟨⟨vIn (by rw [i0]; omega) (by rw [i0]; omega), b.1⟩, b.2⟩
    · rw [if_neg z4, if_neg z4]
      exact b87 (-1) (Or.inl rfl)
  rw [if_neg z2, if_neg z2]
  by_cases z3 : f_X12_in x1 0 ((S.1 6) - 1) = 0
  · rw [if_pos z3, if_pos z3]
    have b := b87 (-1) (Or.inl rfl)
    exact ⟨⟨in_p _ _ _, b.1⟩, b.2⟩
  · rw [if_neg z3, if_neg z3]
    have n6 := r.2.1
    have a := in_ofS ⟨by omega, by omega⟩ z3
    have k := iNat a.1
    have l := live 0 x1.toNatClampNeg ⟨by omega, by show _ < (S.1 6).toInt; omega⟩
    have b := b87 (S.2 31 x1.toNatClampNeg) (Or.inr l)
    exact ⟨⟨in_p _ _ _, vIn a.1 (by omega), b.1⟩, b.2⟩
theorem m_text {M : MS} (h : MI M) (x1 x2 : Int32) : p_X12_text M x1 x2 ∧ MI (f_X12_text M x1 x2).2 := by
  have a := text_i h.1 x1 x2
  unfold p_X12_text f_X12_text
  rw [a.2]
  exact ⟨⟨a.1, True.intro⟩, h⟩
theorem m_pending {M : MS} (h : MI M) (x1 x2 : Int32) : p_X12_pending M x1 x2 ∧ MI (f_X12_pending M x1 x2).2 := by
  have r := h.1.1.ra
  have vo : ∀ y, (f_X11_voters M.2.1 y).2 = M.2.1 := by
    have key : ∀ (n : Nat) (S : HS) (x1 x2 x3 : Int32), (lp_X11_voters_4 n S x1 x2 x3).2 = S := by
      intro n
      induction n with
      | zero => intro S x1 x2 x3; rfl
      | succ n ih =>
        intro S x1 x2 x3
        rw [lp_X11_voters_4]
        unfold st_X11_voters_4
        by_cases c : S.1 0 ≤ x3
        · rw [if_pos c]
        · rw [if_neg c]
          by_cases z : 2 ≤ (S.2 29 ((200 * x1) + x3).toNatClampNeg)
          · rw [if_pos z]
            exact ih _ _ _ _
          · rw [if_neg z]
            exact ih _ _ _ _
    exact fun y => key 100000 M.2.1 y 0 0
  unfold p_X12_pending f_X12_pending
  by_cases z : f_X12_in x1 0 ((M.2.1.1 6) - 1) = 0
  · rw [if_pos z, if_pos z]
    exact ⟨⟨in_p _ _ _, True.intro⟩, h⟩
  rw [if_neg z, if_neg z]
  have n6 := r.2.1
  have a := in_ofS ⟨by omega, by omega⟩ z
  have k := iNat a.1
  have v := r.2.2.2.1 x1.toNatClampNeg (by omega)
  have vs : vp_in (M.2.1.2 31 x1.toNatClampNeg) 90 := vIn v.1 v.2
  have v9 : vp_in x1 9 := vIn a.1 (by omega)
  refine (fun (q : (if x2 = 0 then _ else _) ∧ _) => ⟨⟨in_p _ _ _, v9, q.1⟩, q.2⟩) ?_
  by_cases c0 : x2 = 0
  · rw [if_pos c0, if_pos c0]; exact ⟨⟨vs, True.intro⟩, h⟩
  rw [if_neg c0, if_neg c0]
  by_cases c1 : x2 = 1
  · rw [if_pos c1, if_pos c1]; exact ⟨⟨vs, True.intro⟩, h⟩
  rw [if_neg c1, if_neg c1]
  by_cases c2 : x2 = 2
  · rw [if_pos c2, if_pos c2]; exact ⟨⟨vs, True.intro⟩, h⟩
  rw [if_neg c2, if_neg c2]
  by_cases c3 : x2 = 3
  · rw [if_pos c3, if_pos c3]; exact ⟨⟨vs, True.intro⟩, h⟩
  rw [if_neg c3, if_neg c3]
  by_cases c4 : x2 = 4
  · rw [if_pos c4, if_pos c4]; exact ⟨⟨vs, True.intro⟩, h⟩
  rw [if_neg c4, if_neg c4]
  by_cases c5 : x2 = 5
  · rw [if_pos c5, if_pos c5]; exact ⟨⟨vs, True.intro⟩, h⟩
  rw [if_neg c5, if_neg c5]
  by_cases c6 : x2 = 6
  · rw [if_pos c6, if_pos c6]; exact ⟨⟨vs, True.intro⟩, h⟩
  rw [if_neg c6, if_neg c6]
  by_cases c7 : x2 = 7
  · rw [if_pos c7, if_pos c7]; exact ⟨⟨vs, True.intro⟩, h⟩
  rw [if_neg c7, if_neg c7]
  by_cases c8 : x2 = 8
  · rw [if_pos c8, if_pos c8]
    split
    · exact ⟨⟨vs, True.intro⟩, h⟩
    · exact ⟨⟨vs, True.intro⟩, h⟩
  rw [if_neg c8, if_neg c8]
  by_cases c9 : x2 = 9
  · rw [if_pos c9, if_pos c9, vo]
    exact ⟨⟨voters_p r v, True.intro⟩, h⟩
  rw [if_neg c9, if_neg c9]
  exact ⟨True.intro, h⟩
theorem m_ballot {M : MS} (h : MI M) (x1 : Int32) : p_X12_ballot M x1 ∧ MI (f_X12_ballot M x1).2 := by
  have r := h.1.1.ra
  unfold p_X12_ballot f_X12_ballot
  by_cases z : M.2.1.1 6 = 0
  · rw [if_pos z, if_pos z]
    exact ⟨True.intro, h⟩
  rw [if_neg z, if_neg z]
  have hp := pend_pos r z
  by_cases w : f_X12_in x1 0 ((M.2.1.1 0) - 1) = 0
  · rw [if_pos w, if_pos w]
    exact ⟨⟨in_p _ _ _, True.intro⟩, h⟩
  rw [if_neg w, if_neg w]
  have n0 := r.1
  have a := in_ofS ⟨by omega, by omega⟩ w
  have t := top_in r hp
  rw [top_s]
  have e : mH M M.2.1 = M := rfl
  rw [e]
  have b := bal_in t (y := x1) ⟨a.1, by omega⟩
  unfold q_X12_ballot_a46 b_X12_ballot_a46
  split
  · exact ⟨⟨in_p _ _ _, top_p r hp, b, True.intro⟩, h⟩
  · exact ⟨⟨in_p _ _ _, top_p r hp, b, True.intro⟩, h⟩
theorem m_result {M : MS} (h : MI M) (x1 x2 : Int32) : p_X12_result M x1 x2 ∧ MI (f_X12_result M x1 x2).2 := by
  unfold p_X12_result f_X12_result
  by_cases z : f_X12_in x1 0 ((M.2.1.1 8) - 1) = 0
  · rw [if_pos z, if_pos z]
    exact ⟨⟨in_p _ _ _, True.intro⟩, h⟩
  rw [if_neg z, if_neg z]
  by_cases w : f_X12_in x2 0 4 = 0
  · rw [if_pos w, if_pos w]
    exact ⟨⟨in_p _ _ _, in_p _ _ _, True.intro⟩, h⟩
  rw [if_neg w, if_neg w]
  have n8 := h.1.2.2
  have n7 := h.1.2.1
  have a := in_ofS ⟨by omega, by omega⟩ z
  have b := in_of w
  have e4 : (4 : Int32).toInt = 4 := by decide
  have e5 : (5 : Int32).toInt = 5 := by decide
  rw [i0, e4] at b
  have m := iMul (x := 5) (y := x1) (n := 5 * x1.toInt) (by rw [e5]) (by omega) (by omega)
  have c := iAdd (x := 5 * x1) (y := x2) (by omega) (by omega)
  exact ⟨⟨in_p _ _ _, in_p _ _ _, vIn (by omega) (by omega), True.intro⟩, h⟩
theorem m_journal {M : MS} (h : MI M) (x1 x2 : Int32) : p_X12_journal M x1 x2 ∧ MI (f_X12_journal M x1 x2).2 := by
  unfold p_X12_journal f_X12_journal
  by_cases z : f_X12_in x1 0 ((M.2.1.1 7) - 1) = 0
  · rw [if_pos z, if_pos z]
    exact ⟨⟨in_p _ _ _, True.intro⟩, h⟩
  rw [if_neg z, if_neg z]
  by_cases w : f_X12_in x2 0 5 = 0
  · rw [if_pos w, if_pos w]
    exact ⟨⟨in_p _ _ _, in_p _ _ _, True.intro⟩, h⟩
  rw [if_neg w, if_neg w]
  have n7 := h.1.2.1
  have a := in_ofS ⟨by omega, by omega⟩ z
  have b := in_of w
  have e5 : (5 : Int32).toInt = 5 := by decide
  rw [i0, e5] at b
  exact ⟨⟨in_p _ _ _, in_p _ _ _, (c6 ⟨a.1, by omega⟩ b).2, True.intro⟩, h⟩
theorem m_seat {M : MS} (h : MI M) (x1 : Int32) : p_X12_seat M x1 ∧ MI (f_X12_seat M x1).2 := by
  unfold p_X12_seat f_X12_seat
  by_cases z : f_X12_in x1 0 ((M.2.1.1 0) - 1) = 0
  · rw [if_pos z, if_pos z]
    exact ⟨⟨in_p _ _ _, True.intro⟩, h⟩
  rw [if_neg z, if_neg z]
  have n0 := h.1.1.ra.1
  have a := in_ofS ⟨by omega, by omega⟩ z
  split
  · exact ⟨⟨in_p _ _ _, vIn a.1 (by omega), True.intro⟩, h⟩
  · exact ⟨⟨in_p _ _ _, vIn a.1 (by omega), True.intro⟩, h⟩
theorem m_count {M : MS} (h : MI M) (x1 : Int32) : p_X12_count M x1 ∧ MI (f_X12_count M x1).2 := by
  have r := h.1.1.ra
  unfold p_X12_count f_X12_count
  by_cases c0 : x1 = 0
  · rw [if_pos c0, if_pos c0]; exact ⟨True.intro, h⟩
  rw [if_neg c0, if_neg c0]
  by_cases c1 : x1 = 1
  · rw [if_pos c1, if_pos c1]; exact ⟨True.intro, h⟩
  rw [if_neg c1, if_neg c1]
  by_cases c2 : x1 = 2
  · rw [if_pos c2, if_pos c2]; exact ⟨True.intro, h⟩
  rw [if_neg c2, if_neg c2]
  by_cases c3 : x1 = 3
  · rw [if_pos c3, if_pos c3]; exact ⟨True.intro, h⟩
  rw [if_neg c3, if_neg c3]
  by_cases c4 : x1 = 4
  · rw [if_pos c4, if_pos c4]; exact ⟨True.intro, h⟩
  rw [if_neg c4, if_neg c4]
  by_cases c5 : x1 = 5
  · rw [if_pos c5, if_pos c5]; exact ⟨True.intro, h⟩
  rw [if_neg c5, if_neg c5]
  by_cases c6 : x1 = 6
  · rw [if_pos c6, if_pos c6]; exact ⟨True.intro, h⟩
  rw [if_neg c6, if_neg c6]
  by_cases c7 : x1 = 7
  · rw [if_pos c7, if_pos c7]
    by_cases z : M.2.1.1 35 = 0
    · rw [if_pos z, if_pos z]; exact ⟨True.intro, h⟩
    rw [if_neg z, if_neg z]
    have z := mt iEq.mpr z
    rw [i0] at z
    have n35 := r.2.2.1
    have d := draft0_in r (by omega)
    by_cases w : M.2.1.1 36 = 0
    · rw [if_pos w, if_pos w]; exact ⟨⟨vIn (by rw [i0]; omega) (by rw [i0]; omega), vIn d.1 d.2, True.intro⟩, h⟩
    · rw [if_neg w, if_neg w]; exact ⟨True.intro, h⟩
  rw [if_neg c7, if_neg c7]
  by_cases c8 : x1 = 8
  · rw [if_pos c8, if_pos c8]; exact ⟨True.intro, h⟩
  rw [if_neg c8, if_neg c8]
  by_cases c9 : x1 = 9
  · rw [if_pos c9, if_pos c9]; exact ⟨True.intro, h⟩
  rw [if_neg c9, if_neg c9]
  by_cases c10 : x1 = 10
  · rw [if_pos c10, if_pos c10]; exact ⟨True.intro, h⟩
  rw [if_neg c10, if_neg c10]
  by_cases c11 : x1 = 11
  · rw [if_pos c11, if_pos c11]; exact ⟨True.intro, h⟩
  rw [if_neg c11, if_neg c11]
  by_cases c12 : x1 = 12
  · rw [if_pos c12, if_pos c12]; exact ⟨True.intro, h⟩
  rw [if_neg c12, if_neg c12]
  exact ⟨True.intro, h⟩
/-- what lies at a place -/
theorem lies {S : HS} (h : HA S) {x1 : Int32} (hx : 0 ≤ x1.toInt ∧ x1.toInt ≤ 7) (q : ¬ S.2 34 x1.toNatClampNeg = 0) : vp_in (9 * x1) 72 ∧ (0 ≤ (S.2 33 (9 * x1).toNatClampNeg).toInt ∧ (S.2 33 (9 * x1).toNatClampNeg).toInt < 90) ∧ (0 ≤ (S.2 19 (S.2 33 (9 * x1).toNatClampNeg).toNatClampNeg).toInt ∧ (S.2 19 (S.2 33 (9 * x1).toNatClampNeg).toNatClampNeg).toInt ≤ 400) := by
  have k := iNat hx.1
  have c := c9' hx
  have n := h.1.1.1 (x1.toNatClampNeg + 2) (by omega)
  have e : hN S (x1.toNatClampNeg + 2) = (S.2 34 x1.toNatClampNeg).toInt := rfl
  have q := mt iEq.mpr q
  rw [i0] at q
  have l : hL S (x1.toNatClampNeg + 2) 0 := ⟨by omega, by omega⟩
  have v := h.1.1.2.1 _ _ l
  have w := h.1.1.2.2.2.2.1 _ _ l
  rw [c.1]
  exact ⟨c.2, ⟨v.1, v.2.1⟩, w.2.1⟩
theorem m_lying {M : MS} (h : MI M) (x1 x2 : Int32) : p_X12_lying M x1 x2 ∧ MI (f_X12_lying M x1 x2).2 := by
  unfold p_X12_lying f_X12_lying
  by_cases z : f_X12_in x1 0 7 = 0
  · rw [if_pos z, if_pos z]
    exact ⟨⟨in_p _ _ _, True.intro⟩, h⟩
  rw [if_neg z, if_neg z]
  have a := in_07 z
  have v8 : vp_in x1 8 := vIn a.1 (by omega)
  by_cases w : M.2.1.2 34 x1.toNatClampNeg = 0
  · rw [if_pos w, if_pos w]
    exact ⟨⟨in_p _ _ _, v8, True.intro⟩, h⟩
  rw [if_neg w, if_neg w]
  have l := lies h.1 a w
  by_cases y : f_X12_in x2 0 ((M.2.1.2 19 (M.2.1.2 33 (9 * x1).toNatClampNeg).toNatClampNeg) - 1) = 0
  · rw [if_pos y, if_pos y]
    exact ⟨⟨in_p _ _ _, v8, l.1, vIn l.2.1.1 l.2.1.2, in_p _ _ _, True.intro⟩, h⟩
  · rw [if_neg y, if_neg y]
    have b := in_ofS ⟨by omega, by omega⟩ y
    exact ⟨⟨in_p _ _ _, v8, l.1, vIn l.2.1.1 l.2.1.2, in_p _ _ _, tx_in (S := M.2.1) l.2.1 ⟨b.1, by omega⟩, True.intro⟩, h⟩
end
section
theorem m_desk {M : MS} (h : MI M) (x1 x2 : Int32) : p_X12_desk M x1 x2 ∧ MI (f_X12_desk M x1 x2).2 := by
  unfold p_X12_desk f_X12_desk
  by_cases z : f_X12_in x1 0 7 = 0
  · rw [if_pos z, if_pos z]
    exact ⟨⟨in_p _ _ _, True.intro⟩, h⟩
  rw [if_neg z, if_neg z]
  by_cases y : f_X12_in x2 0 5 = 0
  · rw [if_pos y, if_pos y]
    exact ⟨⟨in_p _ _ _, in_p _ _ _, True.intro⟩, h⟩
  rw [if_neg y, if_neg y]
  have a := in_07 z
  have v8 : vp_in x1 8 := vIn a.1 (by omega)
  by_cases w : M.2.1.2 34 x1.toNatClampNeg = 0
  · rw [if_pos w, if_pos w]
    exact ⟨⟨in_p _ _ _, in_p _ _ _, v8, True.intro⟩, h⟩
  rw [if_neg w, if_neg w]
  have l := lies h.1 a w
  have vs : vp_in (M.2.1.2 33 (9 * x1).toNatClampNeg) 90 := vIn l.2.1.1 l.2.1.2
  refine (fun (q : (if x2 = 0 then _ else _) ∧ _) => ⟨⟨in_p _ _ _, in_p _ _ _, v8, l.1, v8, q.1⟩, q.2⟩) ?_
  by_cases c0 : x2 = 0
  · rw [if_pos c0, if_pos c0]
    by_cases t : M.2.1.2 37 x1.toNatClampNeg = 0
    · rw [if_pos t, if_pos t]
      split
      · exact ⟨⟨vs, True.intro⟩, h⟩
      · exact ⟨⟨vs, True.intro⟩, h⟩
    · rw [if_neg t, if_neg t]
      exact ⟨True.intro, h⟩
  rw [if_neg c0, if_neg c0]
  by_cases c1 : x2 = 1
  · rw [if_pos c1, if_pos c1]
    by_cases t : M.2.1.2 37 x1.toNatClampNeg = 0
    · rw [if_pos t, if_pos t]
      exact ⟨⟨vs, True.intro⟩, h⟩
    · rw [if_neg t, if_neg t]
      exact ⟨True.intro, h⟩
  rw [if_neg c1, if_neg c1]
  by_cases c2 : x2 = 2
  · rw [if_pos c2, if_pos c2]
    exact ⟨⟨vs, True.intro⟩, h⟩
  rw [if_neg c2, if_neg c2]
  by_cases c3 : x2 = 3
  · rw [if_pos c3, if_pos c3]
    by_cases t : M.2.1.2 37 x1.toNatClampNeg = 0
    · rw [if_pos t, if_pos t]
      exact ⟨⟨vs, True.intro⟩, h⟩
    · rw [if_neg t, if_neg t]
      exact ⟨True.intro, h⟩
  rw [if_neg c3, if_neg c3]
  by_cases c4 : x2 = 4
  · rw [if_pos c4, if_pos c4]
    by_cases t : M.2.1.2 37 x1.toNatClampNeg = 0
    · rw [if_pos t, if_pos t]
      exact ⟨⟨vs, True.intro⟩, h⟩
    · rw [if_neg t, if_neg t]
      exact ⟨True.intro, h⟩
  rw [if_neg c4, if_neg c4]
  by_cases t : M.2.1.2 37 x1.toNatClampNeg = 0
  · rw [if_pos t, if_pos t]
    split
    · exact ⟨⟨vs, True.intro⟩, h⟩
    · exact ⟨⟨vs, True.intro⟩, h⟩
  · rw [if_neg t, if_neg t]
    exact ⟨True.intro, h⟩
/-! ===== the model's other Hall ===== -/
theorem e600 : (600 : Int32).toInt = 600 := by decide
theorem sp_begin {M : MS} (h : MI M) : p_X11_begin M.2.2 (M.2.1.1 0) ∧ MI (mS M (f_X11_begin M.2.2 (M.2.1.1 0)).2) ∧ HA (f_X11_begin M.2.2 (M.2.1.1 0)).2 := by
  have b := begin_i h.2.1 h.1.1.2.2.1
  exact ⟨b.1, h.spare b.2.1.hb, b.2.1⟩
theorem m_before {M : MS} (h : MI M) (x1 x2 x3 : Int32) : p_X12_before M x1 x2 x3 ∧ MI (f_X12_before M x1 x2 x3).2 := by
  unfold p_X12_before f_X12_before
  by_cases z : f_X12_in x1 0 (M.2.1.1 7) = 0
  · rw [if_pos z, if_pos z]
    exact ⟨⟨in_p _ _ _, True.intro⟩, h⟩
  rw [if_neg z, if_neg z]
  have a := in_of z
  rw [i0] at a
  have n7 := h.1.2.1
  have b := sp_begin h
  generalize (f_X11_begin M.2.2 (M.2.1.1 0)).2 = B at b
  unfold q_X12_before_a31 b_X12_before_a31
  have f := follow_i (M.2.1.2 40) (x2 := x1) (by omega) 100000 B 0 b.2.2 (by rw [i0]; omega) (by rw [i0]; omega) (by rw [i0]; omega)
  have ff : p_X11_follow (M.2.1.2 40) B x1 ∧ HA (f_X11_follow (M.2.1.2 40) B x1).2 := f
  clear f
  have e1 : (mS M B).2.1 = M.2.1 := rfl
  have e2 : (mS M B).2.2 = B := rfl
  rw [e1, e2]
  generalize (f_X11_follow (M.2.1.2 40) B x1).2 = C at ff
  have t := text_i ff.2 x2 x3
  have e3 : (mS (mS M B) C).2.2 = C := rfl
  rw [e3, t.2]
  exact ⟨⟨in_p _ _ _, b.1, ff.1, t.1, True.intro⟩, h.spare ff.2.hb⟩
theorem again_l : ∀ (n : Nat) (M : MS) (x : Int32), MI M → HA M.2.2 → 0 ≤ x.toInt → x.toInt ≤ 600 → 600 - x.toInt < n → lq_X12_again_16 n M x ∧ MI (lp_X12_again_16 n M x).2 := by
  intro n
  induction n with
  | zero => intro M x h g a b c; omega
  | succ n ih =>
    intro M x h g a b c
    rw [lq_X12_again_16, lp_X12_again_16]
    unfold ps_X12_again_16 st_X12_again_16
    by_cases z : M.2.1.1 7 ≤ x
    · rw [if_pos z, if_pos z]
      exact ⟨⟨True.intro, True.intro⟩, h⟩
    rw [if_neg z, if_neg z]
    have z := mt iLe.mpr z
    have n7 := h.1.2.1
    have e := iAdd (x := x) (y := 1) (by rw [i1]; omega) (by rw [i1]; omega)
    rw [i1] at e
    have hx : 0 ≤ x.toInt ∧ x.toInt < 600 := by omega
    have ac := act_i g (M.2.1.2 40 (6 * x).toNatClampNeg) (M.2.1.2 40 ((6 * x) + 1).toNatClampNeg) (M.2.1.2 40 ((6 * x) + 2).toNatClampNeg) (M.2.1.2 40 ((6 * x) + 3).toNatClampNeg) (M.2.1.2 40 ((6 * x) + 4).toNatClampNeg)
    generalize f_X11_act M.2.2 (M.2.1.2 40 (6 * x).toNatClampNeg) (M.2.1.2 40 ((6 * x) + 1).toNatClampNeg) (M.2.1.2 40 ((6 * x) + 2).toNatClampNeg) (M.2.1.2 40 ((6 * x) + 3).toNatClampNeg) (M.2.1.2 40 ((6 * x) + 4).toNatClampNeg) = R at ac
    have h' : MI (mS M R.2) := h.spare ac.2.hb
    have e3 : (mS M R.2).2.1 = M.2.1 := rfl
    have i := ih (mS M R.2) (x + 1) h' ac.2 (by omega) (by omega) (by omega)
    unfold q_X12_again_a92 b_X12_again_a92
    rw [e3]
    by_cases y : R.1 = M.2.1.2 40 ((6 * x) + 5).toNatClampNeg
    · rw [if_pos y, if_pos y]
      exact ⟨⟨⟨(c6 hx (k := 1) (by decide)).1, (c6 hx (by decide)).2, (c6 hx (by decide)).2, (c6 hx (by decide)).2, (c6 hx (by decide)).2, ac.1, (c6 hx (by decide)).2, True.intro⟩, i.1⟩, i.2⟩
    · rw [if_neg y, if_neg y]
      exact ⟨⟨⟨(c6 hx (k := 1) (by decide)).1, (c6 hx (by decide)).2, (c6 hx (by decide)).2, (c6 hx (by decide)).2, (c6 hx (by decide)).2, ac.1, (c6 hx (by decide)).2, True.intro⟩, True.intro⟩, h'⟩
theorem m_again {M : MS} (h : MI M) : p_X12_again M ∧ MI (f_X12_again M).2 := by
  unfold p_X12_again f_X12_again q_X12_again_a14 b_X12_again_a14
  have b := sp_begin h
  generalize (f_X11_begin M.2.2 (M.2.1.1 0)).2 = B at b
  have g := again_l 100000 (mS M B) 0 b.2.1 b.2.2 (by rw [i0]; omega) (by rw [i0]; omega) (by rw [i0]; omega)
  exact ⟨⟨b.1, g.1⟩, g.2⟩
theorem numbers_b (y : Int32) : f_X12_numbers y = -1 ∨ (0 ≤ (f_X12_numbers y).toInt ∧ (f_X12_numbers y).toInt ≤ 4) := by
  unfold f_X12_numbers b_X12_numbers_94 b_X12_numbers_90 b_X12_numbers_88 b_X12_numbers_109
  repeat' split
  all_goals first | exact Or.inl rfl | exact Or.inr (by decide)
/-- what checking one told entry leaves -/
def cK (M : MS) (x : Int32) (r : (Int32 × MS) ⊕ (MS × Int32)) : Prop := (∃ v M', r = Sum.inl (v, M') ∧ MI M') ∨ (∃ M', r = Sum.inr (M', x + 1) ∧ MI M' ∧ HA M'.2.2 ∧ M'.1 = M.1)
theorem check_51 {x : Int32} (hx : 0 ≤ x.toInt ∧ x.toInt < 600) : ∀ (n : Nat) (M : MS) (x3 x4 : Int32), MI M → HA M.2.2 → 0 ≤ x4.toInt → x4.toInt ≤ 5 → 5 - x4.toInt < n → lq_X12_check_51 n M x (6 * x) x3 x4 ∧ cK M x (lp_X12_check_51 n M x (6 * x) x3 x4) := by
  intro n
  induction n with
  | zero => intro M x3 x4 h g a b c; omega
  | succ n ih =>
    intro M x3 x4 h g a b c
    rw [lq_X12_check_51, lp_X12_check_51]
    unfold ps_X12_check_51 st_X12_check_51
    have e4 : (4 : Int32).toInt = 4 := by decide
    by_cases z : 4 < x4
    · rw [if_pos z, if_pos z]
      have ac := act_i g (M.1.2 5 (6 * x).toNatClampNeg) (M.1.2 5 ((6 * x) + 1).toNatClampNeg) (M.1.2 5 ((6 * x) + 2).toNatClampNeg) (M.1.2 5 ((6 * x) + 3).toNatClampNeg) (M.1.2 5 ((6 * x) + 4).toNatClampNeg)
      generalize f_X11_act M.2.2 (M.1.2 5 (6 * x).toNatClampNeg) (M.1.2 5 ((6 * x) + 1).toNatClampNeg) (M.1.2 5 ((6 * x) + 2).toNatClampNeg) (M.1.2 5 ((6 * x) + 3).toNatClampNeg) (M.1.2 5 ((6 * x) + 4).toNatClampNeg) = R at ac
      have h' : MI (mS M R.2) := h.spare ac.2.hb
      have e3 : (mS M R.2).1 = M.1 := rfl
      unfold q_X12_check_a122 b_X12_check_a122
      rw [e3]
      by_cases y : R.1 < 0
      · rw [if_pos y, if_pos y]
        exact ⟨⟨⟨(c6 hx (k := 1) (by decide)).1, (c6 hx (by decide)).2, (c6 hx (by decide)).2, (c6 hx (by decide)).2, (c6 hx (by decide)).2, ac.1, True.intro⟩, True.intro⟩, Or.inl ⟨_, _, rfl, h'⟩⟩
      rw [if_neg y, if_neg y]
      by_cases w : R.1 = M.1.2 5 ((6 * x) + 5).toNatClampNeg
      · rw [if_pos w, if_pos w]
        exact ⟨⟨⟨(c6 hx (k := 1) (by decide)).1, (c6 hx (by decide)).2, (c6 hx (by decide)).2, (c6 hx (by decide)).2, (c6 hx (by decide)).2, ac.1, (c6 hx (by decide)).2, True.intro⟩, True.intro⟩, Or.inr ⟨_, rfl, h', ac.2, rfl⟩⟩
      · rw [if_neg w, if_neg w]
        exact ⟨⟨⟨(c6 hx (k := 1) (by decide)).1, (c6 hx (by decide)).2, (c6 hx (by decide)).2, (c6 hx (by decide)).2, (c6 hx (by decide)).2, ac.1, (c6 hx (by decide)).2, True.intro⟩, True.intro⟩, Or.inl ⟨_, _, rfl, h'⟩⟩
    rw [if_neg z, if_neg z]
    have z := mt iLt.mpr z
    rw [e4] at z
    have e := iAdd (x := x4) (y := 1) (by rw [i1]; omega) (by rw [i1]; omega)
    rw [i1] at e
    have v := (c6 hx (k := x4) ⟨a, b⟩).2
    by_cases y : M.1.2 5 ((6 * x) + x4).toNatClampNeg = 0
    · rw [if_pos y, if_pos y]
      have i := ih M x3 (x4 + 1) h g (by omega) (by omega) (by omega)
      exact ⟨⟨⟨v, True.intro⟩, i.1⟩, i.2⟩
    · rw [if_neg y, if_neg y]
      exact ⟨⟨⟨v, True.intro⟩, True.intro⟩, Or.inl ⟨_, _, rfl, h⟩⟩
theorem check_16 : ∀ (n : Nat) (M : MS) (x : Int32), MI M → HA M.2.2 → 0 ≤ x.toInt → x.toInt ≤ 600 → 600 - x.toInt < n → lq_X12_check_16 n M x ∧ MI (lp_X12_check_16 n M x).2 := by
  intro n
  induction n with
  | zero => intro M x h g a b c; omega
  | succ n ih =>
    intro M x h g a b c
    rw [lq_X12_check_16, lp_X12_check_16]
    unfold ps_X12_check_16 st_X12_check_16
    by_cases z : M.1.1 6 ≤ x
    · rw [if_pos z, if_pos z]
      exact ⟨⟨True.intro, True.intro⟩, h⟩
    rw [if_neg z, if_neg z]
    have z := mt iLe.mpr z
    have n6 := h.2.2.1
    have e := iAdd (x := x) (y := 1) (by rw [i1]; omega) (by rw [i1]; omega)
    rw [i1] at e
    have hx : 0 ≤ x.toInt ∧ x.toInt < 600 := by omega
    have v := (c6 hx (k := 1) (by decide)).1
    have np := numbers_p (M.1.2 5 (6 * x).toNatClampNeg)
    have nb := numbers_b (M.1.2 5 (6 * x).toNatClampNeg)
    generalize f_X12_numbers (M.1.2 5 (6 * x).toNatClampNeg) = k at nb
    by_cases y : k = -1
    · rw [if_pos y, if_pos y]
      exact ⟨⟨⟨v, np, True.intro⟩, True.intro⟩, h⟩
    rw [if_neg y, if_neg y]
    have nb := nb.resolve_left y
    have ek := iAdd (x := k) (y := 1) (by rw [i1]; omega) (by rw [i1]; omega)
    rw [i1] at ek
    have q := check_51 hx 100000 M k (k + 1) h g (by omega) (by omega) (by omega)
    obtain ⟨q1, q2⟩ := q
    generalize lp_X12_check_51 100000 M x (6 * x) k (k + 1) = r at q2
    rcases q2 with ⟨w, M', q3, q4⟩ | ⟨M', q3, q4, q5, q6⟩
    · rw [q3]
      exact ⟨⟨⟨v, np, q1⟩, True.intro⟩, q4⟩
    · rw [q3]
      have i := ih M' (x + 1) q4 q5 (by omega) (by omega) (by omega)
      exact ⟨⟨⟨v, np, q1⟩, i.1⟩, i.2⟩
theorem m_check {M : MS} (h : MI M) : p_X12_check M ∧ MI (f_X12_check M).2 := by
  unfold p_X12_check f_X12_check q_X12_check_a14 b_X12_check_a14
  have b := sp_begin h
  generalize (f_X11_begin M.2.2 (M.2.1.1 0)).2 = B at b
  have g := check_16 100000 (mS M B) 0 b.2.1 b.2.2 (by rw [i0]; omega) (by rw [i0]; omega) (by rw [i0]; omega)
  exact ⟨⟨b.1, g.1⟩, g.2⟩
/-! ===== images ===== -/
theorem e3600 : (3600 : Int32).toInt = 3600 := by decide
theorem im_in {x1 y : Int32} (h1 : 0 ≤ x1.toInt ∧ x1.toInt ≤ 1) (hy : 0 ≤ y.toInt ∧ y.toInt < 3600) : vp_in ((3600 * x1) + y) 7200 ∧ ((3600 * x1) + y).toInt = 3600 * x1.toInt + y.toInt := by
  have m := iMul (x := 3600) (y := x1) (n := 3600 * x1.toInt) (by rw [e3600]) (by omega) (by omega)
  have a := iAdd (x := 3600 * x1) (y := y) (by rw [m]; omega) (by rw [m]; omega)
  rw [m] at a
  exact ⟨vIn (by omega) (by omega), a⟩
theorem mi_4 {M : MS} (h : MI M) (i : Nat) (v : Int32) : MI (mO M (sA M.1 4 i v)) := h
theorem image_l {x1 : Int32} (h1 : 0 ≤ x1.toInt ∧ x1.toInt ≤ 1) : ∀ (n : Nat) (M : MS) (x : Int32), MI M → 0 ≤ x.toInt → x.toInt ≤ 3600 → 3600 - x.toInt < n → lq_X12_image_40 n M x1 x ∧ MI (lp_X12_image_40 n M x1 x).2 := by
  intro n
  induction n with
  | zero => intro M x h a b c; omega
  | succ n ih =>
    intro M x h a b c
    rw [lq_X12_image_40, lp_X12_image_40]
    unfold ps_X12_image_40 st_X12_image_40
    have n7 := h.1.2.1
    have e6 : (6 : Int32).toInt = 6 := by decide
    have m := iMul (x := 6) (y := M.2.1.1 7) (n := 6 * (M.2.1.1 7).toInt) (by rw [e6]) (by omega) (by omega)
    by_cases z : 6 * (M.2.1.1 7) ≤ x
    · rw [if_pos z, if_pos z]
      exact ⟨⟨True.intro, True.intro⟩, h⟩
    rw [if_neg z, if_neg z]
    have z := mt iLe.mpr z
    have e := iAdd (x := x) (y := 1) (by rw [i1]; omega) (by rw [i1]; omega)
    rw [i1] at e
    have i := ih (mO M (sA M.1 4 ((3600 * x1) + x).toNatClampNeg (M.2.1.2 40 x.toNatClampNeg))) (x + 1) (mi_4 h _ _) (by omega) (by omega) (by omega)
    exact ⟨⟨⟨vIn a (by omega), (im_in h1 ⟨a, by omega⟩).1, True.intro⟩, i.1⟩, i.2⟩
theorem in_01 {x : Int32} (q : ¬ f_X12_in x 0 1 = 0) : 0 ≤ x.toInt ∧ x.toInt ≤ 1 := by
  have a := in_of q
  rw [i0, i1] at a
  exact a
theorem m_image {M : MS} (h : MI M) (x1 : Int32) : p_X12_image M x1 ∧ MI (f_X12_image M x1).2 := by
  unfold p_X12_image f_X12_image
  by_cases z : f_X12_in x1 0 1 = 0
  · rw [if_pos z, if_pos z]
    exact ⟨⟨in_p _ _ _, True.intro⟩, h⟩
  rw [if_neg z, if_neg z]
  have a := in_01 z
  have v2 : vp_in x1 2 := vIn a.1 (by omega)
  have h' : MI (mO (mO M (sA M.1 2 x1.toNatClampNeg (M.2.1.1 0))) (sA ((mO M (sA M.1 2 x1.toNatClampNeg (M.2.1.1 0))).1) 3 x1.toNatClampNeg (((mO M (sA M.1 2 x1.toNatClampNeg (M.2.1.1 0))).2.1).1 7))) := by
    refine ⟨h.1, h.2.1, h.2.2.1, fun k q => ?_⟩
    show upd (M.1.2 3) x1.toNatClampNeg (M.2.1.1 7) k = -1 ∨ ((0 ≤ (upd (M.1.2 3) x1.toNatClampNeg (M.2.1.1 7) k).toInt ∧ (upd (M.1.2 3) x1.toNatClampNeg (M.2.1.1 7) k).toInt ≤ 600) ∧ (1 ≤ (upd (M.1.2 2) x1.toNatClampNeg (M.2.1.1 0) k).toInt ∧ (upd (M.1.2 2) x1.toNatClampNeg (M.2.1.1 0) k).toInt ≤ 200))
    by_cases w : k = x1.toNatClampNeg
    · subst w
      rw [upd_eq, upd_eq]
      exact Or.inr ⟨h.1.2.1, h.1.1.ra.1⟩
    · rw [upd_ne w, upd_ne w]
      exact h.2.2.2 k q
  have i := image_l a 100000 _ 0 h' (by rw [i0]; omega) (by rw [i0]; omega) (by rw [i0]; omega)
  exact ⟨⟨in_p _ _ _, v2, v2, i.1⟩, i.2⟩
theorem back_l {x1 : Int32} (h1 : 0 ≤ x1.toInt ∧ x1.toInt ≤ 1) : ∀ (n : Nat) (M : MS) (x : Int32), MI M → (M.1.2 3 x1.toNatClampNeg).toInt ≤ 600 → 0 ≤ x.toInt → x.toInt ≤ 600 → 600 - x.toInt < n → lq_X12_back_40 n M x1 x ∧ MI (lp_X12_back_40 n M x1 x).2 := by
  intro n
  induction n with
  | zero => intro M x h g a b c; omega
  | succ n ih =>
    intro M x h g a b c
    rw [lq_X12_back_40, lp_X12_back_40]
    unfold ps_X12_back_40 st_X12_back_40
    have v2 : vp_in x1 2 := vIn h1.1 (by omega)
    by_cases z : M.1.2 3 x1.toNatClampNeg ≤ x
    · rw [if_pos z, if_pos z]
      exact ⟨⟨⟨v2, v2, True.intro⟩, True.intro⟩, h.hall (ha_10 h.1 _)⟩
    rw [if_neg z, if_neg z]
    have z := mt iLe.mpr z
    have e := iAdd (x := x) (y := 1) (by rw [i1]; omega) (by rw [i1]; omega)
    rw [i1] at e
    have e6 : (6 : Int32).toInt = 6 := by decide
    have m := iMul (x := 6) (y := x) (n := 6 * x.toInt) (by rw [e6]) (by omega) (by omega)
    have b0 := im_in h1 (y := 6 * x) ⟨by omega, by omega⟩
    have bk : ∀ k : Int32, 0 ≤ k.toInt → k.toInt ≤ 5 → vp_in (((3600 * x1) + (6 * x)) + k) 7200 := fun k k1 k2 => by
      have q := iAdd (x := (3600 * x1) + (6 * x)) (y := k) (by rw [b0.2]; omega) (by rw [b0.2]; omega)
      rw [b0.2] at q
      exact vIn (by omega) (by omega)
    have ac := act_i h.1 (M.1.2 4 ((3600 * x1) + (6 * x)).toNatClampNeg) (M.1.2 4 (((3600 * x1) + (6 * x)) + 1).toNatClampNeg) (M.1.2 4 (((3600 * x1) + (6 * x)) + 2).toNatClampNeg) (M.1.2 4 (((3600 * x1) + (6 * x)) + 3).toNatClampNeg) (M.1.2 4 (((3600 * x1) + (6 * x)) + 4).toNatClampNeg)
    generalize f_X11_act M.2.1 (M.1.2 4 ((3600 * x1) + (6 * x)).toNatClampNeg) (M.1.2 4 (((3600 * x1) + (6 * x)) + 1).toNatClampNeg) (M.1.2 4 (((3600 * x1) + (6 * x)) + 2).toNatClampNeg) (M.1.2 4 (((3600 * x1) + (6 * x)) + 3).toNatClampNeg) (M.1.2 4 (((3600 * x1) + (6 * x)) + 4).toNatClampNeg) = R at ac
    have i := ih (mH M R.2) (x + 1) (h.hall ac.2) g (by omega) (by omega) (by omega)
    exact ⟨⟨⟨v2, b0.1, bk 1 (by decide) (by decide), bk 2 (by decide) (by decide), bk 3 (by decide) (by decide), bk 4 (by decide) (by decide), ac.1, True.intro⟩, i.1⟩, i.2⟩
theorem m_back {M : MS} (h : MI M) (x1 : Int32) : p_X12_back M x1 ∧ MI (f_X12_back M x1).2 := by
  unfold p_X12_back f_X12_back
  by_cases z : f_X12_in x1 0 1 = 0
  · rw [if_pos z, if_pos z]
    exact ⟨⟨in_p _ _ _, True.intro⟩, h⟩
  rw [if_neg z, if_neg z]
  have a := in_01 z
  have k := iNat a.1
  have v2 : vp_in x1 2 := vIn a.1 (by omega)
  by_cases y : M.1.2 3 x1.toNatClampNeg = (-1)
  · rw [if_pos y, if_pos y]
    exact ⟨⟨in_p _ _ _, v2, True.intro⟩, h⟩
  rw [if_neg y, if_neg y]
  have q := (h.2.2.2 x1.toNatClampNeg (by omega)).resolve_left y
  have b := begin_i h.1.hb q.2
  unfold q_X12_back_a38 b_X12_back_a38
  generalize (f_X11_begin M.2.1 (M.1.2 2 x1.toNatClampNeg)).2 = B at b
  have i := back_l a 100000 (mH M B) 0 (h.hall b.2.1) q.1.2 (by rw [i0]; omega) (by rw [i0]; omega) (by rw [i0]; omega)
  exact ⟨⟨in_p _ _ _, v2, v2, b.1, i.1⟩, i.2⟩
end
section
/-! ===== the class's cells: how many, how many slots, and each by its place: kind, length, numbers, references ===== -/
abbrev Cel : Type := Nat × Nat × (Nat → Int32) × (Nat → Option Nat)
abbrev Cst : Type := Nat × Nat × (Nat → Cel)
def kdC (S : Cst) (q : Nat) : Nat := (S.2.2 q).1
def lnC (S : Cst) (q : Nat) : Nat := (S.2.2 q).2.1
def giC (S : Cst) (q k : Nat) : Int32 := (S.2.2 q).2.2.1 k
def grC (S : Cst) (q k : Nat) : Option Nat := (S.2.2 q).2.2.2 k
/-- a cell in another one's place -/
def scC (S : Cst) (q : Nat) (c : Cel) : Cst := (S.1, S.2.1, fun j => if j = q then c else S.2.2 j)
/-- a number, a reference, a whole row of numbers set -/
def siC (S : Cst) (q k : Nat) (v : Int32) : Cst := scC S q (kdC S q, lnC S q, upd (giC S q) k v, grC S q)
def srC (S : Cst) (q k : Nat) (r : Option Nat) : Cst := scC S q (kdC S q, lnC S q, giC S q, va_up (grC S q) k r)
def sfC (S : Cst) (q : Nat) (f : Nat → Int32) : Cst := scC S q (kdC S q, lnC S q, f, grC S q)
/-- at q stands a cell of kind c; r is one -/
def iK (S : Cst) (q c : Nat) : Prop := q < S.1 ∧ kdC S q = c
def iR (S : Cst) (r : Option Nat) (c : Nat) : Prop := r ≠ none ∧ iK S (r.getD 0) c
/-- the cells of S stand in T, of the same kind and length; as many / at least as many -/
def eK (S T : Cst) : Prop := (S.1 = T.1 ∧ S.2.1 = T.2.1) ∧ ∀ q, q < S.1 → kdC T q = kdC S q ∧ lnC T q = lnC S q
def eN (S T : Cst) : Prop := (S.1 ≤ T.1 ∧ S.2.1 ≤ T.2.1) ∧ ∀ q, q < S.1 → kdC T q = kdC S q ∧ lnC T q = lnC S q
theorem eK.rf (S : Cst) : eK S S := ⟨⟨rfl, rfl⟩, fun _ _ => ⟨rfl, rfl⟩⟩
theorem eK.tr {S T U : Cst} (h : eK S T) (g : eK T U) : eK S U := ⟨⟨h.1.1.trans g.1.1, h.1.2.trans g.1.2⟩, fun q a => ⟨(g.2 q (by rw [← h.1.1]; exact a)).1.trans (h.2 q a).1, (g.2 q (by rw [← h.1.1]; exact a)).2.trans (h.2 q a).2⟩⟩
theorem eK.n {S T : Cst} (h : eK S T) : eN S T := ⟨⟨Nat.le_of_eq h.1.1, Nat.le_of_eq h.1.2⟩, h.2⟩
theorem eN.rf (S : Cst) : eN S S := (eK.rf S).n
theorem eN.tr {S T U : Cst} (h : eN S T) (g : eN T U) : eN S U := ⟨⟨Nat.le_trans h.1.1 g.1.1, Nat.le_trans h.1.2 g.1.2⟩, fun q a => ⟨(g.2 q (Nat.lt_of_lt_of_le a h.1.1)).1.trans (h.2 q a).1, (g.2 q (Nat.lt_of_lt_of_le a h.1.1)).2.trans (h.2 q a).2⟩⟩
theorem iK.n {S T : Cst} {q c : Nat} (h : iK S q c) (g : eN S T) : iK T q c := ⟨Nat.lt_of_lt_of_le h.1 g.1.1, (g.2 q h.1).1.trans h.2⟩
theorem iK.e {S T : Cst} {q c : Nat} (h : iK S q c) (g : eK S T) : iK T q c := h.n g.n
theorem iR.n {S T : Cst} {r : Option Nat} {c : Nat} (h : iR S r c) (g : eN S T) : iR T r c := ⟨h.1, h.2.n g⟩
theorem iR.e {S T : Cst} {r : Option Nat} {c : Nat} (h : iR S r c) (g : eK S T) : iR T r c := h.n g.n
theorem scC_at (S : Cst) (q : Nat) (c : Cel) : (scC S q c).2.2 q = c := if_pos rfl
theorem scC_ne (S : Cst) {q j : Nat} (c : Cel) (h : j ≠ q) : (scC S q c).2.2 j = S.2.2 j := if_neg h
theorem eK.sc (S : Cst) (q : Nat) (c : Cel) (h1 : c.1 = kdC S q) (h2 : c.2.1 = lnC S q) : eK S (scC S q c) := by
  refine ⟨⟨rfl, rfl⟩, fun j _ => ?_⟩
  unfold kdC lnC
  by_cases z : j = q
  · subst z
    rw [scC_at]
    exact ⟨h1, h2⟩
  · rw [scC_ne S c z]
    exact ⟨rfl, rfl⟩
theorem eK.si (S : Cst) (q k : Nat) (v : Int32) : eK S (siC S q k v) := eK.sc S q _ rfl rfl
theorem eK.sr (S : Cst) (q k : Nat) (r : Option Nat) : eK S (srC S q k r) := eK.sc S q _ rfl rfl
theorem eK.sf (S : Cst) (q : Nat) (f : Nat → Int32) : eK S (sfC S q f) := eK.sc S q _ rfl rfl
/-- a cell of a kind -/
def cKd (K : Nat → ClassId) (ad : Nat → Nat) (kind len : Nat) (f : Nat → Int32) (r : Nat → Option Nat) : va_E := match kind with
  | 0 => .inr (0, [va_re ad (r 0), va_re ad (r 1), va_re ad (r 2), va_re ad (r 3), va_re ad (r 4), va_re ad (r 5), va_re ad (r 6), .int (f 7), .int (f 8), .int (f 9), va_re ad (r 10)])
  | 1 => .inr (1, [.int (f 0), va_re ad (r 1), .int (f 2), .int (f 3), .int (f 4), .int (f 5), .int (f 6), va_re ad (r 7)])
  | 2 => .inr (2, [.int (f 0), .int (f 1), va_re ad (r 2), .int (f 3)])
  | 3 => .inr (3, [.int (f 0), .int (f 1), .int (f 2), .int (f 3), .int (f 4), .int (f 5), .int (f 6), .int (f 7), .int (f 8), .int (f 9), .int (f 10), .int (f 11), va_re ad (r 12), va_re ad (r 13), .int (f 14), va_re ad (r 15)])
  | 4 => .inr (4, [va_re ad (r 0), .int (f 1)])
  | 5 => .inr (5, [.int (f 0), va_re ad (r 1)])
  | 6 => .inr (6, [va_re ad (r 0), .int (f 1)])
  | 7 => .inr (7, [va_re ad (r 0), va_re ad (r 1), va_re ad (r 2), va_re ad (r 3), va_re ad (r 4)])
  | 20 => .inl (K 0, len, .inl f)
  | 21 => .inl (K 1, len, .inl f)
  | 22 => .inl (K 2, len, .inl f)
  | 23 => .inl (K 3, len, .inr (.inr (.inr (.inr (fun i => (r i).map ad)))))
  | 24 => .inl (K 4, len, .inr (.inr (.inr (.inr (fun i => (r i).map ad)))))
  | _ => .inl (K 0, len, .inl f)
def cKg (K : Nat → ClassId) (kind len : Nat) (f : Nat → Int32) (r : Nat → Option Nat) : va_E := match kind with
  | 0 => .inr (0, [va_rf (r 0), va_rf (r 1), va_rf (r 2), va_rf (r 3), va_rf (r 4), va_rf (r 5), va_rf (r 6), .int (f 7), .int (f 8), .int (f 9), va_rf (r 10)])
  | 1 => .inr (1, [.int (f 0), va_rf (r 1), .int (f 2), .int (f 3), .int (f 4), .int (f 5), .int (f 6), va_rf (r 7)])
  | 2 => .inr (2, [.int (f 0), .int (f 1), va_rf (r 2), .int (f 3)])
  | 3 => .inr (3, [.int (f 0), .int (f 1), .int (f 2), .int (f 3), .int (f 4), .int (f 5), .int (f 6), .int (f 7), .int (f 8), .int (f 9), .int (f 10), .int (f 11), va_rf (r 12), va_rf (r 13), .int (f 14), va_rf (r 15)])
  | 4 => .inr (4, [va_rf (r 0), .int (f 1)])
  | 5 => .inr (5, [.int (f 0), va_rf (r 1)])
  | 6 => .inr (6, [va_rf (r 0), .int (f 1)])
  | 7 => .inr (7, [va_rf (r 0), va_rf (r 1), va_rf (r 2), va_rf (r 3), va_rf (r 4)])
  | 20 => .inl (K 0, len, .inl f)
  | 21 => .inl (K 1, len, .inl f)
  | 22 => .inl (K 2, len, .inl f)
  | 23 => .inl (K 3, len, .inr (.inr (.inr (.inr r))))
  | 24 => .inl (K 4, len, .inr (.inr (.inr (.inr r))))
  | _ => .inl (K 0, len, .inl f)
theorem cKd_g (K : Nat → ClassId) (ad : Nat → Nat) (kind len : Nat) (f : Nat → Int32) (r : Nat → Option Nat) : cKd K ad kind len f r = cKg K kind len f (fun k => (r k).map ad) := by
  unfold cKd cKg
  split <;> rfl
def cCe (K : Nat → ClassId) (ad : Nat → Nat) (c : Cel) : va_E := cKd K ad c.1 c.2.1 c.2.2.1 c.2.2.2
def wsC (K : Nat → ClassId) (ad : Nat → Nat) (S : Cst) : va_W := (List.range S.1).map (fun q => (ad q, cCe K ad (S.2.2 q)))
theorem wsC_at {K : Nat → ClassId} {ad : Nat → Nat} {S : Cst} {q : Nat} (h : q < S.1) : (wsC K ad S)[q]? = some (ad q, cCe K ad (S.2.2 q)) := by
  unfold wsC
  rw [List.getElem?_map, List.getElem?_range h]
  rfl
theorem wsC_set {K : Nat → ClassId} {ad : Nat → Nat} {S : Cst} {q : Nat} (c : Cel) {e : va_E} (h : e = cCe K ad c) : (wsC K ad S).set q (ad q, e) = wsC K ad (scC S q c) := by
  subst h
  refine List.ext_getElem? (fun j => ?_)
  rw [List.getElem?_set]
  unfold wsC
  rw [List.getElem?_map, List.getElem?_map, List.length_map, List.length_range]
  by_cases z : q = j
  · subst z
    rw [if_pos rfl]
    by_cases a : q < S.1
    · rw [if_pos a, List.getElem?_range (show q < (scC S q c).1 from a)]
      show _ = some (ad q, cCe K ad ((scC S q c).2.2 q))
      rw [scC_at]
    · rw [if_neg a, List.getElem?_eq_none (by rw [List.length_range]; exact Nat.not_lt.mp a)]
      rfl
  · rw [if_neg z]
    by_cases a : j < S.1
    · rw [List.getElem?_range a, List.getElem?_range (show j < (scC S q c).1 from a)]
      show some (ad j, _) = some (ad j, cCe K ad ((scC S q c).2.2 j))
      rw [scC_ne S c (fun w => z w.symm)]
    · rw [List.getElem?_eq_none (by rw [List.length_range]; exact Nat.not_lt.mp a), List.getElem?_eq_none (by rw [List.length_range]; exact Nat.not_lt.mp a)]
      rfl
theorem at_0 {K : Nat → ClassId} {ad : Nat → Nat} {S : Cst} {q : Nat} (h : iK S q 0) : (wsC K ad S)[q]? = some (ad q, .inr (0, [va_re ad (grC S q 0), va_re ad (grC S q 1), va_re ad (grC S q 2), va_re ad (grC S q 3), va_re ad (grC S q 4), va_re ad (grC S q 5), va_re ad (grC S q 6), .int (giC S q 7), .int (giC S q 8), .int (giC S q 9), va_re ad (grC S q 10)])) := by
  rw [wsC_at h.1]
  unfold cCe
  have e := h.2
  unfold kdC at e
  rw [e]
  rfl
theorem at_1 {K : Nat → ClassId} {ad : Nat → Nat} {S : Cst} {q : Nat} (h : iK S q 1) : (wsC K ad S)[q]? = some (ad q, .inr (1, [.int (giC S q 0), va_re ad (grC S q 1), .int (giC S q 2), .int (giC S q 3), .int (giC S q 4), .int (giC S q 5), .int (giC S q 6), va_re ad (grC S q 7)])) := by
  rw [wsC_at h.1]
  unfold cCe
  have e := h.2
  unfold kdC at e
  rw [e]
  rfl
theorem at_2 {K : Nat → ClassId} {ad : Nat → Nat} {S : Cst} {q : Nat} (h : iK S q 2) : (wsC K ad S)[q]? = some (ad q, .inr (2, [.int (giC S q 0), .int (giC S q 1), va_re ad (grC S q 2), .int (giC S q 3)])) := by
  rw [wsC_at h.1]
  unfold cCe
  have e := h.2
  unfold kdC at e
  rw [e]
  rfl
theorem at_3 {K : Nat → ClassId} {ad : Nat → Nat} {S : Cst} {q : Nat} (h : iK S q 3) : (wsC K ad S)[q]? = some (ad q, .inr (3, [.int (giC S q 0), .int (giC S q 1), .int (giC S q 2), .int (giC S q 3), .int (giC S q 4), .int (giC S q 5), .int (giC S q 6), .int (giC S q 7), .int (giC S q 8), .int (giC S q 9), .int (giC S q 10), .int (giC S q 11), va_re ad (grC S q 12), va_re ad (grC S q 13), .int (giC S q 14), va_re ad (grC S q 15)])) := by
  rw [wsC_at h.1]
  unfold cCe
  have e := h.2
  unfold kdC at e
  rw [e]
  rfl
theorem at_4 {K : Nat → ClassId} {ad : Nat → Nat} {S : Cst} {q : Nat} (h : iK S q 4) : (wsC K ad S)[q]? = some (ad q, .inr (4, [va_re ad (grC S q 0), .int (giC S q 1)])) := by
  rw [wsC_at h.1]
  unfold cCe
  have e := h.2
  unfold kdC at e
  rw [e]
  rfl
theorem at_5 {K : Nat → ClassId} {ad : Nat → Nat} {S : Cst} {q : Nat} (h : iK S q 5) : (wsC K ad S)[q]? = some (ad q, .inr (5, [.int (giC S q 0), va_re ad (grC S q 1)])) := by
  rw [wsC_at h.1]
  unfold cCe
  have e := h.2
  unfold kdC at e
  rw [e]
  rfl
theorem at_6 {K : Nat → ClassId} {ad : Nat → Nat} {S : Cst} {q : Nat} (h : iK S q 6) : (wsC K ad S)[q]? = some (ad q, .inr (6, [va_re ad (grC S q 0), .int (giC S q 1)])) := by
  rw [wsC_at h.1]
  unfold cCe
  have e := h.2
  unfold kdC at e
  rw [e]
  rfl
theorem at_7 {K : Nat → ClassId} {ad : Nat → Nat} {S : Cst} {q : Nat} (h : iK S q 7) : (wsC K ad S)[q]? = some (ad q, .inr (7, [va_re ad (grC S q 0), va_re ad (grC S q 1), va_re ad (grC S q 2), va_re ad (grC S q 3), va_re ad (grC S q 4)])) := by
  rw [wsC_at h.1]
  unfold cCe
  have e := h.2
  unfold kdC at e
  rw [e]
  rfl
theorem at_20 {K : Nat → ClassId} {ad : Nat → Nat} {S : Cst} {q : Nat} (h : iK S q 20) : (wsC K ad S)[q]? = some (ad q, .inl (K 0, lnC S q, .inl (giC S q))) := by
  rw [wsC_at h.1]
  unfold cCe
  have e := h.2
  unfold kdC at e
  rw [e]
  rfl
theorem at_21 {K : Nat → ClassId} {ad : Nat → Nat} {S : Cst} {q : Nat} (h : iK S q 21) : (wsC K ad S)[q]? = some (ad q, .inl (K 1, lnC S q, .inl (giC S q))) := by
  rw [wsC_at h.1]
  unfold cCe
  have e := h.2
  unfold kdC at e
  rw [e]
  rfl
theorem at_22 {K : Nat → ClassId} {ad : Nat → Nat} {S : Cst} {q : Nat} (h : iK S q 22) : (wsC K ad S)[q]? = some (ad q, .inl (K 2, lnC S q, .inl (giC S q))) := by
  rw [wsC_at h.1]
  unfold cCe
  have e := h.2
  unfold kdC at e
  rw [e]
  rfl
theorem at_23 {K : Nat → ClassId} {ad : Nat → Nat} {S : Cst} {q : Nat} (h : iK S q 23) : (wsC K ad S)[q]? = some (ad q, .inl (K 3, lnC S q, .inr (.inr (.inr (.inr (fun i => (grC S q i).map ad)))))) := by
  rw [wsC_at h.1]
  unfold cCe
  have e := h.2
  unfold kdC at e
  rw [e]
  rfl
theorem at_24 {K : Nat → ClassId} {ad : Nat → Nat} {S : Cst} {q : Nat} (h : iK S q 24) : (wsC K ad S)[q]? = some (ad q, .inl (K 4, lnC S q, .inr (.inr (.inr (.inr (fun i => (grC S q i).map ad)))))) := by
  rw [wsC_at h.1]
  unfold cCe
  have e := h.2
  unfold kdC at e
  rw [e]
  rfl
theorem st_0_7 {K : Nat → ClassId} {ad : Nat → Nat} {S : Cst} {q : Nat} (h : iK S q 0) (v : Int32) : (wsC K ad S).set q (ad q, .inr (0, [va_re ad (grC S q 0), va_re ad (grC S q 1), va_re ad (grC S q 2), va_re ad (grC S q 3), va_re ad (grC S q 4), va_re ad (grC S q 5), va_re ad (grC S q 6), .int (giC S q 7), .int (giC S q 8), .int (giC S q 9), va_re ad (grC S q 10)].set 7 (.int v))) = wsC K ad (siC S q 7 v) := by
  refine wsC_set _ ?_
  unfold cCe
  dsimp only
  rw [h.2]
  rfl
theorem st_0_8 {K : Nat → ClassId} {ad : Nat → Nat} {S : Cst} {q : Nat} (h : iK S q 0) (v : Int32) : (wsC K ad S).set q (ad q, .inr (0, [va_re ad (grC S q 0), va_re ad (grC S q 1), va_re ad (grC S q 2), va_re ad (grC S q 3), va_re ad (grC S q 4), va_re ad (grC S q 5), va_re ad (grC S q 6), .int (giC S q 7), .int (giC S q 8), .int (giC S q 9), va_re ad (grC S q 10)].set 8 (.int v))) = wsC K ad (siC S q 8 v) := by
  refine wsC_set _ ?_
  unfold cCe
  dsimp only
  rw [h.2]
  rfl
theorem st_0_9 {K : Nat → ClassId} {ad : Nat → Nat} {S : Cst} {q : Nat} (h : iK S q 0) (v : Int32) : (wsC K ad S).set q (ad q, .inr (0, [va_re ad (grC S q 0), va_re ad (grC S q 1), va_re ad (grC S q 2), va_re ad (grC S q 3), va_re ad (grC S q 4), va_re ad (grC S q 5), va_re ad (grC S q 6), .int (giC S q 7), .int (giC S q 8), .int (giC S q 9), va_re ad (grC S q 10)].set 9 (.int v))) = wsC K ad (siC S q 9 v) := by
  refine wsC_set _ ?_
  unfold cCe
  dsimp only
  rw [h.2]
  rfl
theorem st_0_10 {K : Nat → ClassId} {ad : Nat → Nat} {S : Cst} {q : Nat} (h : iK S q 0) (r : Option Nat) : (wsC K ad S).set q (ad q, .inr (0, [va_re ad (grC S q 0), va_re ad (grC S q 1), va_re ad (grC S q 2), va_re ad (grC S q 3), va_re ad (grC S q 4), va_re ad (grC S q 5), va_re ad (grC S q 6), .int (giC S q 7), .int (giC S q 8), .int (giC S q 9), va_re ad (grC S q 10)].set 10 (va_re ad r))) = wsC K ad (srC S q 10 r) := by
  refine wsC_set _ ?_
  unfold cCe
  dsimp only
  rw [h.2]
  rfl
theorem st_1_0 {K : Nat → ClassId} {ad : Nat → Nat} {S : Cst} {q : Nat} (h : iK S q 1) (v : Int32) : (wsC K ad S).set q (ad q, .inr (1, [.int (giC S q 0), va_re ad (grC S q 1), .int (giC S q 2), .int (giC S q 3), .int (giC S q 4), .int (giC S q 5), .int (giC S q 6), va_re ad (grC S q 7)].set 0 (.int v))) = wsC K ad (siC S q 0 v) := by
  refine wsC_set _ ?_
  unfold cCe
  dsimp only
  rw [h.2]
  rfl
theorem st_1_2 {K : Nat → ClassId} {ad : Nat → Nat} {S : Cst} {q : Nat} (h : iK S q 1) (v : Int32) : (wsC K ad S).set q (ad q, .inr (1, [.int (giC S q 0), va_re ad (grC S q 1), .int (giC S q 2), .int (giC S q 3), .int (giC S q 4), .int (giC S q 5), .int (giC S q 6), va_re ad (grC S q 7)].set 2 (.int v))) = wsC K ad (siC S q 2 v) := by
  refine wsC_set _ ?_
  unfold cCe
  dsimp only
  rw [h.2]
  rfl
theorem st_1_3 {K : Nat → ClassId} {ad : Nat → Nat} {S : Cst} {q : Nat} (h : iK S q 1) (v : Int32) : (wsC K ad S).set q (ad q, .inr (1, [.int (giC S q 0), va_re ad (grC S q 1), .int (giC S q 2), .int (giC S q 3), .int (giC S q 4), .int (giC S q 5), .int (giC S q 6), va_re ad (grC S q 7)].set 3 (.int v))) = wsC K ad (siC S q 3 v) := by
  refine wsC_set _ ?_
  unfold cCe
  dsimp only
  rw [h.2]
  rfl
theorem st_1_4 {K : Nat → ClassId} {ad : Nat → Nat} {S : Cst} {q : Nat} (h : iK S q 1) (v : Int32) : (wsC K ad S).set q (ad q, .inr (1, [.int (giC S q 0), va_re ad (grC S q 1), .int (giC S q 2), .int (giC S q 3), .int (giC S q 4), .int (giC S q 5), .int (giC S q 6), va_re ad (grC S q 7)].set 4 (.int v))) = wsC K ad (siC S q 4 v) := by
  refine wsC_set _ ?_
  unfold cCe
  dsimp only
  rw [h.2]
  rfl
theorem st_1_5 {K : Nat → ClassId} {ad : Nat → Nat} {S : Cst} {q : Nat} (h : iK S q 1) (v : Int32) : (wsC K ad S).set q (ad q, .inr (1, [.int (giC S q 0), va_re ad (grC S q 1), .int (giC S q 2), .int (giC S q 3), .int (giC S q 4), .int (giC S q 5), .int (giC S q 6), va_re ad (grC S q 7)].set 5 (.int v))) = wsC K ad (siC S q 5 v) := by
  refine wsC_set _ ?_
  unfold cCe
  dsimp only
  rw [h.2]
  rfl
theorem st_1_6 {K : Nat → ClassId} {ad : Nat → Nat} {S : Cst} {q : Nat} (h : iK S q 1) (v : Int32) : (wsC K ad S).set q (ad q, .inr (1, [.int (giC S q 0), va_re ad (grC S q 1), .int (giC S q 2), .int (giC S q 3), .int (giC S q 4), .int (giC S q 5), .int (giC S q 6), va_re ad (grC S q 7)].set 6 (.int v))) = wsC K ad (siC S q 6 v) := by
  refine wsC_set _ ?_
  unfold cCe
  dsimp only
  rw [h.2]
  rfl
theorem st_2_0 {K : Nat → ClassId} {ad : Nat → Nat} {S : Cst} {q : Nat} (h : iK S q 2) (v : Int32) : (wsC K ad S).set q (ad q, .inr (2, [.int (giC S q 0), .int (giC S q 1), va_re ad (grC S q 2), .int (giC S q 3)].set 0 (.int v))) = wsC K ad (siC S q 0 v) := by
  refine wsC_set _ ?_
  unfold cCe
  dsimp only
  rw [h.2]
  rfl
theorem st_2_1 {K : Nat → ClassId} {ad : Nat → Nat} {S : Cst} {q : Nat} (h : iK S q 2) (v : Int32) : (wsC K ad S).set q (ad q, .inr (2, [.int (giC S q 0), .int (giC S q 1), va_re ad (grC S q 2), .int (giC S q 3)].set 1 (.int v))) = wsC K ad (siC S q 1 v) := by
  refine wsC_set _ ?_
  unfold cCe
  dsimp only
  rw [h.2]
  rfl
theorem st_2_2 {K : Nat → ClassId} {ad : Nat → Nat} {S : Cst} {q : Nat} (h : iK S q 2) (r : Option Nat) : (wsC K ad S).set q (ad q, .inr (2, [.int (giC S q 0), .int (giC S q 1), va_re ad (grC S q 2), .int (giC S q 3)].set 2 (va_re ad r))) = wsC K ad (srC S q 2 r) := by
  refine wsC_set _ ?_
  unfold cCe
  dsimp only
  rw [h.2]
  rfl
theorem st_2_3 {K : Nat → ClassId} {ad : Nat → Nat} {S : Cst} {q : Nat} (h : iK S q 2) (v : Int32) : (wsC K ad S).set q (ad q, .inr (2, [.int (giC S q 0), .int (giC S q 1), va_re ad (grC S q 2), .int (giC S q 3)].set 3 (.int v))) = wsC K ad (siC S q 3 v) := by
  refine wsC_set _ ?_
  unfold cCe
  dsimp only
  rw [h.2]
  rfl
theorem st_3_0 {K : Nat → ClassId} {ad : Nat → Nat} {S : Cst} {q : Nat} (h : iK S q 3) (v : Int32) : (wsC K ad S).set q (ad q, .inr (3, [.int (giC S q 0), .int (giC S q 1), .int (giC S q 2), .int (giC S q 3), .int (giC S q 4), .int (giC S q 5), .int (giC S q 6), .int (giC S q 7), .int (giC S q 8), .int (giC S q 9), .int (giC S q 10), .int (giC S q 11), va_re ad (grC S q 12), va_re ad (grC S q 13), .int (giC S q 14), va_re ad (grC S q 15)].set 0 (.int v))) = wsC K ad (siC S q 0 v) := by
  refine wsC_set _ ?_
  unfold cCe
  dsimp only
  rw [h.2]
  rfl
theorem st_3_1 {K : Nat → ClassId} {ad : Nat → Nat} {S : Cst} {q : Nat} (h : iK S q 3) (v : Int32) : (wsC K ad S).set q (ad q, .inr (3, [.int (giC S q 0), .int (giC S q 1), .int (giC S q 2), .int (giC S q 3), .int (giC S q 4), .int (giC S q 5), .int (giC S q 6), .int (giC S q 7), .int (giC S q 8), .int (giC S q 9), .int (giC S q 10), .int (giC S q 11), va_re ad (grC S q 12), va_re ad (grC S q 13), .int (giC S q 14), va_re ad (grC S q 15)].set 1 (.int v))) = wsC K ad (siC S q 1 v) := by
  refine wsC_set _ ?_
  unfold cCe
  dsimp only
  rw [h.2]
  rfl
theorem st_3_2 {K : Nat → ClassId} {ad : Nat → Nat} {S : Cst} {q : Nat} (h : iK S q 3) (v : Int32) : (wsC K ad S).set q (ad q, .inr (3, [.int (giC S q 0), .int (giC S q 1), .int (giC S q 2), .int (giC S q 3), .int (giC S q 4), .int (giC S q 5), .int (giC S q 6), .int (giC S q 7), .int (giC S q 8), .int (giC S q 9), .int (giC S q 10), .int (giC S q 11), va_re ad (grC S q 12), va_re ad (grC S q 13), .int (giC S q 14), va_re ad (grC S q 15)].set 2 (.int v))) = wsC K ad (siC S q 2 v) := by
  refine wsC_set _ ?_
  unfold cCe
  dsimp only
  rw [h.2]
  rfl
theorem st_3_3 {K : Nat → ClassId} {ad : Nat → Nat} {S : Cst} {q : Nat} (h : iK S q 3) (v : Int32) : (wsC K ad S).set q (ad q, .inr (3, [.int (giC S q 0), .int (giC S q 1), .int (giC S q 2), .int (giC S q 3), .int (giC S q 4), .int (giC S q 5), .int (giC S q 6), .int (giC S q 7), .int (giC S q 8), .int (giC S q 9), .int (giC S q 10), .int (giC S q 11), va_re ad (grC S q 12), va_re ad (grC S q 13), .int (giC S q 14), va_re ad (grC S q 15)].set 3 (.int v))) = wsC K ad (siC S q 3 v) := by
  refine wsC_set _ ?_
  unfold cCe
  dsimp only
  rw [h.2]
  rfl
theorem st_3_4 {K : Nat → ClassId} {ad : Nat → Nat} {S : Cst} {q : Nat} (h : iK S q 3) (v : Int32) : (wsC K ad S).set q (ad q, .inr (3, [.int (giC S q 0), .int (giC S q 1), .int (giC S q 2), .int (giC S q 3), .int (giC S q 4), .int (giC S q 5), .int (giC S q 6), .int (giC S q 7), .int (giC S q 8), .int (giC S q 9), .int (giC S q 10), .int (giC S q 11), va_re ad (grC S q 12), va_re ad (grC S q 13), .int (giC S q 14), va_re ad (grC S q 15)].set 4 (.int v))) = wsC K ad (siC S q 4 v) := by
  refine wsC_set _ ?_
  unfold cCe
  dsimp only
  rw [h.2]
  rfl
theorem st_3_5 {K : Nat → ClassId} {ad : Nat → Nat} {S : Cst} {q : Nat} (h : iK S q 3) (v : Int32) : (wsC K ad S).set q (ad q, .inr (3, [.int (giC S q 0), .int (giC S q 1), .int (giC S q 2), .int (giC S q 3), .int (giC S q 4), .int (giC S q 5), .int (giC S q 6), .int (giC S q 7), .int (giC S q 8), .int (giC S q 9), .int (giC S q 10), .int (giC S q 11), va_re ad (grC S q 12), va_re ad (grC S q 13), .int (giC S q 14), va_re ad (grC S q 15)].set 5 (.int v))) = wsC K ad (siC S q 5 v) := by
  refine wsC_set _ ?_
  unfold cCe
  dsimp only
  rw [h.2]
  rfl
theorem st_3_6 {K : Nat → ClassId} {ad : Nat → Nat} {S : Cst} {q : Nat} (h : iK S q 3) (v : Int32) : (wsC K ad S).set q (ad q, .inr (3, [.int (giC S q 0), .int (giC S q 1), .int (giC S q 2), .int (giC S q 3), .int (giC S q 4), .int (giC S q 5), .int (giC S q 6), .int (giC S q 7), .int (giC S q 8), .int (giC S q 9), .int (giC S q 10), .int (giC S q 11), va_re ad (grC S q 12), va_re ad (grC S q 13), .int (giC S q 14), va_re ad (grC S q 15)].set 6 (.int v))) = wsC K ad (siC S q 6 v) := by
  refine wsC_set _ ?_
  unfold cCe
  dsimp only
  rw [h.2]
  rfl
theorem st_3_7 {K : Nat → ClassId} {ad : Nat → Nat} {S : Cst} {q : Nat} (h : iK S q 3) (v : Int32) : (wsC K ad S).set q (ad q, .inr (3, [.int (giC S q 0), .int (giC S q 1), .int (giC S q 2), .int (giC S q 3), .int (giC S q 4), .int (giC S q 5), .int (giC S q 6), .int (giC S q 7), .int (giC S q 8), .int (giC S q 9), .int (giC S q 10), .int (giC S q 11), va_re ad (grC S q 12), va_re ad (grC S q 13), .int (giC S q 14), va_re ad (grC S q 15)].set 7 (.int v))) = wsC K ad (siC S q 7 v) := by
  refine wsC_set _ ?_
  unfold cCe
  dsimp only
  rw [h.2]
  rfl
theorem st_3_8 {K : Nat → ClassId} {ad : Nat → Nat} {S : Cst} {q : Nat} (h : iK S q 3) (v : Int32) : (wsC K ad S).set q (ad q, .inr (3, [.int (giC S q 0), .int (giC S q 1), .int (giC S q 2), .int (giC S q 3), .int (giC S q 4), .int (giC S q 5), .int (giC S q 6), .int (giC S q 7), .int (giC S q 8), .int (giC S q 9), .int (giC S q 10), .int (giC S q 11), va_re ad (grC S q 12), va_re ad (grC S q 13), .int (giC S q 14), va_re ad (grC S q 15)].set 8 (.int v))) = wsC K ad (siC S q 8 v) := by
  refine wsC_set _ ?_
  unfold cCe
  dsimp only
  rw [h.2]
  rfl
theorem st_3_9 {K : Nat → ClassId} {ad : Nat → Nat} {S : Cst} {q : Nat} (h : iK S q 3) (v : Int32) : (wsC K ad S).set q (ad q, .inr (3, [.int (giC S q 0), .int (giC S q 1), .int (giC S q 2), .int (giC S q 3), .int (giC S q 4), .int (giC S q 5), .int (giC S q 6), .int (giC S q 7), .int (giC S q 8), .int (giC S q 9), .int (giC S q 10), .int (giC S q 11), va_re ad (grC S q 12), va_re ad (grC S q 13), .int (giC S q 14), va_re ad (grC S q 15)].set 9 (.int v))) = wsC K ad (siC S q 9 v) := by
  refine wsC_set _ ?_
  unfold cCe
  dsimp only
  rw [h.2]
  rfl
theorem st_3_10 {K : Nat → ClassId} {ad : Nat → Nat} {S : Cst} {q : Nat} (h : iK S q 3) (v : Int32) : (wsC K ad S).set q (ad q, .inr (3, [.int (giC S q 0), .int (giC S q 1), .int (giC S q 2), .int (giC S q 3), .int (giC S q 4), .int (giC S q 5), .int (giC S q 6), .int (giC S q 7), .int (giC S q 8), .int (giC S q 9), .int (giC S q 10), .int (giC S q 11), va_re ad (grC S q 12), va_re ad (grC S q 13), .int (giC S q 14), va_re ad (grC S q 15)].set 10 (.int v))) = wsC K ad (siC S q 10 v) := by
  refine wsC_set _ ?_
  unfold cCe
  dsimp only
  rw [h.2]
  rfl
theorem st_3_11 {K : Nat → ClassId} {ad : Nat → Nat} {S : Cst} {q : Nat} (h : iK S q 3) (v : Int32) : (wsC K ad S).set q (ad q, .inr (3, [.int (giC S q 0), .int (giC S q 1), .int (giC S q 2), .int (giC S q 3), .int (giC S q 4), .int (giC S q 5), .int (giC S q 6), .int (giC S q 7), .int (giC S q 8), .int (giC S q 9), .int (giC S q 10), .int (giC S q 11), va_re ad (grC S q 12), va_re ad (grC S q 13), .int (giC S q 14), va_re ad (grC S q 15)].set 11 (.int v))) = wsC K ad (siC S q 11 v) := by
  refine wsC_set _ ?_
  unfold cCe
  dsimp only
  rw [h.2]
  rfl
theorem st_3_14 {K : Nat → ClassId} {ad : Nat → Nat} {S : Cst} {q : Nat} (h : iK S q 3) (v : Int32) : (wsC K ad S).set q (ad q, .inr (3, [.int (giC S q 0), .int (giC S q 1), .int (giC S q 2), .int (giC S q 3), .int (giC S q 4), .int (giC S q 5), .int (giC S q 6), .int (giC S q 7), .int (giC S q 8), .int (giC S q 9), .int (giC S q 10), .int (giC S q 11), va_re ad (grC S q 12), va_re ad (grC S q 13), .int (giC S q 14), va_re ad (grC S q 15)].set 14 (.int v))) = wsC K ad (siC S q 14 v) := by
  refine wsC_set _ ?_
  unfold cCe
  dsimp only
  rw [h.2]
  rfl
theorem st_3_15 {K : Nat → ClassId} {ad : Nat → Nat} {S : Cst} {q : Nat} (h : iK S q 3) (r : Option Nat) : (wsC K ad S).set q (ad q, .inr (3, [.int (giC S q 0), .int (giC S q 1), .int (giC S q 2), .int (giC S q 3), .int (giC S q 4), .int (giC S q 5), .int (giC S q 6), .int (giC S q 7), .int (giC S q 8), .int (giC S q 9), .int (giC S q 10), .int (giC S q 11), va_re ad (grC S q 12), va_re ad (grC S q 13), .int (giC S q 14), va_re ad (grC S q 15)].set 15 (va_re ad r))) = wsC K ad (srC S q 15 r) := by
  refine wsC_set _ ?_
  unfold cCe
  dsimp only
  rw [h.2]
  rfl
theorem st_4_1 {K : Nat → ClassId} {ad : Nat → Nat} {S : Cst} {q : Nat} (h : iK S q 4) (v : Int32) : (wsC K ad S).set q (ad q, .inr (4, [va_re ad (grC S q 0), .int (giC S q 1)].set 1 (.int v))) = wsC K ad (siC S q 1 v) := by
  refine wsC_set _ ?_
  unfold cCe
  dsimp only
  rw [h.2]
  rfl
theorem st_5_0 {K : Nat → ClassId} {ad : Nat → Nat} {S : Cst} {q : Nat} (h : iK S q 5) (v : Int32) : (wsC K ad S).set q (ad q, .inr (5, [.int (giC S q 0), va_re ad (grC S q 1)].set 0 (.int v))) = wsC K ad (siC S q 0 v) := by
  refine wsC_set _ ?_
  unfold cCe
  dsimp only
  rw [h.2]
  rfl
theorem st_6_1 {K : Nat → ClassId} {ad : Nat → Nat} {S : Cst} {q : Nat} (h : iK S q 6) (v : Int32) : (wsC K ad S).set q (ad q, .inr (6, [va_re ad (grC S q 0), .int (giC S q 1)].set 1 (.int v))) = wsC K ad (siC S q 1 v) := by
  refine wsC_set _ ?_
  unfold cCe
  dsimp only
  rw [h.2]
  rfl
theorem st_7_2 {K : Nat → ClassId} {ad : Nat → Nat} {S : Cst} {q : Nat} (h : iK S q 7) (r : Option Nat) : (wsC K ad S).set q (ad q, .inr (7, [va_re ad (grC S q 0), va_re ad (grC S q 1), va_re ad (grC S q 2), va_re ad (grC S q 3), va_re ad (grC S q 4)].set 2 (va_re ad r))) = wsC K ad (srC S q 2 r) := by
  refine wsC_set _ ?_
  unfold cCe
  dsimp only
  rw [h.2]
  rfl
theorem st_7_3 {K : Nat → ClassId} {ad : Nat → Nat} {S : Cst} {q : Nat} (h : iK S q 7) (r : Option Nat) : (wsC K ad S).set q (ad q, .inr (7, [va_re ad (grC S q 0), va_re ad (grC S q 1), va_re ad (grC S q 2), va_re ad (grC S q 3), va_re ad (grC S q 4)].set 3 (va_re ad r))) = wsC K ad (srC S q 3 r) := by
  refine wsC_set _ ?_
  unfold cCe
  dsimp only
  rw [h.2]
  rfl
theorem sa_20 {K : Nat → ClassId} {ad : Nat → Nat} {S : Cst} {q : Nat} (h : iK S q 20) (i : Nat) (v : Int32) : (wsC K ad S).set q (ad q, .inl (K 0, lnC S q, .inl (upd (giC S q) i v))) = wsC K ad (siC S q i v) := by
  refine wsC_set _ ?_
  unfold cCe
  dsimp only
  rw [h.2]
  rfl
theorem sf_20 {K : Nat → ClassId} {ad : Nat → Nat} {S : Cst} {q : Nat} (h : iK S q 20) (f : Nat → Int32) : (wsC K ad S).set q (ad q, .inl (K 0, lnC S q, .inl f)) = wsC K ad (sfC S q f) := by
  refine wsC_set _ ?_
  unfold cCe
  dsimp only
  rw [h.2]
  rfl
theorem sa_21 {K : Nat → ClassId} {ad : Nat → Nat} {S : Cst} {q : Nat} (h : iK S q 21) (i : Nat) (v : Int32) : (wsC K ad S).set q (ad q, .inl (K 1, lnC S q, .inl (upd (giC S q) i v))) = wsC K ad (siC S q i v) := by
  refine wsC_set _ ?_
  unfold cCe
  dsimp only
  rw [h.2]
  rfl
theorem sf_21 {K : Nat → ClassId} {ad : Nat → Nat} {S : Cst} {q : Nat} (h : iK S q 21) (f : Nat → Int32) : (wsC K ad S).set q (ad q, .inl (K 1, lnC S q, .inl f)) = wsC K ad (sfC S q f) := by
  refine wsC_set _ ?_
  unfold cCe
  dsimp only
  rw [h.2]
  rfl
theorem sa_22 {K : Nat → ClassId} {ad : Nat → Nat} {S : Cst} {q : Nat} (h : iK S q 22) (i : Nat) (v : Int32) : (wsC K ad S).set q (ad q, .inl (K 2, lnC S q, .inl (upd (giC S q) i v))) = wsC K ad (siC S q i v) := by
  refine wsC_set _ ?_
  unfold cCe
  dsimp only
  rw [h.2]
  rfl
theorem sf_22 {K : Nat → ClassId} {ad : Nat → Nat} {S : Cst} {q : Nat} (h : iK S q 22) (f : Nat → Int32) : (wsC K ad S).set q (ad q, .inl (K 2, lnC S q, .inl f)) = wsC K ad (sfC S q f) := by
  refine wsC_set _ ?_
  unfold cCe
  dsimp only
  rw [h.2]
  rfl
theorem sa_23 {K : Nat → ClassId} {ad : Nat → Nat} {S : Cst} {q : Nat} (h : iK S q 23) (i : Nat) (r : Option Nat) : (wsC K ad S).set q (ad q, .inl (K 3, lnC S q, .inr (.inr (.inr (.inr (va_up (fun i => (grC S q i).map ad) i (r.map ad))))))) = wsC K ad (srC S q i r) := by
  refine wsC_set _ ?_
  unfold cCe
  dsimp only
  rw [h.2]
  show Sum.inl (K 3, lnC S q, Sum.inr (Sum.inr (Sum.inr (Sum.inr (va_up (fun i => (grC S q i).map ad) i (r.map ad)))))) = Sum.inl (K 3, lnC S q, Sum.inr (Sum.inr (Sum.inr (Sum.inr (fun j => (va_up (grC S q) i r j).map ad)))))
  congr 7
  funext j
  unfold va_up
  split <;> rfl
theorem sa_24 {K : Nat → ClassId} {ad : Nat → Nat} {S : Cst} {q : Nat} (h : iK S q 24) (i : Nat) (r : Option Nat) : (wsC K ad S).set q (ad q, .inl (K 4, lnC S q, .inr (.inr (.inr (.inr (va_up (fun i => (grC S q i).map ad) i (r.map ad))))))) = wsC K ad (srC S q i r) := by
  refine wsC_set _ ?_
  unfold cCe
  dsimp only
  rw [h.2]
  show Sum.inl (K 4, lnC S q, Sum.inr (Sum.inr (Sum.inr (Sum.inr (va_up (fun i => (grC S q i).map ad) i (r.map ad)))))) = Sum.inl (K 4, lnC S q, Sum.inr (Sum.inr (Sum.inr (Sum.inr (fun j => (va_up (grC S q) i r j).map ad)))))
  congr 7
  funext j
  unfold va_up
  split <;> rfl
theorem ss_23 {K : Nat → ClassId} {ad : Nat → Nat} {S : Cst} {q : Nat} (h : iK S q 23) (i z : Nat) : (wsC K ad S).set q (ad q, .inl (K 3, lnC S q, .inr (.inr (.inr (.inr (va_up (fun i => (grC S q i).map ad) i (some (ad z)))))))) = wsC K ad (srC S q i (some z)) := sa_23 h i (some z)
theorem sn_23 {K : Nat → ClassId} {ad : Nat → Nat} {S : Cst} {q : Nat} (h : iK S q 23) (i : Nat) : (wsC K ad S).set q (ad q, .inl (K 3, lnC S q, .inr (.inr (.inr (.inr (va_up (fun i => (grC S q i).map ad) i none)))))) = wsC K ad (srC S q i none) := sa_23 h i none
theorem ss_24 {K : Nat → ClassId} {ad : Nat → Nat} {S : Cst} {q : Nat} (h : iK S q 24) (i z : Nat) : (wsC K ad S).set q (ad q, .inl (K 4, lnC S q, .inr (.inr (.inr (.inr (va_up (fun i => (grC S q i).map ad) i (some (ad z)))))))) = wsC K ad (srC S q i (some z)) := sa_24 h i (some z)
theorem sn_24 {K : Nat → ClassId} {ad : Nat → Nat} {S : Cst} {q : Nat} (h : iK S q 24) (i : Nat) : (wsC K ad S).set q (ad q, .inl (K 4, lnC S q, .inr (.inr (.inr (.inr (va_up (fun i => (grC S q i).map ad) i none)))))) = wsC K ad (srC S q i none) := sa_24 h i none
theorem re_cat (ad : Nat → Nat) (r : Option Nat) : (va_re ad r).category = 1 := by
  cases r <;> rfl
theorem re_none {ad : Nat → Nat} {r : Option Nat} (h : r = none) : va_re ad r = .null := by rw [h]; rfl
theorem re_some {ad : Nat → Nat} {r : Option Nat} (h : r ≠ none) : va_re ad r = .ref (ad (r.getD 0)) := by
  cases r with
  | none => exact absurd rfl h
  | some x => rfl
theorem re_mk (ad : Nat → Nat) (q : Nat) : Value.ref (ad q) = va_re ad (some q) := rfl
/-- a start over the class's store -/
def cSt (G : va_G) (K : Nat → ClassId) (ad : Nat → Nat) (sz : Nat) (S : Cst) (P : Prop) (U : State) : Prop := wS G K sz (wsC K ad S) U ∧ P
def cBt (G : va_G) (K : Nat → ClassId) (ad : Nat → Nat) (A : Nat → Prop) (u : Cst) (t : State) : Prop := wB G A (wsC K ad u) t
theorem cFB {G : va_G} {K : Nat → ClassId} {ad : Nat → Nat} {sz : Nat} {S : Cst} {P : Prop} {av : List Value} : FrameBlind (va_Pc av (cSt G K ad sz S P)) := fun a U g' mk q => ⟨q.1, (wFB (av := av) a U g' mk ⟨q.1, q.2.1⟩).2, q.2.2⟩
theorem cPV {G : va_G} {K : Nat → ClassId} {ad : Nat → Nat} {S : Cst} {P : Prop} {H : Heap} {s : State} {As : List Value} {A : Nat → Prop} (hK : va_K G vwCl (wTY K) s) (hE : wE s) (hP : va_P G vwCl (wsC K ad S) H) (hD : va_D A (wsC K ad S)) (ci : Nat) {q0 b : Nat} {q : vw_C} {fs : List Value} (hc : vwCl[ci]? = some q) (he : (wsC K ad S)[q0]? = some (b, .inr (ci, fs))) (p : P) : PreV s H q.1 b (va_Pc (.ref b :: As) (cSt G K ad H.size S P)) As :=
  ⟨cFB, va_recv hK hP hc he, fun U hU hW' => ⟨rfl, (((wPS (av := []) hK hE hP hD).2 U hU hW').2), p⟩⟩
theorem cPS {G : va_G} {K : Nat → ClassId} {ad : Nat → Nat} {S : Cst} {P : Prop} {H : Heap} {s : State} {As : List Value} {A : Nat → Prop} (hK : va_K G vwCl (wTY K) s) (hE : wE s) (hP : va_P G vwCl (wsC K ad S) H) (hD : va_D A (wsC K ad S)) (p : P) : PreS s H (va_Pc As (cSt G K ad H.size S P)) As :=
  ⟨cFB, fun U hU hW' => ⟨rfl, (((wPS (av := []) hK hE hP hD).2 U hU hW').2), p⟩⟩
section WC
variable {p : Program} {l : Launch} {e : Env} {R : Room} {s : State} {m : MethodId} {args : Array Value} {below : List Frame} {meth : Method} {c : Code} {H : Heap} {locs : List Loc} {cells slots : Nat} {Q : State → Prop}
variable {pc : Nat} {ls : Array Slot} {rest st0 : List Value} {a : Array Value} {A0 : Nat → Prop} {mc ms : Nat} {G : va_G} {ws : va_W} {K : Nat → ClassId} {ad : Nat → Nat} {cc : ByteArray}
theorem cAload_n {r : Option Nat} (hexec : p.tables.exec = Jvm.exec) (hb : c.code = cc) {k : Fin 4} {i : Nat} (hdg : decode cc pc = .ok (.aload_n k, 1)) (hi : (k : Nat) = i) (hl : ls[i]? = some (.val (va_re ad r))) (k1 : W p l e R s m args below meth c H locs cells slots Q (F0 m (pc + 1) ls (va_re ad r :: rest))) : W p l e R s m args below meth c H locs cells slots Q (F0 m pc ls rest) := by
  cases r with
  | none => exact lv_aload_nN hexec hb hdg hi hl k1
  | some x => exact lv_aload_n hexec hb hdg hi hl k1
theorem cAload {r : Option Nat} (hexec : p.tables.exec = Jvm.exec) (hb : c.code = cc) {i : Nat} (hdg : decode cc pc = .ok (.aload i, 2)) (hl : ls[i]? = some (.val (va_re ad r))) (k1 : W p l e R s m args below meth c H locs cells slots Q (F0 m (pc + 2) ls (va_re ad r :: rest))) : W p l e R s m args below meth c H locs cells slots Q (F0 m pc ls rest) := by
  cases r with
  | none => exact lv_aloadN hexec hb hdg hl k1
  | some x => exact lv_aload hexec hb hdg hl k1
theorem cAstore_n {r : Option Nat} (hexec : p.tables.exec = Jvm.exec) (hb : c.code = cc) {k : Fin 4} {i nL : Nat} {lv lv' : List (Nat × Value)} (hdg : decode cc pc = .ok (.astore_n k, 1)) (hi : (k : Nat) = i) (h : lv_has ls nL lv) (hn : i < nL) (hl : (i, va_re ad r) :: lv.filter (fun q => !(q.1 == i) && !(q.1 + 1 == i && q.2.category == 2)) = lv')
    (k1 : ∀ ls' : Array Slot, lv_has ls' nL lv' → W p l e R s m args below meth c H locs cells slots Q (F0 m (pc + 1) ls' rest)) : W p l e R s m args below meth c H locs cells slots Q (F0 m pc ls (va_re ad r :: rest)) := by
  cases r with
  | none => exact lv_astore_nN hexec hb hdg hi h hn hl k1
  | some x => exact lv_astore_n hexec hb hdg hi h hn hl k1
theorem cAstore {r : Option Nat} (hexec : p.tables.exec = Jvm.exec) (hb : c.code = cc) {i nL : Nat} {lv lv' : List (Nat × Value)} (hdg : decode cc pc = .ok (.astore i, 2)) (h : lv_has ls nL lv) (hn : i < nL) (hl : (i, va_re ad r) :: lv.filter (fun q => !(q.1 == i) && !(q.1 + 1 == i && q.2.category == 2)) = lv')
    (k1 : ∀ ls' : Array Slot, lv_has ls' nL lv' → W p l e R s m args below meth c H locs cells slots Q (F0 m (pc + 2) ls' rest)) : W p l e R s m args below meth c H locs cells slots Q (F0 m pc ls (va_re ad r :: rest)) := by
  cases r with
  | none => exact lv_astoreN hexec hb hdg h hn hl k1
  | some x => exact lv_astore hexec hb hdg h hn hl k1
theorem cIfnull {r : Option Nat} (hexec : p.tables.exec = Jvm.exec) (hb : c.code = cc) {off : Int} {tgt : Nat} (hdg : decode cc pc = .ok (.ifnull off, 3)) (ht : (pc : Int) + off = (tgt : Int)) (k1 : r = none → W p l e R s m args below meth c H locs cells slots Q (F0 m tgt ls rest)) (k2 : ¬ r = none → W p l e R s m args below meth c H locs cells slots Q (F0 m (pc + 3) ls rest)) : W p l e R s m args below meth c H locs cells slots Q (F0 m pc ls (va_re ad r :: rest)) := by
  cases r with
  | none => exact lv_ifnullN hexec hb hdg ht (k1 rfl)
  | some x => exact lv_ifnull hexec hb hdg (k2 (fun h => by cases h))
theorem cIfnonnull {r : Option Nat} (hexec : p.tables.exec = Jvm.exec) (hb : c.code = cc) {off : Int} {tgt : Nat} (hdg : decode cc pc = .ok (.ifnonnull off, 3)) (ht : (pc : Int) + off = (tgt : Int)) (k1 : r = none → W p l e R s m args below meth c H locs cells slots Q (F0 m (pc + 3) ls rest)) (k2 : ¬ r = none → W p l e R s m args below meth c H locs cells slots Q (F0 m tgt ls rest)) : W p l e R s m args below meth c H locs cells slots Q (F0 m pc ls (va_re ad r :: rest)) := by
  cases r with
  | none => exact lv_ifnonnullN hexec hb hdg (k1 rfl)
  | some x => exact lv_ifnonnull hexec hb hdg ht (k2 (fun h => by cases h))
/-- the reference on the top is one -/
theorem cTop {r : Option Nat} (h : r ≠ none) (k : W p l e R s m args below meth c H locs cells slots Q (F0 m pc ls (.ref (ad (r.getD 0)) :: rest))) : W p l e R s m args below meth c H locs cells slots Q (F0 m pc ls (va_re ad r :: rest)) := by
  rw [re_some h]
  exact k
theorem cTop2 {v : Value} {r : Option Nat} (h : r ≠ none) (k : W p l e R s m args below meth c H locs cells slots Q (F0 m pc ls (v :: .ref (ad (r.getD 0)) :: rest))) : W p l e R s m args below meth c H locs cells slots Q (F0 m pc ls (v :: va_re ad r :: rest)) := by
  rw [re_some h]
  exact k
theorem cTop3 {v w : Value} {r : Option Nat} (h : r ≠ none) (k : W p l e R s m args below meth c H locs cells slots Q (F0 m pc ls (v :: w :: .ref (ad (r.getD 0)) :: rest))) : W p l e R s m args below meth c H locs cells slots Q (F0 m pc ls (v :: w :: va_re ad r :: rest)) := by
  rw [re_some h]
  exact k
theorem cTop4 {v0 v1 v2 : Value} {r : Option Nat} (h : r ≠ none) (k : W p l e R s m args below meth c H locs cells slots Q (F0 m pc ls (v0 :: v1 :: v2 :: .ref (ad (r.getD 0)) :: rest))) : W p l e R s m args below meth c H locs cells slots Q (F0 m pc ls (v0 :: v1 :: v2 :: va_re ad r :: rest)) := by
  rw [re_some h]
  exact k
theorem cTop5 {v0 v1 v2 v3 : Value} {r : Option Nat} (h : r ≠ none) (k : W p l e R s m args below meth c H locs cells slots Q (F0 m pc ls (v0 :: v1 :: v2 :: v3 :: .ref (ad (r.getD 0)) :: rest))) : W p l e R s m args below meth c H locs cells slots Q (F0 m pc ls (v0 :: v1 :: v2 :: v3 :: va_re ad r :: rest)) := by
  rw [re_some h]
  exact k
theorem cTop6 {v0 v1 v2 v3 v4 : Value} {r : Option Nat} (h : r ≠ none) (k : W p l e R s m args below meth c H locs cells slots Q (F0 m pc ls (v0 :: v1 :: v2 :: v3 :: v4 :: .ref (ad (r.getD 0)) :: rest))) : W p l e R s m args below meth c H locs cells slots Q (F0 m pc ls (v0 :: v1 :: v2 :: v3 :: v4 :: va_re ad r :: rest)) := by
  rw [re_some h]
  exact k
theorem cTop7 {v0 v1 v2 v3 v4 v5 : Value} {r : Option Nat} (h : r ≠ none) (k : W p l e R s m args below meth c H locs cells slots Q (F0 m pc ls (v0 :: v1 :: v2 :: v3 :: v4 :: v5 :: .ref (ad (r.getD 0)) :: rest))) : W p l e R s m args below meth c H locs cells slots Q (F0 m pc ls (v0 :: v1 :: v2 :: v3 :: v4 :: v5 :: va_re ad r :: rest)) := by
  rw [re_some h]
  exact k
theorem cGoi {S : Cst} {post : Int32 → Cst → Prop} (hr : va_Run p l e R s m args below meth c H locs cells slots mc ms (F0 m pc ls st0) rest (va_Qi post (cBt G K ad (va_A (wsC K ad S) H.size)) (va_A (wsC K ad S) H.size) a) (va_A (wsC K ad S) H.size)) (hP : va_P G vwCl (wsC K ad S) H) (hD : va_D A0 (wsC K ad S)) (hS : va_S A0 s.heap H locs) (hA : ∀ q, s.heap.size ≤ q → A0 q)
    (kk : ∀ (r : Int32) (u : Cst) (H1 : Heap) (locs1 : List Loc), post r u → va_P G vwCl (wsC K ad u) H1 → va_D A0 (wsC K ad u) → va_S A0 s.heap H1 locs1 → W p l e R s m args below meth c H1 locs1 (cells + mc) (slots + ms) Q (F0 m (pc + 3) ls (.int r :: rest))) : W p l e R s m args below meth c H locs cells slots Q (F0 m pc ls st0) := by
  have hz : ∀ q, va_A (wsC K ad S) H.size q → A0 q := fun q hq => by
    rcases hq with ⟨k, e', h1⟩ | h1
    · exact hD.2 k (q, e') h1
    · exact hA q (Nat.le_trans hS.1 h1)
  refine va_calli hr hS (fun q _ h => hz q h) hz (fun r u t H1 locs1 ht _ hw hB' _ _ hS1 => ?_)
  obtain ⟨hP1, hD1⟩ := hB'
  rw [ht] at hP1
  exact kk r u H1 locs1 hw hP1 (hD1.weaken (fun k q _ h => hz q.1 h)) hS1
theorem cGov {S : Cst} {post : Cst → Prop} (hr : va_Run p l e R s m args below meth c H locs cells slots mc ms (F0 m pc ls st0) rest (va_Qv post (cBt G K ad (va_A (wsC K ad S) H.size)) (va_A (wsC K ad S) H.size) a) (va_A (wsC K ad S) H.size)) (hP : va_P G vwCl (wsC K ad S) H) (hD : va_D A0 (wsC K ad S)) (hS : va_S A0 s.heap H locs) (hA : ∀ q, s.heap.size ≤ q → A0 q)
    (kk : ∀ (u : Cst) (H1 : Heap) (locs1 : List Loc), post u → va_P G vwCl (wsC K ad u) H1 → va_D A0 (wsC K ad u) → va_S A0 s.heap H1 locs1 → W p l e R s m args below meth c H1 locs1 (cells + mc) (slots + ms) Q (F0 m (pc + 3) ls rest)) : W p l e R s m args below meth c H locs cells slots Q (F0 m pc ls st0) := by
  have hz : ∀ q, va_A (wsC K ad S) H.size q → A0 q := fun q hq => by
    rcases hq with ⟨k, e', h1⟩ | h1
    · exact hD.2 k (q, e') h1
    · exact hA q (Nat.le_trans hS.1 h1)
  refine va_callv hr hS (fun q _ h => hz q h) hz (fun u t H1 locs1 ht _ hw hB' _ _ hS1 => ?_)
  obtain ⟨hP1, hD1⟩ := hB'
  rw [ht] at hP1
  exact kk u H1 locs1 hw hP1 (hD1.weaken (fun k q _ h => hz q.1 h)) hS1
theorem cGoq {S : Cst} {post : Option Nat → Cst → Prop} (hr : va_Run p l e R s m args below meth c H locs cells slots mc ms (F0 m pc ls st0) rest (va_Qq (fun r u => ∃ r', r = r'.map ad ∧ post r' u) (cBt G K ad (va_A (wsC K ad S) H.size)) (va_A (wsC K ad S) H.size) a) (va_A (wsC K ad S) H.size)) (hP : va_P G vwCl (wsC K ad S) H) (hD : va_D A0 (wsC K ad S)) (hS : va_S A0 s.heap H locs) (hA : ∀ q, s.heap.size ≤ q → A0 q)
    (kk : ∀ (r : Option Nat) (u : Cst) (H1 : Heap) (locs1 : List Loc), post r u → va_P G vwCl (wsC K ad u) H1 → va_D A0 (wsC K ad u) → va_S A0 s.heap H1 locs1 → W p l e R s m args below meth c H1 locs1 (cells + mc) (slots + ms) Q (F0 m (pc + 3) ls (va_re ad r :: rest))) : W p l e R s m args below meth c H locs cells slots Q (F0 m pc ls st0) := by
  have hz : ∀ q, va_A (wsC K ad S) H.size q → A0 q := fun q hq => by
    rcases hq with ⟨k, e', h1⟩ | h1
    · exact hD.2 k (q, e') h1
    · exact hA q (Nat.le_trans hS.1 h1)
  refine va_callq hr hS (fun q _ h => hz q h) hz (fun r u t H1 locs1 ht _ hw hB' _ _ hS1 => ?_)
  obtain ⟨hP1, hD1⟩ := hB'
  rw [ht] at hP1
  obtain ⟨r', e1, e2⟩ := hw
  subst e1
  exact kk r' u H1 locs1 e2 hP1 (hD1.weaken (fun k q _ h => hz q.1 h)) hS1
/-- a reference out of a row, into a row -/
theorem cAald (hexec : p.tables.exec = Jvm.exec) (hb : c.code = cc) {S : Cst} (hK : va_K G vwCl (wTY K) s) (hP : va_P G vwCl (wsC K ad S) H) (q0 t0 : Nat) {x : Nat} {C : String} {n : Nat} {f : Nat → Option Nat} (ha : (wsC K ad S)[q0]? = some (x, .inl (K t0, n, .inr (.inr (.inr (.inr (fun i => (f i).map ad))))))) (ht : (wTY K)[t0]? = some (K t0, .object C)) {i : Int32} (hin : vp_in i n) (hdg : decode cc pc = .ok (.aaload, 1))
    (kk : W p l e R s m args below meth c H locs cells slots Q (F0 m (pc + 1) ls (va_re ad (f i.toNatClampNeg) :: rest))) : W p l e R s m args below meth c H locs cells slots Q (F0 m pc ls (.int i :: .ref x :: rest)) := va_aldq hexec hb hK hP q0 t0 ha ht hin hdg kk
end WC
theorem re_nar (ad : Nat → Nat) (r : Option Nat) (C : String) : narrow (.object C) (va_re ad r) = va_re ad r := by
  cases r <;> rfl
theorem re_fit (ad : Nat → Nat) (r : Option Nat) (C : String) : fits (.object C) (va_re ad r) = true := by
  cases r <;> rfl
theorem pair_i {α : Type} {a b : α} {S : Cst} (h : a = b) : (a, S) = (b, S) := by rw [h]
/-! ===== cells made anew ===== -/
def clS (S : Cst) : Prop := ∀ q, q < S.1 → ∀ k z, grC S q k = some z → z < S.1
def vR (S : Cst) (r : Option Nat) : Prop := ∀ z, r = some z → z < S.1
def dCe : Cel := (0, 0, fun _ => 0, fun _ => none)
def adX (ad : Nat → Nat) (n : Nat) (as : List Nat) : Nat → Nat := fun j => if j < n then ad j else as.getD (j - n) 0
def puC (S : Cst) (cs : List Cel) (sl : Nat) : Cst := (S.1 + cs.length, S.2.1 + sl, fun j => if j < S.1 then S.2.2 j else cs.getD (j - S.1) dCe)
theorem adX_old {ad : Nat → Nat} {n j : Nat} {as : List Nat} (h : j < n) : adX ad n as j = ad j := if_pos h
theorem adX_new {ad : Nat → Nat} {n i : Nat} {as : List Nat} : adX ad n as (n + i) = as.getD i 0 := by
  unfold adX
  rw [if_neg (by omega), Nat.add_sub_cancel_left]
theorem puC_old {S : Cst} {cs : List Cel} {sl j : Nat} (h : j < S.1) : (puC S cs sl).2.2 j = S.2.2 j := if_pos h
theorem puC_new {S : Cst} {cs : List Cel} {sl i : Nat} : (puC S cs sl).2.2 (S.1 + i) = cs.getD i dCe := by
  show (if S.1 + i < S.1 then _ else _) = _
  rw [if_neg (by omega), Nat.add_sub_cancel_left]
theorem re_ad {ad ad' : Nat → Nat} {S : Cst} {r : Option Nat} (h : ∀ q, q < S.1 → ad' q = ad q) (v : vR S r) : va_re ad' r = va_re ad r := by
  cases r with
  | none => rfl
  | some z =>
    show Value.ref (ad' z) = Value.ref (ad z)
    rw [h z (v z rfl)]
theorem cCe_ad {K : Nat → ClassId} {ad ad' : Nat → Nat} {n : Nat} (h : ∀ q, q < n → ad' q = ad q) (c : Cel) (v : ∀ k z, c.2.2.2 k = some z → z < n) : cCe K ad' c = cCe K ad c := by
  unfold cCe
  rw [cKd_g, cKd_g]
  congr 1
  funext k
  cases e : c.2.2.2 k with
  | none => rfl
  | some z =>
    show some (ad' z) = some (ad z)
    rw [h z (v k z e)]
theorem wsC_app {K : Nat → ClassId} {ad : Nat → Nat} {S : Cst} (as : List Nat) (cs : List Cel) (sl : Nat) (hc : clS S) {W' : va_W} (hW : W' = (List.range cs.length).map (fun i => (as.getD i 0, cCe K (adX ad S.1 as) (cs.getD i dCe)))) : wsC K ad S ++ W' = wsC K (adX ad S.1 as) (puC S cs sl) := by
  subst hW
  unfold wsC
  show _ = (List.range (S.1 + cs.length)).map _
  rw [List.range_add, List.map_append, List.map_map]
  congr 1
  · refine List.map_congr_left (fun q hq => ?_)
    have hq := List.mem_range.mp hq
    rw [adX_old hq, puC_old hq, cCe_ad (fun z a => adX_old a) _ (hc q hq)]
  · refine List.map_congr_left (fun i hi => ?_)
    show _ = (adX ad S.1 as (S.1 + i), cCe K (adX ad S.1 as) ((puC S cs sl).2.2 (S.1 + i)))
    rw [adX_new, puC_new]
theorem eN.pu (S : Cst) (cs : List Cel) (sl : Nat) : eN S (puC S cs sl) := ⟨⟨Nat.le_add_right _ _, Nat.le_add_right _ _⟩, fun q a => by
  unfold kdC lnC
  rw [puC_old a]
  exact ⟨rfl, rfl⟩⟩
/-- within a method that makes objects: what stood stands, under the same addresses -/
def nH (S0 : Cst) (ad0 : Nat → Nat) (lc ls : Nat) (S : Cst) (ad : Nat → Nat) : Prop := eN S0 S ∧ (∀ q, q < S0.1 → ad q = ad0 q) ∧ S.1 ≤ lc ∧ S.2.1 ≤ ls
theorem nH.rf {lc ls : Nat} (S0 : Cst) (ad0 : Nat → Nat) (h : S0.1 ≤ lc ∧ S0.2.1 ≤ ls) : nH S0 ad0 lc ls S0 ad0 := ⟨eN.rf S0, fun _ _ => rfl, h⟩
theorem nH.k {lc ls : Nat} {S0 S T : Cst} {ad0 ad : Nat → Nat} (h : nH S0 ad0 lc ls S ad) (g : eK S T) : nH S0 ad0 lc ls T ad := ⟨h.1.tr g.n, h.2.1, by rw [← g.1.1]; exact h.2.2.1, by rw [← g.1.2]; exact h.2.2.2⟩
theorem nH.n {lc ls : Nat} {S0 S T : Cst} {ad0 ad ad' : Nat → Nat} (h : nH S0 ad0 lc ls S ad) (g : eN S T) (a : ∀ q, q < S.1 → ad' q = ad q) (h1 : T.1 ≤ lc) (h2 : T.2.1 ≤ ls) : nH S0 ad0 lc ls T ad' := ⟨h.1.tr g, fun q b => (a q (Nat.lt_of_lt_of_le b h.1.1.1)).trans (h.2.1 q b), h1, h2⟩
section WN
variable {p : Program} {l : Launch} {e : Env} {R : Room} {s : State} {m : MethodId} {args : Array Value} {below : List Frame} {meth : Method} {c : Code} {H : Heap} {locs : List Loc} {cells slots : Nat} {Q : State → Prop}
variable {pc : Nat} {ls : Array Slot} {rest st0 : List Value} {a : Array Value} {A0 : Nat → Prop} {mc ms : Nat} {G : va_G} {ws : va_W} {K : Nat → ClassId} {ad : Nat → Nat} {cc : ByteArray}
theorem cCells {cells' slots' : Nat} {g : JFrame} (h1 : cells = cells') (h2 : slots = slots') (k : W p l e R s m args below meth c H locs cells' slots' Q g) : W p l e R s m args below meth c H locs cells slots Q g := by
  subst h1
  subst h2
  exact k
theorem cNoi {S : Cst} {post : Int32 → Cst × (Nat → Nat) → Prop} (hr : va_Run p l e R s m args below meth c H locs cells slots mc ms (F0 m pc ls st0) rest (va_Qi post (fun u t => cBt G K u.2 (va_A (wsC K ad S) H.size) u.1 t) (va_A (wsC K ad S) H.size) a) (va_A (wsC K ad S) H.size)) (hP : va_P G vwCl (wsC K ad S) H) (hD : va_D A0 (wsC K ad S)) (hS : va_S A0 s.heap H locs) (hA : ∀ q, s.heap.size ≤ q → A0 q)
    (kk : ∀ (r : Int32) (u : Cst × (Nat → Nat)) (H1 : Heap) (locs1 : List Loc), post r u → va_P G vwCl (wsC K u.2 u.1) H1 → va_D A0 (wsC K u.2 u.1) → va_S A0 s.heap H1 locs1 → W p l e R s m args below meth c H1 locs1 (cells + mc) (slots + ms) Q (F0 m (pc + 3) ls (.int r :: rest))) : W p l e R s m args below meth c H locs cells slots Q (F0 m pc ls st0) := by
  have hz : ∀ q, va_A (wsC K ad S) H.size q → A0 q := fun q hq => by
    rcases hq with ⟨k, e', h1⟩ | h1
    · exact hD.2 k (q, e') h1
    · exact hA q (Nat.le_trans hS.1 h1)
  refine va_calli hr hS (fun q _ h => hz q h) hz (fun r u t H1 locs1 ht _ hw hB' _ _ hS1 => ?_)
  obtain ⟨hP1, hD1⟩ := hB'
  rw [ht] at hP1
  exact kk r u H1 locs1 hw hP1 (hD1.weaken (fun k q _ h => hz q.1 h)) hS1
theorem cNov {S : Cst} {post : Cst × (Nat → Nat) → Prop} (hr : va_Run p l e R s m args below meth c H locs cells slots mc ms (F0 m pc ls st0) rest (va_Qv post (fun u t => cBt G K u.2 (va_A (wsC K ad S) H.size) u.1 t) (va_A (wsC K ad S) H.size) a) (va_A (wsC K ad S) H.size)) (hP : va_P G vwCl (wsC K ad S) H) (hD : va_D A0 (wsC K ad S)) (hS : va_S A0 s.heap H locs) (hA : ∀ q, s.heap.size ≤ q → A0 q)
    (kk : ∀ (u : Cst × (Nat → Nat)) (H1 : Heap) (locs1 : List Loc), post u → va_P G vwCl (wsC K u.2 u.1) H1 → va_D A0 (wsC K u.2 u.1) → va_S A0 s.heap H1 locs1 → W p l e R s m args below meth c H1 locs1 (cells + mc) (slots + ms) Q (F0 m (pc + 3) ls rest)) : W p l e R s m args below meth c H locs cells slots Q (F0 m pc ls st0) := by
  have hz : ∀ q, va_A (wsC K ad S) H.size q → A0 q := fun q hq => by
    rcases hq with ⟨k, e', h1⟩ | h1
    · exact hD.2 k (q, e') h1
    · exact hA q (Nat.le_trans hS.1 h1)
  refine va_callv hr hS (fun q _ h => hz q h) hz (fun u t H1 locs1 ht _ hw hB' _ _ hS1 => ?_)
  obtain ⟨hP1, hD1⟩ := hB'
  rw [ht] at hP1
  exact kk u H1 locs1 hw hP1 (hD1.weaken (fun k q _ h => hz q.1 h)) hS1
theorem cNoq {S : Cst} {post : Option Nat → Cst × (Nat → Nat) → Prop} (hr : va_Run p l e R s m args below meth c H locs cells slots mc ms (F0 m pc ls st0) rest (va_Qq (fun r u => ∃ r', r = r'.map u.2 ∧ post r' u) (fun u t => cBt G K u.2 (va_A (wsC K ad S) H.size) u.1 t) (va_A (wsC K ad S) H.size) a) (va_A (wsC K ad S) H.size)) (hP : va_P G vwCl (wsC K ad S) H) (hD : va_D A0 (wsC K ad S)) (hS : va_S A0 s.heap H locs) (hA : ∀ q, s.heap.size ≤ q → A0 q)
    (kk : ∀ (r : Option Nat) (u : Cst × (Nat → Nat)) (H1 : Heap) (locs1 : List Loc), post r u → va_P G vwCl (wsC K u.2 u.1) H1 → va_D A0 (wsC K u.2 u.1) → va_S A0 s.heap H1 locs1 → W p l e R s m args below meth c H1 locs1 (cells + mc) (slots + ms) Q (F0 m (pc + 3) ls (va_re u.2 r :: rest))) : W p l e R s m args below meth c H locs cells slots Q (F0 m pc ls st0) := by
  have hz : ∀ q, va_A (wsC K ad S) H.size q → A0 q := fun q hq => by
    rcases hq with ⟨k, e', h1⟩ | h1
    · exact hD.2 k (q, e') h1
    · exact hA q (Nat.le_trans hS.1 h1)
  refine va_callq hr hS (fun q _ h => hz q h) hz (fun r u t H1 locs1 ht _ hw hB' _ _ hS1 => ?_)
  obtain ⟨hP1, hD1⟩ := hB'
  rw [ht] at hP1
  obtain ⟨r', e1, e2⟩ := hw
  subst e1
  exact kk r' u H1 locs1 e2 hP1 (hD1.weaken (fun k q _ h => hz q.1 h)) hS1
end WN
theorem up_map (ad : Nat → Nat) (f : Nat → Option Nat) (k z : Nat) : (fun i => (va_up f k (some z) i).map ad) = va_up (fun i => (f i).map ad) k (some (ad z)) := by
  funext i
  unfold va_up
  split <;> rfl
section WI
variable {p : Program} {l : Launch} {e : Env} {R : Room} {s : State} {m : MethodId} {args : Array Value} {below : List Frame} {meth : Method} {c : Code} {H : Heap} {locs : List Loc} {cells slots : Nat} {Q : State → Prop}
variable {pc : Nat} {ls : Array Slot} {rest st0 : List Value} {a : Array Value} {A0 : Nat → Prop} {mc ms : Nat} {G : va_G} {ws : va_W} {K : Nat → ClassId} {ad : Nat → Nat} {cc : ByteArray}
/-- a constructor's call over the object just made -/
theorem cInit {x : Nat × va_E} {post : va_W → Prop} (hr : va_Run p l e R s m args below meth c H locs cells slots mc ms (F0 m pc ls st0) rest (va_Qv post (wB G (va_A [x] H.size)) (va_A [x] H.size) a) (va_A [x] H.size)) (hP : va_P G vwCl (ws ++ [x]) H) (hD : va_D A0 (ws ++ [x])) (hS : va_S A0 s.heap H locs) (hA : ∀ q, s.heap.size ≤ q → A0 q)
    (kk : ∀ (u : va_W) (H1 : Heap) (locs1 : List Loc), post u → va_P G vwCl (ws ++ u) H1 → va_D A0 (ws ++ u) → va_S A0 s.heap H1 locs1 → W p l e R s m args below meth c H1 locs1 (cells + mc) (slots + ms) Q (F0 m (pc + 3) ls rest)) : W p l e R s m args below meth c H locs cells slots Q (F0 m pc ls st0) := by
  have hlast : (ws ++ [x])[ws.length]? = some x := by
    rw [List.getElem?_append_right (Nat.le_refl _), Nat.sub_self]
    rfl
  have hold : ∀ (k : Nat) (y : Nat × va_E), ws[k]? = some y → (ws ++ [x])[k]? = some y := fun k y h => by
    rw [List.getElem?_append_left (List.getElem?_eq_some_iff.mp h).1]
    exact h
  have hz : ∀ q, va_A [x] H.size q → A0 q := fun q hq => by
    rcases hq with ⟨k, e', h1⟩ | h1
    · cases k with
      | zero =>
        have e1 : x = (q, e') := Option.some.inj h1
        have := hD.2 ws.length x hlast
        rw [e1] at this
        exact this
      | succ k => cases h1
    · exact hA q (Nat.le_trans hS.1 h1)
  have hne : ∀ (k : Nat) (y : Nat × va_E), ws[k]? = some y → ¬ va_A [x] H.size y.1 := fun k y h hq => by
    rcases hq with ⟨j, e', h1⟩ | h1
    · cases j with
      | zero =>
        have e1 : x = (y.1, e') := Option.some.inj h1
        have := hD.1 k ws.length y x (hold k y h) hlast (by rw [e1])
        have := (List.getElem?_eq_some_iff.mp h).1
        omega
      | succ j => cases h1
    · exact absurd ((hP k y (hold k y h)).lt) (Nat.not_lt.mpr h1)
  refine va_callv hr hS (fun q _ h => hz q h) hz (fun u t H1 locs1 ht _ hw hB' _ hk hS1 => ?_)
  obtain ⟨hP1, hD1⟩ := hB'
  rw [ht] at hP1
  have hPw : va_P G vwCl ws H1 := fun k y h => (hP k y (hold k y h)).kept (hk y.1 ((hP k y (hold k y h)).lt) (hne k y h))
  have hDw : va_D A0 ws := ⟨fun i j y z h1 h2 h3 => hD.1 i j y z (hold i y h1) (hold j z h2) h3, fun k y h => hD.2 k y (hold k y h)⟩
  exact kk u H1 locs1 hw (hPw.app hP1) (hDw.app (hD1.weaken (fun k q _ h => hz q.1 h)) (fun i j y z h1 h2 h3 => hne i y h1 (by rw [h3]; exact hD1.2 j z h2))) hS1
end WI
theorem pu_at {K : Nat → ClassId} {ad : Nat → Nat} (S : Cst) (x : Nat × va_E) : [S.1].filterMap (fun i => (wsC K ad S ++ [x])[i]?) = [x] := by
  have hl : (wsC K ad S).length = S.1 := by
    unfold wsC
    rw [List.length_map, List.length_range]
  have e : (wsC K ad S ++ [x])[S.1]? = some x := by
    rw [List.getElem?_append_right (by omega), hl, Nat.sub_self]
    rfl
  simp [List.filterMap, e]
theorem pu_at2 {K : Nat → ClassId} {ad : Nat → Nat} (S : Cst) (x : Nat × va_E) : [S.1].map (fun i => (wsC K ad S ++ [x])[i]?) = [x].map some := by
  have hl : (wsC K ad S).length = S.1 := by
    unfold wsC
    rw [List.length_map, List.length_range]
  have e : (wsC K ad S ++ [x])[S.1]? = some x := by
    rw [List.getElem?_append_right (by omega), hl, Nat.sub_self]
    rfl
  simp [e]
end
