/-! ===== what lay's reason of 0 says ===== -/
theorem fp_e {S : HS} {p : Nat} (hp : p < 8) (h0 : S.2 34 p = 0) (h1 : ∀ q, q < 8 → q ≠ p → S.2 34 q ≠ 0) : ∀ (n : Nat) (y x : Int32), 0 ≤ x.toInt → x.toInt ≤ 8 → 8 - x.toInt < n → y.toInt = (if (p : Int) < x.toInt then 1 else 0) → (lp_X11_freePlaces_4 n S y x).1 = 1 := by
  intro n
  induction n with
  | zero => intro y x a b c d; omega
  | succ n ih =>
    intro y x a b c d
    rw [lp_X11_freePlaces_4]
    unfold st_X11_freePlaces_4
    have e8 : (8 : Int32).toInt = 8 := by decide
    by_cases z : 8 ≤ x
    · rw [if_pos z]
      have z := iLe.mp z
      rw [e8] at z
      rw [if_pos (by omega)] at d
      exact iEq.mpr (by rw [i1]; exact d)
    rw [if_neg z]
    have z := mt iLe.mpr z
    rw [e8] at z
    have e := iAdd (x := x) (y := 1) (by rw [i1]; omega) (by rw [i1]; omega)
    rw [i1] at e
    have k := iNat a
    by_cases w : S.2 34 x.toNatClampNeg = 0
    · rw [if_pos w]
      have xp : x.toNatClampNeg = p := Classical.byContradiction (fun q => h1 _ (by omega) q w)
      rw [if_neg (by omega)] at d
      refine ih (y + 1) (x + 1) (by omega) (by omega) (by omega) ?_
      rw [iAdd (by rw [i1]; omega) (by rw [i1]; omega), i1, if_pos (by omega)]
      omega
    · rw [if_neg w]
      have xp : x.toNatClampNeg ≠ p := fun q => w (by rw [q]; exact h0)
      refine ih (y + 0) (x + 1) (by omega) (by omega) (by omega) ?_
      have hy : 0 ≤ y.toInt ∧ y.toInt ≤ 1 := by
        rw [d]
        split <;> omega
      rw [iAdd (by rw [i0]; omega) (by rw [i0]; omega), i0, d]
      by_cases v : (p : Int) < x.toInt
      · rw [if_pos v, if_pos (by omega)]
        omega
      · rw [if_neg v, if_neg (by omega)]
        omega
theorem wants_e {S : HS} (h6 : (S.1 6).toInt ≤ 9) : ∀ (n : Nat) (x : Int32), 0 ≤ x.toInt → x.toInt ≤ 9 → 9 - x.toInt < n → (lp_X11_wantsPlace_2 n S x).1 = 0 → ∀ i : Nat, x.toInt ≤ i → (i : Int) < (S.1 6).toInt → ¬ (S.2 14 (hM S 0 i) = 4 ∨ S.2 14 (hM S 0 i) = 5 ∨ S.2 14 (hM S 0 i) = 7) := by
  intro n
  induction n with
  | zero => intro x a b c; omega
  | succ n ih =>
    intro x a b c r i u v
    rw [lp_X11_wantsPlace_2] at r
    unfold st_X11_wantsPlace_2 at r
    by_cases z : S.1 6 ≤ x
    · have z := iLe.mp z
      omega
    rw [if_neg z] at r
    have z := mt iLe.mpr z
    have e := iAdd (x := x) (y := 1) (by rw [i1]; omega) (by rw [i1]; omega)
    rw [i1] at e
    have k := iNat a
    by_cases z4 : S.2 14 (S.2 31 x.toNatClampNeg).toNatClampNeg = 4
    · rw [if_pos z4] at r
      exact absurd (show (1 : Int32) = 0 from r) (by decide)
    rw [if_neg z4] at r
    by_cases z5 : S.2 14 (S.2 31 x.toNatClampNeg).toNatClampNeg = 5
    · rw [if_pos z5] at r
      exact absurd (show (1 : Int32) = 0 from r) (by decide)
    rw [if_neg z5] at r
    by_cases z7 : S.2 14 (S.2 31 x.toNatClampNeg).toNatClampNeg = 7
    · rw [if_pos z7] at r
      exact absurd (show (1 : Int32) = 0 from r) (by decide)
    rw [if_neg z7] at r
    by_cases w : i = x.toNatClampNeg
    · subst w
      exact fun q => by
        rcases q with q | q | q
        · exact z4 q
        · exact z5 q
        · exact z7 q
    · exact ih (x + 1) (by omega) (by omega) (by omega) r i (by omega) v
theorem hasDraft_1 {S : HS} (hd : 1 ≤ (S.1 35).toInt) (ht : S.1 36 = 0) (hk : S.2 14 (S.2 32 (0 : Int32).toNatClampNeg).toNatClampNeg = 2 ∨ S.2 14 (S.2 32 (0 : Int32).toNatClampNeg).toNatClampNeg = 3) : (f_X11_hasDraft S 2 3).1 = 1 := by
  unfold f_X11_hasDraft
  rw [if_neg (fun q => by have q := iLe.mp q; rw [i0] at q; omega), if_pos ht, if_neg]
  · rfl
  · rw [in_f, if_pos]
    · decide
    · rcases hk with q | q <;> rw [q] <;> decide
theorem rf_lay {S : HS} (h : RA S) {x : Int32} (r : (f_X11_reasonOfLay S x).1 = 0) : (0 ≤ x.toInt ∧ x.toInt ≤ 7) ∧ 1 ≤ (S.1 35).toInt ∧ (S.2 34 x.toNatClampNeg).toInt ≤ 0 ∧
    (S.1 36 = 0 → S.2 25 (S.2 32 (0 : Int32).toNatClampNeg).toNatClampNeg = 0 → (S.2 14 (S.2 32 (0 : Int32).toNatClampNeg).toNatClampNeg = 2 ∨ S.2 14 (S.2 32 (0 : Int32).toNatClampNeg).toNatClampNeg = 3) → 1 ≤ (S.1 6).toInt) ∧ ((f_X11_freePlaces S).1 = 1 → (f_X11_wantsPlace S).1 = 0) := by
  unfold f_X11_reasonOfLay at r
  by_cases z1 : f_X12_in x 0 7 = 0
  · rw [if_pos z1] at r
    exact absurd (show (9 : Int32) = 0 from r) (by decide)
  rw [if_neg z1] at r
  by_cases z2 : S.1 35 = 0
  · rw [if_pos z2] at r
    exact absurd (show (11 : Int32) = 0 from r) (by decide)
  rw [if_neg z2] at r
  have z2 := mt iEq.mpr z2
  rw [i0] at z2
  have hd : 1 ≤ (S.1 35).toInt := by have := h.2.2.1; omega
  by_cases z3 : S.2 34 x.toNatClampNeg ≤ 0
  · rw [if_pos z3, hasDraft_s] at r
    have z3 := iLe.mp z3
    rw [i0] at z3
    have b100 : (b_X11_reasonOfLay_100 S x).1 = 0 → ((f_X11_freePlaces S).1 = 1 → (f_X11_wantsPlace S).1 = 0) := fun q a => by
      unfold b_X11_reasonOfLay_100 at q
      rw [freePlaces_s] at q
      unfold b_X11_reasonOfLay_a104 at q
      rw [if_pos a, wantsPlace_s] at q
      unfold b_X11_reasonOfLay_a112 at q
      refine Classical.byContradiction (fun w => ?_)
      rw [if_neg w] at q
      exact absurd (show (10 : Int32) = 0 from q) (by decide)
    refine ⟨in_07 z1, hd, z3, ?_⟩
    unfold b_X11_reasonOfLay_a38 at r
    by_cases z4 : (f_X11_hasDraft S 2 3).1 = 0
    · rw [if_pos z4] at r
      refine ⟨fun a b c => ?_, b100 r⟩
      rw [hasDraft_1 hd a c] at z4
      exact absurd z4 (by decide)
    rw [if_neg z4] at r
    by_cases z5 : S.2 25 (S.2 32 (0 : Int32).toNatClampNeg).toNatClampNeg = 0
    · rw [if_pos z5, isAbout_s] at r
      unfold b_X11_reasonOfLay_a70 at r
      by_cases z6 : (f_X11_isAbout S (S.2 14 (S.2 32 (0 : Int32).toNatClampNeg).toNatClampNeg)).1 = 0
      · rw [if_pos z6] at r
        exact absurd (show (1 : Int32) = 0 from r) (by decide)
      rw [if_neg z6, top_s] at r
      unfold b_X11_reasonOfLay_a94 at r
      refine ⟨fun _ _ _ => isAbout_pos h z6, ?_⟩
      by_cases z7 : S.2 21 (S.2 32 (0 : Int32).toNatClampNeg).toNatClampNeg ≤ S.2 19 (f_X11_top S).1.toNatClampNeg
      · rw [if_pos z7] at r
        exact b100 r
      · rw [if_neg z7] at r
        exact absurd (show (5 : Int32) = 0 from r) (by decide)
    · rw [if_neg z5] at r
      exact ⟨fun _ b => absurd b z5, b100 r⟩
  · rw [if_neg z3] at r
    exact absurd (show (11 : Int32) = 0 from r) (by decide)
theorem lay_w {N : Int} {S : HS} (h : HI N S) {x : Int32} (r : (f_X11_reasonOfLay S x).1 = 0) : wP S → ∃ q, q < 8 ∧ q ≠ x.toNatClampNeg ∧ S.2 34 q = 0 := by
  obtain ⟨a1, a2, a3, a4, a5⟩ := rf_lay h.ra r
  rintro ⟨i, b, c⟩
  have k := iNat a1.1
  have n := h.1.1 (x.toNatClampNeg + 2) (by omega)
  have e : hN S (x.toNatClampNeg + 2) = (S.2 34 x.toNatClampNeg).toInt := rfl
  have z : S.2 34 x.toNatClampNeg = 0 := iEq.mpr (by rw [i0]; omega)
  have n6 := h.ra.2.1
  refine Classical.byContradiction (fun w => ?_)
  have f := fp_e (S := S) (p := x.toNatClampNeg) (by omega) z (fun q y1 y2 y3 => w ⟨q, y1, y2, y3⟩) 100000 0 0 (by rw [i0]; omega) (by rw [i0]; omega) (by rw [i0]; omega) (by rw [i0, if_neg (by omega)])
  have g := a5 f
  exact wants_e n6.2 100000 0 (by rw [i0]; omega) (by rw [i0]; omega) (by rw [i0]; omega) g i (by rw [i0]; omega) b.2 c
/-! ===== what move's reason of 0 says ===== -/
theorem free_0 {S : HS} : ∀ (n : Nat) (x : Int32), 0 ≤ x.toInt → x.toInt ≤ 8 → 8 - x.toInt < n → (lp_X11_free_2 n S x).1 ≠ -1 → ∃ p, p < 8 ∧ S.2 34 p = 0 := by
  intro n
  induction n with
  | zero => intro x a b c; omega
  | succ n ih =>
    intro x a b c r
    rw [lp_X11_free_2] at r
    unfold st_X11_free_2 at r
    have e8 : (8 : Int32).toInt = 8 := by decide
    by_cases z : 8 ≤ x
    · rw [if_pos z] at r
      exact absurd rfl r
    rw [if_neg z] at r
    have z := mt iLe.mpr z
    rw [e8] at z
    have e := iAdd (x := x) (y := 1) (by rw [i1]; omega) (by rw [i1]; omega)
    rw [i1] at e
    have k := iNat a
    by_cases w : S.2 34 x.toNatClampNeg = 0
    · exact ⟨_, by omega, w⟩
    · rw [if_neg w] at r
      exact ih (x + 1) (by omega) (by omega) (by omega) r
theorem isAbout_k {S : HS} {k : Int32} (q : ¬ (f_X11_isAbout S k).1 = 0) : (k = 2 → S.2 14 (f_X11_top S).1.toNatClampNeg = 1 ∨ S.2 14 (f_X11_top S).1.toNatClampNeg = 4 ∨ S.2 14 (f_X11_top S).1.toNatClampNeg = 5) ∧ (¬ k = 2 → S.2 14 (f_X11_top S).1.toNatClampNeg = 2) := by
  unfold f_X11_isAbout at q
  by_cases z : S.1 6 = 0
  · rw [if_pos z] at q
    exact absurd rfl q
  rw [if_neg z, top_s] at q
  unfold b_X11_isAbout_a17 at q
  refine ⟨fun y => ?_, fun y => ?_⟩
  · rw [if_pos y] at q
    by_cases a : S.2 14 (f_X11_top S).1.toNatClampNeg = 1
    · exact Or.inl a
    rw [if_neg a] at q
    by_cases b : S.2 14 (f_X11_top S).1.toNatClampNeg = 4
    · exact Or.inr (Or.inl b)
    rw [if_neg b] at q
    by_cases c : S.2 14 (f_X11_top S).1.toNatClampNeg = 5
    · exact Or.inr (Or.inr c)
    rw [if_neg c] at q
    exact absurd rfl q
  · rw [if_neg y] at q
    by_cases a : S.2 14 (f_X11_top S).1.toNatClampNeg = 2
    · exact a
    rw [if_neg a] at q
    exact absurd rfl q
theorem mr_70 {S : HS} (x1 x2 x3 : Int32) (h6 : 0 ≤ (S.1 6).toInt ∧ (S.1 6).toInt ≤ 9) : ∀ (n : Nat) (x4 x5 : Int32), 0 ≤ x5.toInt → x5.toInt ≤ 9 → 9 - x5.toInt < n → (lp_X11_reasonOfMove_70 n S x1 x2 x3 x4 x5).1 = 0 → 1 ≤ (S.1 6).toInt ∧ (b_X11_reasonOfMove_127 S x1 x2 x3).1 = 0 := by
  intro n
  induction n with
  | zero => intro x4 x5 a b c; omega
  | succ n ih =>
    intro x4 x5 a b c r
    rw [lp_X11_reasonOfMove_70] at r
    unfold st_X11_reasonOfMove_70 at r
    by_cases z : S.1 6 ≤ x5
    · rw [if_pos z] at r
      dsimp only at r
      by_cases y : S.1 6 = 0
      · rw [if_pos y] at r
        exact absurd (show (1 : Int32) = 0 from r) (by decide)
      rw [if_neg y] at r
      have y := mt iEq.mpr y
      rw [i0] at y
      by_cases w : x4 = 0
      · rw [if_pos w] at r
        exact ⟨by omega, r⟩
      · rw [if_neg w] at r
        exact absurd (show (1 : Int32) = 0 from r) (by decide)
    rw [if_neg z] at r
    have z := mt iLe.mpr z
    have e := iAdd (x := x5) (y := 1) (by rw [i1]; omega) (by rw [i1]; omega)
    rw [i1] at e
    have g : ∀ y, (lp_X11_reasonOfMove_70 n S x1 x2 x3 y (x5 + 1)).1 = 0 → _ := fun y => ih y (x5 + 1) (by omega) (by omega) (by omega)
    by_cases w : x4 = 0
    · rw [if_pos w] at r
      by_cases v : S.2 14 (S.2 31 x5.toNatClampNeg).toNatClampNeg < x3
      · rw [if_pos v] at r
        exact g 0 r
      · rw [if_neg v] at r
        exact g 1 r
    · rw [if_neg w] at r
      exact g 1 r
