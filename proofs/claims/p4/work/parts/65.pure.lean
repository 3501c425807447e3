/-! ===== what a reason of 0 says ===== -/
theorem ne0 {x : Int32} (r : x = 0) (h : ¬ x = 0) : False := h r
theorem in_of {v lo hi : Int32} (q : ¬ f_X12_in v lo hi = 0) : lo.toInt ≤ v.toInt ∧ v.toInt ≤ hi.toInt := by
  refine Decidable.byContradiction (fun z => q ?_)
  rw [in_f, if_neg z]
theorem hasDraft_0 {S : HS} {lo hi : Int32} (q : ¬ (f_X11_hasDraft S lo hi).1 = 0) : 1 ≤ (S.1 35).toInt ∧ S.1 36 = 0 ∧ ¬ f_X12_in (S.2 14 (hM S 1 0)) lo hi = 0 := by
  refine ⟨hasDraft_d q, ?_⟩
  have m0 : hM S 1 0 = (S.2 32 (0 : Int32).toNatClampNeg).toNatClampNeg := by rw [zn0]; rfl
  rw [m0]
  unfold f_X11_hasDraft at q
  by_cases z : S.1 35 ≤ 0
  · rw [if_pos z] at q
    exact absurd rfl q
  rw [if_neg z] at q
  by_cases y : S.1 36 = 0
  · rw [if_pos y] at q
    by_cases x : f_X12_in (S.2 14 (S.2 32 (0 : Int32).toNatClampNeg).toNatClampNeg) lo hi = 0
    · rw [if_pos x] at q
      exact absurd rfl q
    · exact ⟨y, x⟩
  · rw [if_neg y] at q
    exact absurd rfl q
theorem rf_105 {S : HS} {x1 x2 x3 x4 x5 : Int32} (r : (b_X11_reason_a105 (f_X11_isSeat S x2).2 x1 x2 x3 x4 x5 (f_X11_isSeat S x2).1).1 = 0) : ¬ (f_X11_isSeat S x2).1 = 0 := fun q => by
  unfold b_X11_reason_a105 at r
  rw [if_pos q] at r
  exact absurd (show (9 : Int32) = 0 from r) (by decide)
theorem rf_129 {S : HS} {x1 x2 x3 x4 x5 : Int32} (r : (b_X11_reason_129 S x1 x2 x3 x4 x5).1 = 0) : ¬ (f_X11_isSeat S x2).1 = 0 := fun q => by
  unfold b_X11_reason_129 b_X11_reason_a134 at r
  rw [if_pos q] at r
  exact absurd (show (9 : Int32) = 0 from r) (by decide)
theorem rf_461 {S : HS} {x1 x2 x3 x4 x5 : Int32} (r : (b_X11_reason_a461 (f_X11_hasDraft S 2 3).2 x1 x2 x3 x4 x5 (f_X11_hasDraft S 2 3).1).1 = 0) : 1 ≤ (S.1 35).toInt ∧ S.1 36 = 0 ∧ 0 ≤ x2.toInt ∧ x2.toInt ≤ x3.toInt ∧ x3.toInt ≤ 400 := by
  rw [hasDraft_s] at r
  unfold b_X11_reason_a461 at r
  by_cases q : (f_X11_hasDraft S 2 3).1 = 0
  · rw [if_pos q] at r
    exact absurd (show (11 : Int32) = 0 from r) (by decide)
  rw [if_neg q] at r
  have d := hasDraft_0 q
  by_cases z1 : S.2 25 (S.2 32 (0 : Int32).toNatClampNeg).toNatClampNeg = 0
  · rw [if_pos z1] at r
    by_cases z2 : f_X12_in x2 0 400 = 0
    · rw [if_pos z2] at r
      exact absurd (show (9 : Int32) = 0 from r) (by decide)
    rw [if_neg z2] at r
    by_cases z3 : f_X12_in x3 0 400 = 0
    · rw [if_pos z3] at r
      exact absurd (show (9 : Int32) = 0 from r) (by decide)
    rw [if_neg z3] at r
    by_cases z4 : x2 ≤ x3
    · have a := in_of z2
      have b := in_of z3
      have e4 : (400 : Int32).toInt = 400 := by decide
      rw [i0] at a
      rw [e4] at b
      exact ⟨d.1, d.2.1, a.1, iLe.mp z4, b.2⟩
    · rw [if_neg z4] at r
      exact absurd (show (9 : Int32) = 0 from r) (by decide)
  · rw [if_neg z1] at r
    exact absurd (show (11 : Int32) = 0 from r) (by decide)
/-- how a count of words is met -/
theorem wd_102 {S : HS} {x1 x2 x3 x4 y0 y1 : Int32} (r : (b_X11_reasonOfWord_102 S x1 x2 x3 x4 y0 y1).1 = 0) (hw : 0 ≤ (S.2 19 (hM S 1 0)).toInt ∧ (S.2 19 (hM S 1 0)).toInt ≤ 400) (a : 0 ≤ y0.toInt ∧ y0.toInt ≤ 1) (b : 1 ≤ y1.toInt ∧ y1.toInt ≤ 3) : (S.2 19 (hM S 1 0)).toInt + y1.toInt + y0.toInt ≤ 400 := by
  have m0 : hM S 1 0 = (S.2 32 (0 : Int32).toNatClampNeg).toNatClampNeg := by rw [zn0]; rfl
  unfold b_X11_reasonOfWord_102 at r
  rw [← m0] at r
  have e1 := iAdd (x := y1) (y := y0) (by omega) (by omega)
  have e2 := iAdd (x := S.2 19 (hM S 1 0)) (y := y1 + y0) (by omega) (by omega)
  have e4 : (400 : Int32).toInt = 400 := by decide
  by_cases z : S.2 19 (hM S 1 0) + (y1 + y0) ≤ 400
  · have z := iLe.mp z
    omega
  · rw [if_neg z] at r
    exact absurd (show (10 : Int32) = 0 from r) (by decide)
theorem wd_71 {S : HS} {x1 x2 x3 x4 : Int32} (r : (b_X11_reasonOfWord_71 S x1 x2 x3 x4).1 = 0) (hw : 0 ≤ (S.2 19 (hM S 1 0)).toInt ∧ (S.2 19 (hM S 1 0)).toInt ≤ 400) : (S.2 19 (hM S 1 0)).toInt + 1 + cW x2 + cW x3 + cW x4 ≤ 400 := by
  have c : ∀ x : Int32, ∀ y : Int32, 1 ≤ y.toInt → y.toInt ≤ 2 → (x = 0 → (y + 0).toInt = y.toInt + cW x) ∧ (¬ x = 0 → (y + 1).toInt = y.toInt + cW x) := fun x y a b => by
    unfold cW
    refine ⟨fun q => ?_, fun q => ?_⟩
    · rw [if_pos q, iAdd (by rw [i0]; omega) (by rw [i0]; omega), i0]
    · rw [if_neg q, iAdd (by rw [i1]; omega) (by rw [i1]; omega), i1]
  have cw : ∀ x, 0 ≤ cW x ∧ cW x ≤ 1 := fun x => by unfold cW; split <;> omega
  have b91 : ∀ y0 y1 : Int32, (b_X11_reasonOfWord_91 S x1 x2 x3 x4 y0 y1).1 = 0 → 1 ≤ y1.toInt → y1.toInt ≤ 2 → (y1 + y0).toInt ≤ 3 → 1 ≤ (y1 + y0).toInt → (S.2 19 (hM S 1 0)).toInt + (y1 + y0).toInt + cW x4 ≤ 400 := fun y0 y1 q a b d e => by
    unfold b_X11_reasonOfWord_91 at q
    unfold cW
    by_cases z : x4 = 0
    · rw [if_pos z] at q
      rw [if_pos z]
      have w := wd_102 q hw (by rw [i0]; omega) ⟨e, d⟩
      rw [i0] at w
      exact w
    · rw [if_neg z] at q
      rw [if_neg z]
      have w := wd_102 q hw (by rw [i1]; omega) ⟨e, d⟩
      rw [i1] at w
      exact w
  have b81 : ∀ y0 y1 : Int32, (b_X11_reasonOfWord_81 S x1 x2 x3 x4 y0 y1).1 = 0 → 1 ≤ (y1 + y0).toInt → (y1 + y0).toInt ≤ 2 → (S.2 19 (hM S 1 0)).toInt + (y1 + y0).toInt + cW x3 + cW x4 ≤ 400 := fun y0 y1 q a b => by
    unfold b_X11_reasonOfWord_81 at q
    have cc := c x3 (y1 + y0) a b
    have cx := cw x3
    by_cases z : x3 = 0
    · rw [if_pos z] at q
      have e := cc.1 z
      have w := b91 0 (y1 + y0) q a b (by omega) (by omega)
      omega
    · rw [if_neg z] at q
      have e := cc.2 z
      have w := b91 1 (y1 + y0) q a b (by omega) (by omega)
      omega
  unfold b_X11_reasonOfWord_71 at r
  have cc := c x2 1 (by rw [i1]; omega) (by rw [i1]; omega)
  have cx := cw x2
  rw [i1] at cc
  by_cases z : x2 = 0
  · rw [if_pos z] at r
    have e := cc.1 z
    have w := b81 0 1 r (by omega) (by omega)
    omega
  · rw [if_neg z] at r
    have e := cc.2 z
    have w := b81 1 1 r (by omega) (by omega)
    omega
theorem rf_word {S : HS} {x1 x2 x3 x4 : Int32} (r : (f_X11_reasonOfWord S x1 x2 x3 x4).1 = 0) (hw : 1 ≤ (S.1 35).toInt → S.1 36 = 0 → 0 ≤ (S.2 19 (hM S 1 0)).toInt ∧ (S.2 19 (hM S 1 0)).toInt ≤ 400) :
    1 ≤ (S.1 35).toInt ∧ S.1 36 = 0 ∧ (S.2 19 (hM S 1 0)).toInt + cW x1 + cW x2 + cW x3 + cW x4 ≤ 400 := by
  unfold f_X11_reasonOfWord at r
  rw [hasDraft_s] at r
  unfold b_X11_reasonOfWord_a6 at r
  by_cases q : (f_X11_hasDraft S 1 5).1 = 0
  · rw [if_pos q] at r
    exact absurd (show (11 : Int32) = 0 from r) (by decide)
  rw [if_neg q] at r
  have d := hasDraft_0 q
  have hw := hw d.1 d.2.1
  refine ⟨d.1, d.2.1, ?_⟩
  have c1 : cW x1 ≤ 1 := by unfold cW; split <;> omega
  have b68 : ¬ (b_X11_reasonOfWord_68 S x1 x2 x3 x4).1 = 0 := fun q => absurd (show (9 : Int32) = 0 from q) (by decide)
  have b71 : (b_X11_reasonOfWord_71 S x1 x2 x3 x4).1 = 0 → (S.2 19 (hM S 1 0)).toInt + cW x1 + cW x2 + cW x3 + cW x4 ≤ 400 := fun q => by
    have w := wd_71 q hw
    omega
  have b55 : (b_X11_reasonOfWord_55 S x1 x2 x3 x4).1 = 0 → (S.2 19 (hM S 1 0)).toInt + cW x1 + cW x2 + cW x3 + cW x4 ≤ 400 := fun q => by
    unfold b_X11_reasonOfWord_55 at q
    by_cases z : x4 = 0
    · rw [if_pos z] at q
      exact b71 q
    · rw [if_neg z] at q
      by_cases y : f_X11_isWord x4 = 0
      · rw [if_pos y] at q
        exact absurd q b68
      · rw [if_neg y] at q
        exact b71 q
  have b44 : (b_X11_reasonOfWord_44 S x1 x2 x3 x4).1 = 0 → (S.2 19 (hM S 1 0)).toInt + cW x1 + cW x2 + cW x3 + cW x4 ≤ 400 := fun q => by
    unfold b_X11_reasonOfWord_44 at q
    by_cases z : x3 = 0
    · rw [if_pos z] at q
      exact b55 q
    · rw [if_neg z] at q
      by_cases y : f_X11_isWord x3 = 0
      · rw [if_pos y] at q
        exact absurd q b68
      · rw [if_neg y] at q
        exact b55 q
  by_cases z1 : S.2 25 (S.2 32 (0 : Int32).toNatClampNeg).toNatClampNeg = 0
  · rw [if_pos z1] at r
    by_cases z2 : f_X11_isWord x1 = 0
    · rw [if_pos z2] at r
      exact absurd r b68
    rw [if_neg z2] at r
    by_cases z3 : x2 = 0
    · rw [if_pos z3] at r
      exact b44 r
    rw [if_neg z3] at r
    by_cases z4 : f_X11_isWord x2 = 0
    · rw [if_pos z4] at r
      exact absurd r b68
    · rw [if_neg z4] at r
      exact b44 r
  · rw [if_neg z1] at r
    exact absurd (show (11 : Int32) = 0 from r) (by decide)
