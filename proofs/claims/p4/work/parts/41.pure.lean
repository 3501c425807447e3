/-! ===== a Hall: reads leave it as it is ===== -/
theorem top_s (S : HS) : (f_X11_top S).2 = S := rfl
theorem seconder_s (S : HS) : (f_X11_hasSeconder S).2 = S := by
  unfold f_X11_hasSeconder
  rw [top_s]
  unfold b_X11_hasSeconder_a8 b_X11_hasSeconder_18
  split <;> rfl
theorem hasDraft_s (S : HS) (lo hi : Int32) : (f_X11_hasDraft S lo hi).2 = S := by
  unfold f_X11_hasDraft b_X11_hasDraft_37 b_X11_hasDraft_38
  repeat' split
  all_goals rfl
theorem isAbout_s (S : HS) (k : Int32) : (f_X11_isAbout S k).2 = S := by
  unfold f_X11_isAbout
  rw [top_s]
  unfold b_X11_isAbout_a17 b_X11_isAbout_39 b_X11_isAbout_57
  repeat' split
  all_goals rfl
theorem seat_s {S : HS} (h : RA S) (a : Int32) : (f_X11_isSeat S a).2 = S := by rw [seat_f h a]
theorem here_s {S : HS} (h : RA S) (a : Int32) : (f_X11_isHere S a).2 = S := by rw [here_f h a]
/-- behind isSeat: where it says so the number is a seat -/
theorem seat_in {S : HS} (h : RA S) {a : Int32} (q : ¬ (f_X11_isSeat S a).1 = 0) : vp_in a 200 := by
  rw [seat_f h a] at q
  dsimp only at q
  by_cases z : 0 ≤ a.toInt ∧ a.toInt < (S.1 0).toInt
  · exact vIn z.1 (by have := h.1.2; omega)
  · rw [if_neg z] at q
    exact absurd rfl q
theorem pend_pos {S : HS} (h : RA S) (q : ¬ S.1 6 = 0) : 1 ≤ (S.1 6).toInt := by
  have q := mt iEq.mpr q
  rw [i0] at q
  have := h.2.1
  omega
theorem pend_gt {S : HS} (q : ¬ S.1 6 ≤ 0) : 1 ≤ (S.1 6).toInt := by
  have q := mt iLe.mpr q
  rw [i0] at q
  omega
/-! ===== the reasons, act by act: every index lies in its row ===== -/
theorem r105 {S : HS} (h : RA S) (x1 x2 x3 x4 x5 : Int32) : p_X11_isSeat S x2 ∧ q_X11_reason_a105 (f_X11_isSeat S x2).2 x1 x2 x3 x4 x5 (f_X11_isSeat S x2).1 := by
  refine ⟨seat_p S x2, ?_⟩
  rw [seat_s h]
  unfold q_X11_reason_a105
  split
  · exact True.intro
  · rename_i q
    refine ⟨seat_in h q, ?_⟩
    split <;> exact True.intro
theorem r129 {S : HS} (h : RA S) (x1 x2 x3 x4 x5 : Int32) : q_X11_reason_129 S x1 x2 x3 x4 x5 := by
  refine ⟨seat_p S x2, ?_⟩
  rw [seat_s h]
  unfold q_X11_reason_a134
  split
  · exact True.intro
  · rename_i q
    refine ⟨seat_in h q, ?_⟩
    split <;> exact True.intro
theorem r260 {S : HS} (h : RA S) (x1 x2 x3 x4 x5 : Int32) : p_X11_isSeat S x2 ∧ q_X11_reason_a260 (f_X11_isSeat S x2).2 x1 x2 x3 x4 x5 (f_X11_isSeat S x2).1 := by
  refine ⟨seat_p S x2, ?_⟩
  rw [seat_s h]
  unfold q_X11_reason_a260
  split
  · exact True.intro
  rename_i q
  refine ⟨seat_in h q, ?_⟩
  split
  · exact True.intro
  split
  · exact True.intro
  split
  · split
    · exact True.intro
    rename_i z
    have hp := pend_pos h z
    have t := top_in h hp
    refine ⟨top_p h hp, ?_⟩
    rw [top_s]
    refine ⟨vIn t.1 t.2, ?_⟩
    split
    · exact True.intro
    refine ⟨top_p h hp, ?_⟩
    rw [top_s]
    refine ⟨vIn t.1 t.2, ?_⟩
    split
    · split
      · exact True.intro
      refine ⟨top_p h hp, ?_⟩
      rw [top_s]
      refine ⟨vIn t.1 t.2, ?_⟩
      split <;> exact True.intro
    · exact True.intro
  · exact True.intro
theorem r407 {S : HS} (h : RA S) (hp : 1 ≤ (S.1 6).toInt) (x1 x2 x3 x4 x5 : Int32) : p_X11_hasSeconder S ∧ q_X11_reason_a407 (f_X11_hasSeconder S).2 x1 x2 x3 x4 x5 (f_X11_hasSeconder S).1 := by
  refine ⟨seconder_p h hp, ?_⟩
  rw [seconder_s]
  unfold q_X11_reason_a407
  have t := top_in h hp
  split
  · exact True.intro
  refine ⟨top_p h hp, ?_⟩
  rw [top_s]
  refine ⟨vIn t.1 t.2, in_p _ _ _, ?_⟩
  split <;> exact True.intro
theorem r461 {S : HS} (h : RA S) (x1 x2 x3 x4 x5 : Int32) : p_X11_hasDraft S 2 3 ∧ q_X11_reason_a461 (f_X11_hasDraft S 2 3).2 x1 x2 x3 x4 x5 (f_X11_hasDraft S 2 3).1 := by
  refine ⟨hasDraft_p h 2 3, ?_⟩
  rw [hasDraft_s]
  unfold q_X11_reason_a461
  split
  · exact True.intro
  rename_i q
  have hd : 1 ≤ (S.1 35).toInt := by
    refine Decidable.byContradiction (fun z => q ?_)
    unfold f_X11_hasDraft b_X11_hasDraft_37 b_X11_hasDraft_38
    rw [if_pos (iLe.mpr (by rw [i0]; omega))]
  have d := draft0_in h hd
  refine ⟨vIn (by rw [i0]; omega) (by rw [i0]; omega), vIn d.1 d.2, ?_⟩
  split
  · refine ⟨in_p _ _ _, ?_⟩
    split
    · exact True.intro
    refine ⟨in_p _ _ _, ?_⟩
    split
    · exact True.intro
    split <;> exact True.intro
  · exact True.intro
theorem r593 {S : HS} (h : RA S) (hp : 1 ≤ (S.1 6).toInt) (x1 x2 x3 x4 x5 : Int32) : p_X11_isSeat S x2 ∧ q_X11_reason_a593 (f_X11_isSeat S x2).2 x1 x2 x3 x4 x5 (f_X11_isSeat S x2).1 := by
  refine ⟨seat_p S x2, ?_⟩
  rw [seat_s h]
  unfold q_X11_reason_a593
  have t := top_in h hp
  split
  · exact True.intro
  rename_i q
  refine ⟨seat_in h q, ?_⟩
  split
  · exact True.intro
  refine ⟨seconder_p h hp, ?_⟩
  rw [seconder_s]
  unfold q_X11_reason_a615
  split
  · refine ⟨top_p h hp, ?_⟩
    rw [top_s]
    refine ⟨vIn t.1 t.2, ?_⟩
    split
    · exact True.intro
    refine ⟨top_p h hp, ?_⟩
    rw [top_s]
    refine ⟨vIn t.1 t.2, ?_⟩
    split
    · exact True.intro
    split <;> exact True.intro
  · exact True.intro
theorem r676 {S : HS} (h : RA S) (hp : 1 ≤ (S.1 6).toInt) (x1 x2 x3 x4 x5 : Int32) : p_X11_isSeat S x2 ∧ q_X11_reason_a676 (f_X11_isSeat S x2).2 x1 x2 x3 x4 x5 (f_X11_isSeat S x2).1 := by
  refine ⟨seat_p S x2, ?_⟩
  rw [seat_s h]
  unfold q_X11_reason_a676
  split
  · exact True.intro
  rename_i q
  refine ⟨in_p _ _ _, ?_⟩
  split
  · exact True.intro
  refine ⟨seat_in h q, ?_⟩
  split
  · exact True.intro
  refine ⟨seconder_p h hp, ?_⟩
  rw [seconder_s]
  unfold q_X11_reason_a707
  split <;> exact True.intro
theorem r734 {S : HS} (h : RA S) (hp : 1 ≤ (S.1 6).toInt) (x1 x2 x3 x4 x5 : Int32) : p_X11_top S ∧ q_X11_reason_a734 (f_X11_top S).2 x1 x2 x3 x4 x5 (f_X11_top S).1 := by
  have t := top_in h hp
  refine ⟨top_p h hp, ?_⟩
  rw [top_s]
  refine ⟨vIn t.1 t.2, ?_⟩
  split
  · exact True.intro
  refine ⟨top_p h hp, ?_⟩
  rw [top_s]
  refine ⟨vIn t.1 t.2, ?_⟩
  split
  · refine ⟨here_p h x2, ?_⟩
    rw [here_s h]
    unfold q_X11_reason_a760
    split <;> exact True.intro
  · exact True.intro
theorem r778 {S : HS} (h : RA S) (x1 x2 x3 x4 x5 : Int32) : p_X11_isHere S (S.1 2) ∧ q_X11_reason_a778 (f_X11_isHere S (S.1 2)).2 x1 x2 x3 x4 x5 (f_X11_isHere S (S.1 2)).1 := by
  refine ⟨here_p h _, ?_⟩
  rw [here_s h]
  unfold q_X11_reason_a778
  split
  · exact True.intro
  split
  · exact True.intro
  rename_i z
  have hp := pend_pos h z
  have t := top_in h hp
  refine ⟨top_p h hp, ?_⟩
  rw [top_s]
  refine ⟨vIn t.1 t.2, ?_⟩
  split
  · exact True.intro
  split <;> exact True.intro
theorem r845 {S : HS} (h : RA S) (hp : 1 ≤ (S.1 6).toInt) (x1 x2 x3 x4 x5 : Int32) : p_X11_top S ∧ q_X11_reason_a845 (f_X11_top S).2 x1 x2 x3 x4 x5 (f_X11_top S).1 := by
  have t := top_in h hp
  refine ⟨top_p h hp, ?_⟩
  rw [top_s]
  refine ⟨vIn t.1 t.2, ?_⟩
  split
  · refine ⟨seconder_p h hp, ?_⟩
    rw [seconder_s]
    unfold q_X11_reason_a855
    split
    · refine ⟨seat_p S x2, ?_⟩
      rw [seat_s h]
      unfold q_X11_reason_a866
      split
      · exact True.intro
      rename_i q
      refine ⟨seat_in h q, ?_⟩
      split
      · exact True.intro
      split <;> exact True.intro
    · exact True.intro
  · exact True.intro
theorem r906 {S : HS} (h : RA S) (x1 x2 x3 x4 x5 : Int32) : p_X11_isHere S (S.1 2) ∧ q_X11_reason_a906 (f_X11_isHere S (S.1 2)).2 x1 x2 x3 x4 x5 (f_X11_isHere S (S.1 2)).1 := by
  refine ⟨here_p h _, ?_⟩
  rw [here_s h]
  unfold q_X11_reason_a906
  split
  · exact True.intro
  split <;> exact True.intro
theorem r936 {S : HS} (h : RA S) (x1 x2 x3 x4 x5 : Int32) : p_X11_isHere S (S.1 2) ∧ q_X11_reason_a936 (f_X11_isHere S (S.1 2)).2 x1 x2 x3 x4 x5 (f_X11_isHere S (S.1 2)).1 := by
  refine ⟨here_p h _, ?_⟩
  rw [here_s h]
  unfold q_X11_reason_a936
  split <;> exact True.intro
/-- every reason but word's, lay's and move's, which are asked for -/
theorem reason_p {S : HS} (h : RA S) (x1 x2 x3 x4 x5 : Int32) (hw : p_X11_reasonOfWord S x2 x3 x4 x5) (hl : p_X11_reasonOfLay S x2) (hm : p_X11_reasonOfMove S x2) : p_X11_reason S x1 x2 x3 x4 x5 := by
  unfold p_X11_reason
  by_cases c1 : x1 = 1
  · rw [if_pos c1]; exact r105 h ..
  rw [if_neg c1]
  by_cases c2 : x1 = 2
  · rw [if_pos c2]; exact r129 h ..
  rw [if_neg c2]
  by_cases c3 : x1 = 3
  · rw [if_pos c3]
    refine ⟨in_p _ _ _, ?_⟩
    repeat' split
    all_goals exact True.intro
  rw [if_neg c3]
  by_cases c4 : x1 = 4
  · rw [if_pos c4]; exact r129 h ..
  rw [if_neg c4]
  by_cases c5 : x1 = 5
  · rw [if_pos c5]
    refine ⟨in_p _ _ _, ?_⟩
    split
    · exact True.intro
    refine ⟨in_p _ _ _, ?_⟩
    repeat' split
    all_goals exact True.intro
  rw [if_neg c5]
  by_cases c6 : x1 = 6
  · rw [if_pos c6]
    refine ⟨in_p _ _ _, ?_⟩
    repeat' split
    all_goals exact True.intro
  rw [if_neg c6]
  by_cases c7 : x1 = 7
  · rw [if_pos c7]; exact r260 h ..
  rw [if_neg c7]
  by_cases c8 : x1 = 8
  · rw [if_pos c8]
    repeat' split
    all_goals exact True.intro
  rw [if_neg c8]
  by_cases c9 : x1 = 9
  · rw [if_pos c9]
    split
    · exact True.intro
    rename_i z
    have hp := pend_pos h z
    split
    · exact True.intro
    split
    · exact r407 h hp ..
    · exact True.intro
  rw [if_neg c9]
  by_cases c10 : x1 = 10
  · rw [if_pos c10]
    refine ⟨in_p _ _ _, ?_⟩
    repeat' split
    all_goals exact True.intro
  rw [if_neg c10]
  by_cases c11 : x1 = 11
  · rw [if_pos c11]; exact r461 h ..
  rw [if_neg c11]
  by_cases c12 : x1 = 12
  · rw [if_pos c12]; exact ⟨hw, True.intro⟩
  rw [if_neg c12]
  by_cases c13 : x1 = 13
  · rw [if_pos c13]; exact ⟨hl, True.intro⟩
  rw [if_neg c13]
  by_cases c14 : x1 = 14
  · rw [if_pos c14]
    refine ⟨in_p _ _ _, ?_⟩
    split
    · exact True.intro
    rename_i q
    have q2 : 0 ≤ x2.toInt ∧ x2.toInt ≤ 7 := by
      refine Decidable.byContradiction (fun z => q ?_)
      rw [in_f, if_neg]
      have e7 : (7 : Int32).toInt = 7 := by decide
      rw [i0, e7]
      exact z
    split
    · exact True.intro
    · refine ⟨vIn q2.1 (by omega), ?_⟩
      split <;> exact True.intro
  rw [if_neg c14]
  by_cases c15 : x1 = 15
  · rw [if_pos c15]; exact ⟨hm, True.intro⟩
  rw [if_neg c15]
  by_cases c16 : x1 = 16
  · rw [if_pos c16]
    split
    · exact True.intro
    · rename_i z
      exact r593 h (pend_pos h z) ..
  rw [if_neg c16]
  by_cases c17 : x1 = 17
  · rw [if_pos c17]
    split
    · exact True.intro
    · rename_i z
      exact r676 h (pend_pos h z) ..
  rw [if_neg c17]
  by_cases c18 : x1 = 18
  · rw [if_pos c18]
    split
    · exact True.intro
    · rename_i z
      exact r734 h (pend_pos h z) ..
  rw [if_neg c18]
  by_cases c19 : x1 = 19
  · rw [if_pos c19]; exact r778 h ..
  rw [if_neg c19]
  by_cases c20 : x1 = 20
  · rw [if_pos c20]
    split
    · exact True.intro
    · rename_i z
      exact r845 h (pend_pos h z) ..
  rw [if_neg c20]
  by_cases c21 : x1 = 21
  · rw [if_pos c21]; exact r906 h ..
  rw [if_neg c21]
  exact r936 h ..
