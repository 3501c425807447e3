/-! ===== word's reason ===== -/
theorem hasDraft_d {S : HS} {lo hi : Int32} (q : ¬ (f_X11_hasDraft S lo hi).1 = 0) : 1 ≤ (S.1 35).toInt := by
  refine Decidable.byContradiction (fun z => q ?_)
  unfold f_X11_hasDraft b_X11_hasDraft_37 b_X11_hasDraft_38
  rw [if_pos (iLe.mpr (by rw [i0]; omega))]
theorem isWord_p (x : Int32) : p_X11_isWord x := ⟨in_p _ _ _, in_b _ _ _, True.intro⟩
theorem w102 {S : HS} (h : RA S) (hd : 1 ≤ (S.1 35).toInt) (x1 x2 x3 x4 y0 y1 : Int32) : q_X11_reasonOfWord_102 S x1 x2 x3 x4 y0 y1 := by
  have d := draft0_in h hd
  refine ⟨vIn (by rw [i0]; omega) (by rw [i0]; omega), vIn d.1 d.2, ?_⟩
  split <;> exact True.intro
theorem w71 {S : HS} (h : RA S) (hd : 1 ≤ (S.1 35).toInt) (x1 x2 x3 x4 : Int32) : q_X11_reasonOfWord_71 S x1 x2 x3 x4 := by
  unfold q_X11_reasonOfWord_71 q_X11_reasonOfWord_81 q_X11_reasonOfWord_91
  repeat' split
  all_goals exact w102 h hd ..
theorem w55 {S : HS} (h : RA S) (hd : 1 ≤ (S.1 35).toInt) (x1 x2 x3 x4 : Int32) : q_X11_reasonOfWord_55 S x1 x2 x3 x4 := by
  unfold q_X11_reasonOfWord_55
  split
  · exact w71 h hd ..
  · refine ⟨isWord_p _, ?_⟩
    split
    · exact True.intro
    · exact w71 h hd ..
theorem w44 {S : HS} (h : RA S) (hd : 1 ≤ (S.1 35).toInt) (x1 x2 x3 x4 : Int32) : q_X11_reasonOfWord_44 S x1 x2 x3 x4 := by
  unfold q_X11_reasonOfWord_44
  split
  · exact w55 h hd ..
  · refine ⟨isWord_p _, ?_⟩
    split
    · exact True.intro
    · exact w55 h hd ..
theorem word_p {S : HS} (h : RA S) (x1 x2 x3 x4 : Int32) : p_X11_reasonOfWord S x1 x2 x3 x4 := by
  refine ⟨hasDraft_p h 1 5, ?_⟩
  rw [hasDraft_s]
  unfold q_X11_reasonOfWord_a6
  split
  · exact True.intro
  rename_i q
  have hd := hasDraft_d q
  have d := draft0_in h hd
  refine ⟨vIn (by rw [i0]; omega) (by rw [i0]; omega), vIn d.1 d.2, ?_⟩
  split
  · refine ⟨isWord_p _, ?_⟩
    split
    · exact True.intro
    split
    · exact w44 h hd ..
    · refine ⟨isWord_p _, ?_⟩
      split
      · exact True.intro
      · exact w44 h hd ..
  · exact True.intro
/-! ===== the free places, counted ===== -/
theorem freePlaces_q (S : HS) : ∀ (n : Nat) (y x : Int32), 0 ≤ x.toInt → x.toInt ≤ 8 → 8 - x.toInt < n → lq_X11_freePlaces_4 n S y x := by
  intro n
  induction n with
  | zero => intro y x h1 h2 h3; omega
  | succ n ih =>
    intro y x h1 h2 h3
    rw [lq_X11_freePlaces_4]
    unfold ps_X11_freePlaces_4 st_X11_freePlaces_4
    by_cases c : 8 ≤ x
    · rw [if_pos c, if_pos c]
      exact ⟨True.intro, True.intro⟩
    · rw [if_neg c, if_neg c]
      have c := mt iLe.mpr c
      have e8 : (8 : Int32).toInt = 8 := by decide
      rw [e8] at c
      refine ⟨⟨vIn h1 (by omega), by split <;> exact True.intro⟩, ?_⟩
      have e := iAdd (x := x) (y := 1) (by rw [i1]; omega) (by rw [i1]; omega)
      rw [i1] at e
      by_cases z : S.2 34 x.toNatClampNeg = 0
      · rw [if_pos z]
        exact ih _ (x + 1) (by omega) (by omega) (by omega)
      · rw [if_neg z]
        exact ih _ (x + 1) (by omega) (by omega) (by omega)
theorem freePlaces_p (S : HS) : p_X11_freePlaces S := freePlaces_q S 100000 0 0 (by rw [i0]; omega) (by rw [i0]; omega) (by rw [i0]; omega)
theorem freePlaces_l (S : HS) : ∀ (n : Nat) (y x : Int32), (lp_X11_freePlaces_4 n S y x).2 = S := by
  intro n
  induction n with
  | zero => intro y x; rfl
  | succ n ih =>
    intro y x
    rw [lp_X11_freePlaces_4]
    unfold st_X11_freePlaces_4
    by_cases c : 8 ≤ x
    · rw [if_pos c]
    · rw [if_neg c]
      by_cases z : S.2 34 x.toNatClampNeg = 0
      · rw [if_pos z]
        exact ih _ _
      · rw [if_neg z]
        exact ih _ _
theorem freePlaces_s (S : HS) : (f_X11_freePlaces S).2 = S := freePlaces_l S 100000 0 0
/-! ===== whether a PENDING one wants a place ===== -/
theorem wantsPlace_q {S : HS} (h : RA S) : ∀ (n : Nat) (x : Int32), 0 ≤ x.toInt → x.toInt ≤ (S.1 6).toInt → (S.1 6).toInt - x.toInt < n → lq_X11_wantsPlace_2 n S x := by
  intro n
  induction n with
  | zero => intro x h1 h2 h3; omega
  | succ n ih =>
    intro x h1 h2 h3
    rw [lq_X11_wantsPlace_2]
    unfold ps_X11_wantsPlace_2 st_X11_wantsPlace_2
    have hp := h.2.1
    by_cases c : S.1 6 ≤ x
    · rw [if_pos c, if_pos c]
      exact ⟨True.intro, True.intro⟩
    · rw [if_neg c, if_neg c]
      have c := mt iLe.mpr c
      have hx : vp_in x 9 := vIn h1 (by omega)
      have r := h.2.2.2.1 x.toNatClampNeg (by rw [iNat h1]; omega)
      have hr : vp_in (S.2 31 x.toNatClampNeg) 90 := vIn r.1 r.2
      have e := iAdd (x := x) (y := 1) (by rw [i1]; omega) (by rw [i1]; omega)
      rw [i1] at e
      refine ⟨⟨hx, hr, ?_⟩, ?_⟩
      · split
        · exact True.intro
        · refine ⟨hx, hr, ?_⟩
          split
          · exact True.intro
          · refine ⟨hx, hr, ?_⟩
            split <;> exact True.intro
      · by_cases z4 : S.2 14 (S.2 31 x.toNatClampNeg).toNatClampNeg = 4
        · rw [if_pos z4]; exact True.intro
        rw [if_neg z4]
        by_cases z5 : S.2 14 (S.2 31 x.toNatClampNeg).toNatClampNeg = 5
        · rw [if_pos z5]; exact True.intro
        rw [if_neg z5]
        by_cases z7 : S.2 14 (S.2 31 x.toNatClampNeg).toNatClampNeg = 7
        · rw [if_pos z7]; exact True.intro
        rw [if_neg z7]
        exact ih (x + 1) (by omega) (by omega) (by omega)
theorem wantsPlace_p {S : HS} (h : RA S) : p_X11_wantsPlace S := wantsPlace_q h 100000 0 (by rw [i0]; omega) (by rw [i0]; have := h.2.1; omega) (by rw [i0]; have := h.2.1; omega)
theorem wantsPlace_l (S : HS) : ∀ (n : Nat) (x : Int32), (lp_X11_wantsPlace_2 n S x).2 = S := by
  intro n
  induction n with
  | zero => intro x; rfl
  | succ n ih =>
    intro x
    rw [lp_X11_wantsPlace_2]
    unfold st_X11_wantsPlace_2
    by_cases c : S.1 6 ≤ x
    · rw [if_pos c]
    · rw [if_neg c]
      by_cases z4 : S.2 14 (S.2 31 x.toNatClampNeg).toNatClampNeg = 4
      · rw [if_pos z4]; rfl
      rw [if_neg z4]
      by_cases z5 : S.2 14 (S.2 31 x.toNatClampNeg).toNatClampNeg = 5
      · rw [if_pos z5]; rfl
      rw [if_neg z5]
      by_cases z7 : S.2 14 (S.2 31 x.toNatClampNeg).toNatClampNeg = 7
      · rw [if_pos z7]; rfl
      rw [if_neg z7]
      exact ih _
theorem wantsPlace_s (S : HS) : (f_X11_wantsPlace S).2 = S := wantsPlace_l S 100000 0
/-! ===== lay's reason ===== -/
theorem isAbout_pos {S : HS} (h : RA S) {k : Int32} (q : ¬ (f_X11_isAbout S k).1 = 0) : 1 ≤ (S.1 6).toInt := by
  by_cases z : S.1 6 = 0
  · exact absurd (by unfold f_X11_isAbout; rw [if_pos z]) q
  · exact pend_pos h z
theorem l100 {S : HS} (h : RA S) (x : Int32) : q_X11_reasonOfLay_100 S x := by
  refine ⟨freePlaces_p S, ?_⟩
  rw [freePlaces_s]
  unfold q_X11_reasonOfLay_a104
  split
  · refine ⟨wantsPlace_p h, ?_⟩
    rw [wantsPlace_s]
    unfold q_X11_reasonOfLay_a112
    split <;> exact True.intro
  · exact True.intro
theorem in_07 {x : Int32} (q : ¬ f_X12_in x 0 7 = 0) : 0 ≤ x.toInt ∧ x.toInt ≤ 7 := by
  refine Decidable.byContradiction (fun z => q ?_)
  rw [in_f, if_neg]
  have e7 : (7 : Int32).toInt = 7 := by decide
  rw [i0, e7]
  exact z
theorem lay_p {S : HS} (h : RA S) (x : Int32) : p_X11_reasonOfLay S x := by
  refine ⟨in_p _ _ _, ?_⟩
  split
  · exact True.intro
  rename_i q
  have q2 := in_07 q
  split
  · exact True.intro
  refine ⟨vIn q2.1 (by omega), ?_⟩
  split
  · refine ⟨hasDraft_p h 2 3, ?_⟩
    rw [hasDraft_s]
    unfold q_X11_reasonOfLay_a38
    split
    · exact l100 h x
    rename_i z
    have d := draft0_in h (hasDraft_d z)
    have d0 : vp_in 0 9 := vIn (by rw [i0]; omega) (by rw [i0]; omega)
    refine ⟨d0, vIn d.1 d.2, ?_⟩
    split
    · refine ⟨d0, vIn d.1 d.2, isAbout_p h _, ?_⟩
      rw [isAbout_s]
      unfold q_X11_reasonOfLay_a70
      split
      · exact True.intro
      rename_i y
      have hp := isAbout_pos h y
      have t := top_in h hp
      refine ⟨d0, vIn d.1 d.2, top_p h hp, ?_⟩
      rw [top_s]
      refine ⟨vIn t.1 t.2, ?_⟩
      split
      · exact l100 h x
      · exact True.intro
    · exact l100 h x
  · exact True.intro
