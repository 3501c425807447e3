theorem m_desk {M : MS} (h : MI M) (x1 x2 : Int32) : p_X12_desk M x1 x2 ∧ MI (f_X12_desk M x1 x2).2 := by
  unfold p_X12_desk f_X12_desk
  by_cases z : f_X12_in x1 0 7 = 0
  · rw [if_pos z, if_pos z]
    exact ⟨⟨in_p _ _ _, True.intro⟩, h⟩
  rw [if_neg z, if_neg z]
  by_cases y : f_X12_in x2 0 5 = 0
  · rw [if_pos y, if_pos y]
    exact ⟨⟨in_p _ _ _, in_p _ _ _, True.intro⟩, h⟩
  rw [if_neg y, if_neg y]
  have a := in_07 z
  have v8 : vp_in x1 8 := vIn a.1 (by omega)
  by_cases w : M.2.1.2 34 x1.toNatClampNeg = 0
  · rw [if_pos w, if_pos w]
    exact ⟨⟨in_p _ _ _, in_p _ _ _, v8, True.intro⟩, h⟩
  rw [if_neg w, if_neg w]
  have l := lies h.1 a w
  have vs : vp_in (M.2.1.2 33 (9 * x1).toNatClampNeg) 90 := vIn l.2.1.1 l.2.1.2
  refine (fun (q : (if x2 = 0 then _ else _) ∧ _) => ⟨⟨in_p _ _ _, in_p _ _ _, v8, l.1, v8, q.1⟩, q.2⟩) ?_
  by_cases c0 : x2 = 0
  · rw [if_pos c0, if_pos c0]
    by_cases t : M.2.1.2 37 x1.toNatClampNeg = 0
    · rw [if_pos t, if_pos t]
      split
      · exact ⟨⟨vs, True.intro⟩, h⟩
      · exact ⟨⟨vs, True.intro⟩, h⟩
    · rw [if_neg t, if_neg t]
      exact ⟨True.intro, h⟩
  rw [if_neg c0, if_neg c0]
  by_cases c1 : x2 = 1
  · rw [if_pos c1, if_pos c1]
    by_cases t : M.2.1.2 37 x1.toNatClampNeg = 0
    · rw [if_pos t, if_pos t]
      exact ⟨⟨vs, True.intro⟩, h⟩
    · rw [if_neg t, if_neg t]
      exact ⟨True.intro, h⟩
  rw [if_neg c1, if_neg c1]
  by_cases c2 : x2 = 2
  · rw [if_pos c2, if_pos c2]
    exact ⟨⟨vs, True.intro⟩, h⟩
  rw [if_neg c2, if_neg c2]
  by_cases c3 : x2 = 3
  · rw [if_pos c3, if_pos c3]
    by_cases t : M.2.1.2 37 x1.toNatClampNeg = 0
    · rw [if_pos t, if_pos t]
      exact ⟨⟨vs, True.intro⟩, h⟩
    · rw [if_neg t, if_neg t]
      exact ⟨True.intro, h⟩
  rw [if_neg c3, if_neg c3]
  by_cases c4 : x2 = 4
  · rw [if_pos c4, if_pos c4]
    by_cases t : M.2.1.2 37 x1.toNatClampNeg = 0
    · rw [if_pos t, if_pos t]
      exact ⟨⟨vs, True.intro⟩, h⟩
    · rw [if_neg t, if_neg t]
      exact ⟨True.intro, h⟩
  rw [if_neg c4, if_neg c4]
  by_cases t : M.2.1.2 37 x1.toNatClampNeg = 0
  · rw [if_pos t, if_pos t]
    split
    · exact ⟨⟨vs, True.intro⟩, h⟩
    · exact ⟨⟨vs, True.intro⟩, h⟩
  · rw [if_neg t, if_neg t]
    exact ⟨True.intro, h⟩
/-! ===== the model's other Hall ===== -/
theorem e600 : (600 : Int32).toInt = 600 := by decide
theorem sp_begin {M : MS} (h : MI M) : p_X11_begin M.2.2 (M.2.1.1 0) ∧ MI (mS M (f_X11_begin M.2.2 (M.2.1.1 0)).2) ∧ HA (f_X11_begin M.2.2 (M.2.1.1 0)).2 := by
  have b := begin_i h.2.1 h.1.1.2.2.1
  exact ⟨b.1, h.spare b.2.1.hb, b.2.1⟩
theorem m_before {M : MS} (h : MI M) (x1 x2 x3 : Int32) : p_X12_before M x1 x2 x3 ∧ MI (f_X12_before M x1 x2 x3).2 := by
  unfold p_X12_before f_X12_before
  by_cases z : f_X12_in x1 0 (M.2.1.1 7) = 0
  · rw [if_pos z, if_pos z]
    exact ⟨⟨in_p _ _ _, True.intro⟩, h⟩
  rw [if_neg z, if_neg z]
  have a := in_of z
  rw [i0] at a
  have n7 := h.1.2.1
  have b := sp_begin h
  generalize (f_X11_begin M.2.2 (M.2.1.1 0)).2 = B at b
  unfold q_X12_before_a31 b_X12_before_a31
  have f := follow_i (M.2.1.2 40) (x2 := x1) (by omega) 100000 B 0 b.2.2 (by rw [i0]; omega) (by rw [i0]; omega) (by rw [i0]; omega)
  have ff : p_X11_follow (M.2.1.2 40) B x1 ∧ HA (f_X11_follow (M.2.1.2 40) B x1).2 := f
  clear f
  have e1 : (mS M B).2.1 = M.2.1 := rfl
  have e2 : (mS M B).2.2 = B := rfl
  rw [e1, e2]
  generalize (f_X11_follow (M.2.1.2 40) B x1).2 = C at ff
  have t := text_i ff.2 x2 x3
  have e3 : (mS (mS M B) C).2.2 = C := rfl
  rw [e3, t.2]
  exact ⟨⟨in_p _ _ _, b.1, ff.1, t.1, True.intro⟩, h.spare ff.2.hb⟩
theorem again_l : ∀ (n : Nat) (M : MS) (x : Int32), MI M → HA M.2.2 → 0 ≤ x.toInt → x.toInt ≤ 600 → 600 - x.toInt < n → lq_X12_again_16 n M x ∧ MI (lp_X12_again_16 n M x).2 := by
  intro n
  induction n with
  | zero => intro M x h g a b c; omega
  | succ n ih =>
    intro M x h g a b c
    rw [lq_X12_again_16, lp_X12_again_16]
    unfold ps_X12_again_16 st_X12_again_16
    by_cases z : M.2.1.1 7 ≤ x
    · rw [if_pos z, if_pos z]
      exact ⟨⟨True.intro, True.intro⟩, h⟩
    rw [if_neg z, if_neg z]
    have z := mt iLe.mpr z
    have n7 := h.1.2.1
    have e := iAdd (x := x) (y := 1) (by rw [i1]; omega) (by rw [i1]; omega)
    rw [i1] at e
    have hx : 0 ≤ x.toInt ∧ x.toInt < 600 := by omega
    have ac := act_i g (M.2.1.2 40 (6 * x).toNatClampNeg) (M.2.1.2 40 ((6 * x) + 1).toNatClampNeg) (M.2.1.2 40 ((6 * x) + 2).toNatClampNeg) (M.2.1.2 40 ((6 * x) + 3).toNatClampNeg) (M.2.1.2 40 ((6 * x) + 4).toNatClampNeg)
    generalize f_X11_act M.2.2 (M.2.1.2 40 (6 * x).toNatClampNeg) (M.2.1.2 40 ((6 * x) + 1).toNatClampNeg) (M.2.1.2 40 ((6 * x) + 2).toNatClampNeg) (M.2.1.2 40 ((6 * x) + 3).toNatClampNeg) (M.2.1.2 40 ((6 * x) + 4).toNatClampNeg) = R at ac
    have h' : MI (mS M R.2) := h.spare ac.2.hb
    have e3 : (mS M R.2).2.1 = M.2.1 := rfl
    have i := ih (mS M R.2) (x + 1) h' ac.2 (by omega) (by omega) (by omega)
    unfold q_X12_again_a92 b_X12_again_a92
    rw [e3]
    by_cases y : R.1 = M.2.1.2 40 ((6 * x) + 5).toNatClampNeg
    · rw [if_pos y, if_pos y]
      exact ⟨⟨⟨(c6 hx (k := 1) (by decide)).1, (c6 hx (by decide)).2, (c6 hx (by decide)).2, (c6 hx (by decide)).2, (c6 hx (by decide)).2, ac.1, (c6 hx (by decide)).2, True.intro⟩, i.1⟩, i.2⟩
    · rw [if_neg y, if_neg y]
      exact ⟨⟨⟨(c6 hx (k := 1) (by decide)).1, (c6 hx (by decide)).2, (c6 hx (by decide)).2, (c6 hx (by decide)).2, (c6 hx (by decide)).2, ac.1, (c6 hx (by decide)).2, True.intro⟩, True.intro⟩, h'⟩
theorem m_again {M : MS} (h : MI M) : p_X12_again M ∧ MI (f_X12_again M).2 := by
  unfold p_X12_again f_X12_again q_X12_again_a14 b_X12_again_a14
  have b := sp_begin h
  generalize (f_X11_begin M.2.2 (M.2.1.1 0)).2 = B at b
  have g := again_l 100000 (mS M B) 0 b.2.1 b.2.2 (by rw [i0]; omega) (by rw [i0]; omega) (by rw [i0]; omega)
  exact ⟨⟨b.1, g.1⟩, g.2⟩
theorem numbers_b (y : Int32) : f_X12_numbers y = -1 ∨ (0 ≤ (f_X12_numbers y).toInt ∧ (f_X12_numbers y).toInt ≤ 4) := by
  unfold f_X12_numbers b_X12_numbers_94 b_X12_numbers_90 b_X12_numbers_88 b_X12_numbers_109
  repeat' split
  all_goals first | exact Or.inl rfl | exact Or.inr (by decide)
/-- what checking one told entry leaves -/
def cK (M : MS) (x : Int32) (r : (Int32 × MS) ⊕ (MS × Int32)) : Prop := (∃ v M', r = Sum.inl (v, M') ∧ MI M') ∨ (∃ M', r = Sum.inr (M', x + 1) ∧ MI M' ∧ HA M'.2.2 ∧ M'.1 = M.1)
theorem check_51 {x : Int32} (hx : 0 ≤ x.toInt ∧ x.toInt < 600) : ∀ (n : Nat) (M : MS) (x3 x4 : Int32), MI M → HA M.2.2 → 0 ≤ x4.toInt → x4.toInt ≤ 5 → 5 - x4.toInt < n → lq_X12_check_51 n M x (6 * x) x3 x4 ∧ cK M x (lp_X12_check_51 n M x (6 * x) x3 x4) := by
  intro n
  induction n with
  | zero => intro M x3 x4 h g a b c; omega
  | succ n ih =>
    intro M x3 x4 h g a b c
    rw [lq_X12_check_51, lp_X12_check_51]
    unfold ps_X12_check_51 st_X12_check_51
    have e4 : (4 : Int32).toInt = 4 := by decide
    by_cases z : 4 < x4
    · rw [if_pos z, if_pos z]
      have ac := act_i g (M.1.2 5 (6 * x).toNatClampNeg) (M.1.2 5 ((6 * x) + 1).toNatClampNeg) (M.1.2 5 ((6 * x) + 2).toNatClampNeg) (M.1.2 5 ((6 * x) + 3).toNatClampNeg) (M.1.2 5 ((6 * x) + 4).toNatClampNeg)
      generalize f_X11_act M.2.2 (M.1.2 5 (6 * x).toNatClampNeg) (M.1.2 5 ((6 * x) + 1).toNatClampNeg) (M.1.2 5 ((6 * x) + 2).toNatClampNeg) (M.1.2 5 ((6 * x) + 3).toNatClampNeg) (M.1.2 5 ((6 * x) + 4).toNatClampNeg) = R at ac
      have h' : MI (mS M R.2) := h.spare ac.2.hb
      have e3 : (mS M R.2).1 = M.1 := rfl
      unfold q_X12_check_a122 b_X12_check_a122
      rw [e3]
      by_cases y : R.1 < 0
      · rw [if_pos y, if_pos y]
        exact ⟨⟨⟨(c6 hx (k := 1) (by decide)).1, (c6 hx (by decide)).2, (c6 hx (by decide)).2, (c6 hx (by decide)).2, (c6 hx (by decide)).2, ac.1, True.intro⟩, True.intro⟩, Or.inl ⟨_, _, rfl, h'⟩⟩
      rw [if_neg y, if_neg y]
      by_cases w : R.1 = M.1.2 5 ((6 * x) + 5).toNatClampNeg
      · rw [if_pos w, if_pos w]
        exact ⟨⟨⟨(c6 hx (k := 1) (by decide)).1, (c6 hx (by decide)).2, (c6 hx (by decide)).2, (c6 hx (by decide)).2, (c6 hx (by decide)).2, ac.1, (c6 hx (by decide)).2, True.intro⟩, True.intro⟩, Or.inr ⟨_, rfl, h', ac.2, rfl⟩⟩
      · rw [if_neg w, if_neg w]
        exact ⟨⟨⟨(c6 hx (k := 1) (by decide)).1, (c6 hx (by decide)).2, (c6 hx (by decide)).2, (c6 hx (by decide)).2, (c6 hx (by decide)).2, ac.1, (c6 hx (by decide)).2, True.intro⟩, True.intro⟩, Or.inl ⟨_, _, rfl, h'⟩⟩
    rw [if_neg z, if_neg z]
    have z := mt iLt.mpr z
    rw [e4] at z
    have e := iAdd (x := x4) (y := 1) (by rw [i1]; omega) (by rw [i1]; omega)
    rw [i1] at e
    have v := (c6 hx (k := x4) ⟨a, b⟩).2
    by_cases y : M.1.2 5 ((6 * x) + x4).toNatClampNeg = 0
    · rw [if_pos y, if_pos y]
      have i := ih M x3 (x4 + 1) h g (by omega) (by omega) (by omega)
      exact ⟨⟨⟨v, True.intro⟩, i.1⟩, i.2⟩
    · rw [if_neg y, if_neg y]
      exact ⟨⟨⟨v, True.intro⟩, True.intro⟩, Or.inl ⟨_, _, rfl, h⟩⟩
theorem check_16 : ∀ (n : Nat) (M : MS) (x : Int32), MI M → HA M.2.2 → 0 ≤ x.toInt → x.toInt ≤ 600 → 600 - x.toInt < n → lq_X12_check_16 n M x ∧ MI (lp_X12_check_16 n M x).2 := by
  intro n
  induction n with
  | zero => intro M x h g a b c; omega
  | succ n ih =>
    intro M x h g a b c
    rw [lq_X12_check_16, lp_X12_check_16]
    unfold ps_X12_check_16 st_X12_check_16
    by_cases z : M.1.1 6 ≤ x
    · rw [if_pos z, if_pos z]
      exact ⟨⟨True.intro, True.intro⟩, h⟩
    rw [if_neg z, if_neg z]
    have z := mt iLe.mpr z
    have n6 := h.2.2.1
    have e := iAdd (x := x) (y := 1) (by rw [i1]; omega) (by rw [i1]; omega)
    rw [i1] at e
    have hx : 0 ≤ x.toInt ∧ x.toInt < 600 := by omega
    have v := (c6 hx (k := 1) (by decide)).1
    have np := numbers_p (M.1.2 5 (6 * x).toNatClampNeg)
    have nb := numbers_b (M.1.2 5 (6 * x).toNatClampNeg)
    generalize f_X12_numbers (M.1.2 5 (6 * x).toNatClampNeg) = k at nb
    by_cases y : k = -1
    · rw [if_pos y, if_pos y]
      exact ⟨⟨⟨v, np, True.intro⟩, True.intro⟩, h⟩
    rw [if_neg y, if_neg y]
    have nb := nb.resolve_left y
    have ek := iAdd (x := k) (y := 1) (by rw [i1]; omega) (by rw [i1]; omega)
    rw [i1] at ek
    have q := check_51 hx 100000 M k (k + 1) h g (by omega) (by omega) (by omega)
    obtain ⟨q1, q2⟩ := q
    generalize lp_X12_check_51 100000 M x (6 * x) k (k + 1) = r at q2
    rcases q2 with ⟨w, M', q3, q4⟩ | ⟨M', q3, q4, q5, q6⟩
    · rw [q3]
      exact ⟨⟨⟨v, np, q1⟩, True.intro⟩, q4⟩
    · rw [q3]
      have i := ih M' (x + 1) q4 q5 (by omega) (by omega) (by omega)
      exact ⟨⟨⟨v, np, q1⟩, i.1⟩, i.2⟩
theorem m_check {M : MS} (h : MI M) : p_X12_check M ∧ MI (f_X12_check M).2 := by
  unfold p_X12_check f_X12_check q_X12_check_a14 b_X12_check_a14
  have b := sp_begin h
  generalize (f_X11_begin M.2.2 (M.2.1.1 0)).2 = B at b
  have g := check_16 100000 (mS M B) 0 b.2.1 b.2.2 (by rw [i0]; omega) (by rw [i0]; omega) (by rw [i0]; omega)
  exact ⟨⟨b.1, g.1⟩, g.2⟩
/-! ===== images ===== -/
theorem e3600 : (3600 : Int32).toInt = 3600 := by decide
theorem im_in {x1 y : Int32} (h1 : 0 ≤ x1.toInt ∧ x1.toInt ≤ 1) (hy : 0 ≤ y.toInt ∧ y.toInt < 3600) : vp_in ((3600 * x1) + y) 7200 ∧ ((3600 * x1) + y).toInt = 3600 * x1.toInt + y.toInt := by
  have m := iMul (x := 3600) (y := x1) (n := 3600 * x1.toInt) (by rw [e3600]) (by omega) (by omega)
  have a := iAdd (x := 3600 * x1) (y := y) (by rw [m]; omega) (by rw [m]; omega)
  rw [m] at a
  exact ⟨vIn (by omega) (by omega), a⟩
theorem mi_4 {M : MS} (h : MI M) (i : Nat) (v : Int32) : MI (mO M (sA M.1 4 i v)) := h
theorem image_l {x1 : Int32} (h1 : 0 ≤ x1.toInt ∧ x1.toInt ≤ 1) : ∀ (n : Nat) (M : MS) (x : Int32), MI M → 0 ≤ x.toInt → x.toInt ≤ 3600 → 3600 - x.toInt < n → lq_X12_image_40 n M x1 x ∧ MI (lp_X12_image_40 n M x1 x).2 := by
  intro n
  induction n with
  | zero => intro M x h a b c; omega
  | succ n ih =>
    intro M x h a b c
    rw [lq_X12_image_40, lp_X12_image_40]
    unfold ps_X12_image_40 st_X12_image_40
    have n7 := h.1.2.1
    have e6 : (6 : Int32).toInt = 6 := by decide
    have m := iMul (x := 6) (y := M.2.1.1 7) (n := 6 * (M.2.1.1 7).toInt) (by rw [e6]) (by omega) (by omega)
    by_cases z : 6 * (M.2.1.1 7) ≤ x
    · rw [if_pos z, if_pos z]
      exact ⟨⟨True.intro, True.intro⟩, h⟩
    rw [if_neg z, if_neg z]
    have z := mt iLe.mpr z
    have e := iAdd (x := x) (y := 1) (by rw [i1]; omega) (by rw [i1]; omega)
    rw [i1] at e
    have i := ih (mO M (sA M.1 4 ((3600 * x1) + x).toNatClampNeg (M.2.1.2 40 x.toNatClampNeg))) (x + 1) (mi_4 h _ _) (by omega) (by omega) (by omega)
    exact ⟨⟨⟨vIn a (by omega), (im_in h1 ⟨a, by omega⟩).1, True.intro⟩, i.1⟩, i.2⟩
theorem in_01 {x : Int32} (q : ¬ f_X12_in x 0 1 = 0) : 0 ≤ x.toInt ∧ x.toInt ≤ 1 := by
  have a := in_of q
  rw [i0, i1] at a
  exact a
theorem m_image {M : MS} (h : MI M) (x1 : Int32) : p_X12_image M x1 ∧ MI (f_X12_image M x1).2 := by
  unfold p_X12_image f_X12_image
  by_cases z : f_X12_in x1 0 1 = 0
  · rw [if_pos z, if_pos z]
    exact ⟨⟨in_p _ _ _, True.intro⟩, h⟩
  rw [if_neg z, if_neg z]
  have a := in_01 z
  have v2 : vp_in x1 2 := vIn a.1 (by omega)
  have h' : MI (mO (mO M (sA M.1 2 x1.toNatClampNeg (M.2.1.1 0))) (sA ((mO M (sA M.1 2 x1.toNatClampNeg (M.2.1.1 0))).1) 3 x1.toNatClampNeg (((mO M (sA M.1 2 x1.toNatClampNeg (M.2.1.1 0))).2.1).1 7))) := by
    refine ⟨h.1, h.2.1, h.2.2.1, fun k q => ?_⟩
    show upd (M.1.2 3) x1.toNatClampNeg (M.2.1.1 7) k = -1 ∨ ((0 ≤ (upd (M.1.2 3) x1.toNatClampNeg (M.2.1.1 7) k).toInt ∧ (upd (M.1.2 3) x1.toNatClampNeg (M.2.1.1 7) k).toInt ≤ 600) ∧ (1 ≤ (upd (M.1.2 2) x1.toNatClampNeg (M.2.1.1 0) k).toInt ∧ (upd (M.1.2 2) x1.toNatClampNeg (M.2.1.1 0) k).toInt ≤ 200))
    by_cases w : k = x1.toNatClampNeg
    · subst w
      rw [upd_eq, upd_eq]
      exact Or.inr ⟨h.1.2.1, h.1.1.ra.1⟩
    · rw [upd_ne w, upd_ne w]
      exact h.2.2.2 k q
  have i := image_l a 100000 _ 0 h' (by rw [i0]; omega) (by rw [i0]; omega) (by rw [i0]; omega)
  exact ⟨⟨in_p _ _ _, v2, v2, i.1⟩, i.2⟩
theorem back_l {x1 : Int32} (h1 : 0 ≤ x1.toInt ∧ x1.toInt ≤ 1) : ∀ (n : Nat) (M : MS) (x : Int32), MI M → (M.1.2 3 x1.toNatClampNeg).toInt ≤ 600 → 0 ≤ x.toInt → x.toInt ≤ 600 → 600 - x.toInt < n → lq_X12_back_40 n M x1 x ∧ MI (lp_X12_back_40 n M x1 x).2 := by
  intro n
  induction n with
  | zero => intro M x h g a b c; omega
  | succ n ih =>
    intro M x h g a b c
    rw [lq_X12_back_40, lp_X12_back_40]
    unfold ps_X12_back_40 st_X12_back_40
    have v2 : vp_in x1 2 := vIn h1.1 (by omega)
    by_cases z : M.1.2 3 x1.toNatClampNeg ≤ x
    · rw [if_pos z, if_pos z]
      exact ⟨⟨⟨v2, v2, True.intro⟩, True.intro⟩, h.hall (ha_10 h.1 _)⟩
    rw [if_neg z, if_neg z]
    have z := mt iLe.mpr z
    have e := iAdd (x := x) (y := 1) (by rw [i1]; omega) (by rw [i1]; omega)
    rw [i1] at e
    have e6 : (6 : Int32).toInt = 6 := by decide
    have m := iMul (x := 6) (y := x) (n := 6 * x.toInt) (by rw [e6]) (by omega) (by omega)
    have b0 := im_in h1 (y := 6 * x) ⟨by omega, by omega⟩
    have bk : ∀ k : Int32, 0 ≤ k.toInt → k.toInt ≤ 5 → vp_in (((3600 * x1) + (6 * x)) + k) 7200 := fun k k1 k2 => by
      have q := iAdd (x := (3600 * x1) + (6 * x)) (y := k) (by rw [b0.2]; omega) (by rw [b0.2]; omega)
      rw [b0.2] at q
      exact vIn (by omega) (by omega)
    have ac := act_i h.1 (M.1.2 4 ((3600 * x1) + (6 * x)).toNatClampNeg) (M.1.2 4 (((3600 * x1) + (6 * x)) + 1).toNatClampNeg) (M.1.2 4 (((3600 * x1) + (6 * x)) + 2).toNatClampNeg) (M.1.2 4 (((3600 * x1) + (6 * x)) + 3).toNatClampNeg) (M.1.2 4 (((3600 * x1) + (6 * x)) + 4).toNatClampNeg)
    generalize f_X11_act M.2.1 (M.1.2 4 ((3600 * x1) + (6 * x)).toNatClampNeg) (M.1.2 4 (((3600 * x1) + (6 * x)) + 1).toNatClampNeg) (M.1.2 4 (((3600 * x1) + (6 * x)) + 2).toNatClampNeg) (M.1.2 4 (((3600 * x1) + (6 * x)) + 3).toNatClampNeg) (M.1.2 4 (((3600 * x1) + (6 * x)) + 4).toNatClampNeg) = R at ac
    have i := ih (mH M R.2) (x + 1) (h.hall ac.2) g (by omega) (by omega) (by omega)
    exact ⟨⟨⟨v2, b0.1, bk 1 (by decide) (by decide), bk 2 (by decide) (by decide), bk 3 (by decide) (by decide), bk 4 (by decide) (by decide), ac.1, True.intro⟩, i.1⟩, i.2⟩
theorem m_back {M : MS} (h : MI M) (x1 : Int32) : p_X12_back M x1 ∧ MI (f_X12_back M x1).2 := by
  unfold p_X12_back f_X12_back
  by_cases z : f_X12_in x1 0 1 = 0
  · rw [if_pos z, if_pos z]
    exact ⟨⟨in_p _ _ _, True.intro⟩, h⟩
  rw [if_neg z, if_neg z]
  have a := in_01 z
  have k := iNat a.1
  have v2 : vp_in x1 2 := vIn a.1 (by omega)
  by_cases y : M.1.2 3 x1.toNatClampNeg = (-1)
  · rw [if_pos y, if_pos y]
    exact ⟨⟨in_p _ _ _, v2, True.intro⟩, h⟩
  rw [if_neg y, if_neg y]
  have q := (h.2.2.2 x1.toNatClampNeg (by omega)).resolve_left y
  have b := begin_i h.1.hb q.2
  unfold q_X12_back_a38 b_X12_back_a38
  generalize (f_X11_begin M.2.1 (M.1.2 2 x1.toNatClampNeg)).2 = B at b
  have i := back_l a 100000 (mH M B) 0 (h.hall b.2.1) q.1.2 (by rw [i0]; omega) (by rw [i0]; omega) (by rw [i0]; omega)
  exact ⟨⟨in_p _ _ _, v2, v2, b.1, i.1⟩, i.2⟩
