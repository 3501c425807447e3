/-! ===== the model: its invariant, and its calls one by one ===== -/
def MI (M : MS) : Prop := HA M.2.1 ∧ HB M.2.2 ∧ (0 ≤ (M.1.1 6).toInt ∧ (M.1.1 6).toInt ≤ 600) ∧ ∀ k, k < 2 → M.1.2 3 k = -1 ∨ ((0 ≤ (M.1.2 3 k).toInt ∧ (M.1.2 3 k).toInt ≤ 600) ∧ (1 ≤ (M.1.2 2 k).toInt ∧ (M.1.2 2 k).toInt ≤ 200))
theorem MI.hall {M : MS} (h : MI M) {T : HS} (q : HA T) : MI (mH M T) := ⟨q, h.2⟩
theorem MI.spare {M : MS} (h : MI M) {T : HS} (q : HB T) : MI (mS M T) := ⟨h.1, q, h.2.2⟩
theorem mi_act {M : MS} (h : MI M) (x1 x2 x3 x4 x5 : Int32) : p_X11_act M.2.1 x1 x2 x3 x4 x5 ∧ MI (mH M (f_X11_act M.2.1 x1 x2 x3 x4 x5).2) :=
  have a := act_i h.1 x1 x2 x3 x4 x5
  ⟨a.1, h.hall a.2⟩
theorem m_there {M : MS} (h : MI M) (x1 : Int32) : p_X12_there M x1 ∧ MI (f_X12_there M x1).2 := (mi_act h 1 x1 0 0 0).imp (fun a => ⟨a, True.intro⟩) (fun a => a)
theorem m_gone {M : MS} (h : MI M) (x1 : Int32) : p_X12_gone M x1 ∧ MI (f_X12_gone M x1).2 := (mi_act h 2 x1 0 0 0).imp (fun a => ⟨a, True.intro⟩) (fun a => a)
theorem m_quorum {M : MS} (h : MI M) (x1 : Int32) : p_X12_quorum M x1 ∧ MI (f_X12_quorum M x1).2 := (mi_act h 3 x1 0 0 0).imp (fun a => ⟨a, True.intro⟩) (fun a => a)
theorem m_chair {M : MS} (h : MI M) (x1 : Int32) : p_X12_chair M x1 ∧ MI (f_X12_chair M x1).2 := (mi_act h 4 x1 0 0 0).imp (fun a => ⟨a, True.intro⟩) (fun a => a)
theorem m_majority {M : MS} (h : MI M) (x1 x2 : Int32) : p_X12_majority M x1 x2 ∧ MI (f_X12_majority M x1 x2).2 := (mi_act h 5 x1 x2 0 0).imp (fun a => ⟨a, True.intro⟩) (fun a => a)
theorem m_limit {M : MS} (h : MI M) (x1 : Int32) : p_X12_limit M x1 ∧ MI (f_X12_limit M x1).2 := (mi_act h 6 x1 0 0 0).imp (fun a => ⟨a, True.intro⟩) (fun a => a)
theorem m_floor {M : MS} (h : MI M) (x1 : Int32) : p_X12_floor M x1 ∧ MI (f_X12_floor M x1).2 := (mi_act h 7 x1 0 0 0).imp (fun a => ⟨a, True.intro⟩) (fun a => a)
theorem m_cede {M : MS} (h : MI M) : p_X12_cede M  ∧ MI (f_X12_cede M ).2 := (mi_act h 8 0 0 0 0).imp (fun a => ⟨a, True.intro⟩) (fun a => a)
theorem m_debate {M : MS} (h : MI M) (x1 : Int32) : p_X12_debate M x1 ∧ MI (f_X12_debate M x1).2 := (mi_act h 9 x1 0 0 0).imp (fun a => ⟨a, True.intro⟩) (fun a => a)
theorem m_draft {M : MS} (h : MI M) (x1 : Int32) : p_X12_draft M x1 ∧ MI (f_X12_draft M x1).2 := (mi_act h 10 x1 0 0 0).imp (fun a => ⟨a, True.intro⟩) (fun a => a)
theorem m_span {M : MS} (h : MI M) (x1 x2 : Int32) : p_X12_span M x1 x2 ∧ MI (f_X12_span M x1 x2).2 := (mi_act h 11 x1 x2 0 0).imp (fun a => ⟨a, True.intro⟩) (fun a => a)
theorem m_word {M : MS} (h : MI M) (x1 x2 x3 x4 : Int32) : p_X12_word M x1 x2 x3 x4 ∧ MI (f_X12_word M x1 x2 x3 x4).2 := (mi_act h 12 x1 x2 x3 x4).imp (fun a => ⟨a, True.intro⟩) (fun a => a)
theorem m_lay {M : MS} (h : MI M) (x1 : Int32) : p_X12_lay M x1 ∧ MI (f_X12_lay M x1).2 := (mi_act h 13 x1 0 0 0).imp (fun a => ⟨a, True.intro⟩) (fun a => a)
theorem m_take {M : MS} (h : MI M) (x1 : Int32) : p_X12_take M x1 ∧ MI (f_X12_take M x1).2 := (mi_act h 14 x1 0 0 0).imp (fun a => ⟨a, True.intro⟩) (fun a => a)
theorem m_move {M : MS} (h : MI M) (x1 : Int32) : p_X12_move M x1 ∧ MI (f_X12_move M x1).2 := (mi_act h 15 x1 0 0 0).imp (fun a => ⟨a, True.intro⟩) (fun a => a)
theorem m_second {M : MS} (h : MI M) (x1 : Int32) : p_X12_second M x1 ∧ MI (f_X12_second M x1).2 := (mi_act h 16 x1 0 0 0).imp (fun a => ⟨a, True.intro⟩) (fun a => a)
theorem m_vote {M : MS} (h : MI M) (x1 x2 : Int32) : p_X12_vote M x1 x2 ∧ MI (f_X12_vote M x1 x2).2 := (mi_act h 17 x1 x2 0 0).imp (fun a => ⟨a, True.intro⟩) (fun a => a)
theorem m_withdraw {M : MS} (h : MI M) (x1 : Int32) : p_X12_withdraw M x1 ∧ MI (f_X12_withdraw M x1).2 := (mi_act h 18 x1 0 0 0).imp (fun a => ⟨a, True.intro⟩) (fun a => a)
theorem m_rule {M : MS} (h : MI M) : p_X12_rule M  ∧ MI (f_X12_rule M ).2 := (mi_act h 19 0 0 0 0).imp (fun a => ⟨a, True.intro⟩) (fun a => a)
theorem m_appeal {M : MS} (h : MI M) (x1 : Int32) : p_X12_appeal M x1 ∧ MI (f_X12_appeal M x1).2 := (mi_act h 20 x1 0 0 0).imp (fun a => ⟨a, True.intro⟩) (fun a => a)
theorem m_told {M : MS} (h : MI M) : p_X12_told M  ∧ MI (f_X12_told M ).2 := (mi_act h 21 0 0 0 0).imp (fun a => ⟨a, True.intro⟩) (fun a => a)
theorem m_adjourn {M : MS} (h : MI M) : p_X12_adjourn M  ∧ MI (f_X12_adjourn M ).2 := (mi_act h 22 0 0 0 0).imp (fun a => ⟨a, True.intro⟩) (fun a => a)
theorem m_seats {M : MS} (h : MI M) (x1 : Int32) : p_X12_seats M x1 ∧ MI (f_X12_seats M x1).2 := by
  unfold p_X12_seats f_X12_seats
  by_cases z : f_X12_in x1 1 200 = 0
  · rw [if_pos z, if_pos z]
    exact ⟨⟨in_p _ _ _, True.intro⟩, h⟩
  · rw [if_neg z, if_neg z]
    have a := in_of z
    rw [i1, i200] at a
    have b := begin_i h.1.hb a
    exact ⟨⟨in_p _ _ _, b.1, True.intro⟩, h.hall b.2.1⟩
theorem m_strike {M : MS} (h : MI M) : p_X12_strike M ∧ MI (f_X12_strike M).2 :=
  ⟨True.intro, h.1, h.2.1, ⟨by show 0 ≤ (0 : Int32).toInt; rw [i0]; omega, by show (0 : Int32).toInt ≤ 600; rw [i0]; omega⟩, h.2.2.2⟩
theorem m_why {M : MS} (h : MI M) : p_X12_why M ∧ MI (f_X12_why M).2 := ⟨True.intro, h⟩
theorem m_order {M : MS} (h : MI M) (x1 : Int32) : p_X12_order M x1 ∧ MI (f_X12_order M x1).2 := by
  have n35 := h.1.1.ra.2.2.1
  have mp := move_p h.1.1.ra h.1.1.rk (by
    by_cases z : M.2.1.1 35 = 0
    · exact Or.inr z
    · have z := mt iEq.mpr z
      rw [i0] at z
      exact Or.inl (by omega)) x1
  unfold p_X12_order f_X12_order
  rw [sf_X11_reasonOfMove]
  have e : mH M M.2.1 = M := rfl
  rw [e]
  generalize (f_X11_reasonOfMove M.2.1 x1).1 = r
  have b36 : ∀ y z, q_X12_order_36 M x1 y z ∧ MI (b_X12_order_36 M x1 y z).2 := fun y z => by
    unfold q_X12_order_36 b_X12_order_36
    have g := h.hall (ha_10 h.1 z)
    by_cases w : ((mH M (sI M.2.1 10 z)).2.1).1 10 = 0
    · rw [if_pos w, if_pos w]
      exact ⟨True.intro, g⟩
    · rw [if_neg w, if_neg w]
      exact ⟨True.intro, g⟩
  unfold q_X12_order_a8 b_X12_order_a8
  by_cases z : r = 0
  · rw [if_pos z, if_pos z]
    by_cases w : M.2.1.1 7 = 600
    · rw [if_pos w, if_pos w]
      exact ⟨⟨mp, (b36 _ _).1⟩, (b36 _ _).2⟩
    · rw [if_neg w, if_neg w]
      exact ⟨⟨mp, (b36 _ _).1⟩, (b36 _ _).2⟩
  · rw [if_neg z, if_neg z]
    exact ⟨⟨mp, (b36 _ _).1⟩, (b36 _ _).2⟩
theorem m_tell {M : MS} (h : MI M) (x1 x2 x3 x4 x5 x6 : Int32) : p_X12_tell M x1 x2 x3 x4 x5 x6 ∧ MI (f_X12_tell M x1 x2 x3 x4 x5 x6).2 := by
  unfold p_X12_tell f_X12_tell
  by_cases z : M.1.1 6 = 600
  · rw [if_pos z, if_pos z]
    exact ⟨True.intro, h⟩
  · rw [if_neg z, if_neg z]
    have z := mt iEq.mpr z
    have e6 : (600 : Int32).toInt = 600 := by decide
    rw [e6] at z
    have t := h.2.2.1
    have hx : 0 ≤ (M.1.1 6).toInt ∧ (M.1.1 6).toInt < 600 := by omega
    have e := iAdd (x := M.1.1 6) (y := 1) (by rw [i1]; omega) (by rw [i1]; omega)
    rw [i1] at e
    refine ⟨⟨(c6 hx (k := 1) (by decide)).1, (c6 hx (by decide)).2, (c6 hx (by decide)).2, (c6 hx (by decide)).2, (c6 hx (by decide)).2, (c6 hx (by decide)).2, True.intro⟩, h.1, h.2.1, ⟨?_, ?_⟩, h.2.2.2⟩
    · show 0 ≤ (M.1.1 6 + 1).toInt
      omega
    · show (M.1.1 6 + 1).toInt ≤ 600
      omega
