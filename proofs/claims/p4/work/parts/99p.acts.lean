/-! ===== the calls of acts ===== -/
section
variable {m : Nat} {S : Cst}
theorem k_there (h : KI S m) (i1 : Int32) : kR S m (fun lc ls => p_Y10_there S m lc ls i1) (f_Y10_there S m i1) := by
  obtain ⟨a, b, r2, r3, l, T, col, h⟩ := h
  unfold p_Y10_there f_Y10_there
  rw [h.g0]
  simp only [Option.getD_some, ir_so]
  exact (k_enact h 1 i1 0 0 0).w rfl (fun _ _ p => ⟨p.1, p.2.1.1, p.2.1.2, trivial⟩)
theorem k_gone (h : KI S m) (i1 : Int32) : kR S m (fun lc ls => p_Y10_gone S m lc ls i1) (f_Y10_gone S m i1) := by
  obtain ⟨a, b, r2, r3, l, T, col, h⟩ := h
  unfold p_Y10_gone f_Y10_gone
  rw [h.g0]
  simp only [Option.getD_some, ir_so]
  exact (k_enact h 2 i1 0 0 0).w rfl (fun _ _ p => ⟨p.1, p.2.1.1, p.2.1.2, trivial⟩)
theorem k_quorum (h : KI S m) (i1 : Int32) : kR S m (fun lc ls => p_Y10_quorum S m lc ls i1) (f_Y10_quorum S m i1) := by
  obtain ⟨a, b, r2, r3, l, T, col, h⟩ := h
  unfold p_Y10_quorum f_Y10_quorum
  rw [h.g0]
  simp only [Option.getD_some, ir_so]
  exact (k_enact h 3 i1 0 0 0).w rfl (fun _ _ p => ⟨p.1, p.2.1.1, p.2.1.2, trivial⟩)
theorem k_chair (h : KI S m) (i1 : Int32) : kR S m (fun lc ls => p_Y10_chair S m lc ls i1) (f_Y10_chair S m i1) := by
  obtain ⟨a, b, r2, r3, l, T, col, h⟩ := h
  unfold p_Y10_chair f_Y10_chair
  rw [h.g0]
  simp only [Option.getD_some, ir_so]
  exact (k_enact h 4 i1 0 0 0).w rfl (fun _ _ p => ⟨p.1, p.2.1.1, p.2.1.2, trivial⟩)
theorem k_majority (h : KI S m) (i1 i2 : Int32) : kR S m (fun lc ls => p_Y10_majority S m lc ls i1 i2) (f_Y10_majority S m i1 i2) := by
  obtain ⟨a, b, r2, r3, l, T, col, h⟩ := h
  unfold p_Y10_majority f_Y10_majority
  rw [h.g0]
  simp only [Option.getD_some, ir_so]
  exact (k_enact h 5 i1 i2 0 0).w rfl (fun _ _ p => ⟨p.1, p.2.1.1, p.2.1.2, trivial⟩)
theorem k_limit (h : KI S m) (i1 : Int32) : kR S m (fun lc ls => p_Y10_limit S m lc ls i1) (f_Y10_limit S m i1) := by
  obtain ⟨a, b, r2, r3, l, T, col, h⟩ := h
  unfold p_Y10_limit f_Y10_limit
  rw [h.g0]
  simp only [Option.getD_some, ir_so]
  exact (k_enact h 6 i1 0 0 0).w rfl (fun _ _ p => ⟨p.1, p.2.1.1, p.2.1.2, trivial⟩)
theorem k_floor (h : KI S m) (i1 : Int32) : kR S m (fun lc ls => p_Y10_floor S m lc ls i1) (f_Y10_floor S m i1) := by
  obtain ⟨a, b, r2, r3, l, T, col, h⟩ := h
  unfold p_Y10_floor f_Y10_floor
  rw [h.g0]
  simp only [Option.getD_some, ir_so]
  exact (k_enact h 7 i1 0 0 0).w rfl (fun _ _ p => ⟨p.1, p.2.1.1, p.2.1.2, trivial⟩)
theorem k_cede (h : KI S m) : kR S m (fun lc ls => p_Y10_cede S m lc ls) (f_Y10_cede S m) := by
  obtain ⟨a, b, r2, r3, l, T, col, h⟩ := h
  unfold p_Y10_cede f_Y10_cede
  rw [h.g0]
  simp only [Option.getD_some, ir_so]
  exact (k_enact h 8 0 0 0 0).w rfl (fun _ _ p => ⟨p.1, p.2.1.1, p.2.1.2, trivial⟩)
theorem k_debate (h : KI S m) (i1 : Int32) : kR S m (fun lc ls => p_Y10_debate S m lc ls i1) (f_Y10_debate S m i1) := by
  obtain ⟨a, b, r2, r3, l, T, col, h⟩ := h
  unfold p_Y10_debate f_Y10_debate
  rw [h.g0]
  simp only [Option.getD_some, ir_so]
  exact (k_enact h 9 i1 0 0 0).w rfl (fun _ _ p => ⟨p.1, p.2.1.1, p.2.1.2, trivial⟩)
theorem k_draft (h : KI S m) (i1 : Int32) : kR S m (fun lc ls => p_Y10_draft S m lc ls i1) (f_Y10_draft S m i1) := by
  obtain ⟨a, b, r2, r3, l, T, col, h⟩ := h
  unfold p_Y10_draft f_Y10_draft
  rw [h.g0]
  simp only [Option.getD_some, ir_so]
  exact (k_enact h 10 i1 0 0 0).w rfl (fun _ _ p => ⟨p.1, p.2.1.1, p.2.1.2, trivial⟩)
theorem k_span (h : KI S m) (i1 i2 : Int32) : kR S m (fun lc ls => p_Y10_span S m lc ls i1 i2) (f_Y10_span S m i1 i2) := by
  obtain ⟨a, b, r2, r3, l, T, col, h⟩ := h
  unfold p_Y10_span f_Y10_span
  rw [h.g0]
  simp only [Option.getD_some, ir_so]
  exact (k_enact h 11 i1 i2 0 0).w rfl (fun _ _ p => ⟨p.1, p.2.1.1, p.2.1.2, trivial⟩)
theorem k_word (h : KI S m) (i1 i2 i3 i4 : Int32) : kR S m (fun lc ls => p_Y10_word S m lc ls i1 i2 i3 i4) (f_Y10_word S m i1 i2 i3 i4) := by
  obtain ⟨a, b, r2, r3, l, T, col, h⟩ := h
  unfold p_Y10_word f_Y10_word
  rw [h.g0]
  simp only [Option.getD_some, ir_so]
  exact (k_enact h 12 i1 i2 i3 i4).w rfl (fun _ _ p => ⟨p.1, p.2.1.1, p.2.1.2, trivial⟩)
theorem k_lay (h : KI S m) (i1 : Int32) : kR S m (fun lc ls => p_Y10_lay S m lc ls i1) (f_Y10_lay S m i1) := by
  obtain ⟨a, b, r2, r3, l, T, col, h⟩ := h
  unfold p_Y10_lay f_Y10_lay
  rw [h.g0]
  simp only [Option.getD_some, ir_so]
  exact (k_enact h 13 i1 0 0 0).w rfl (fun _ _ p => ⟨p.1, p.2.1.1, p.2.1.2, trivial⟩)
theorem k_take (h : KI S m) (i1 : Int32) : kR S m (fun lc ls => p_Y10_take S m lc ls i1) (f_Y10_take S m i1) := by
  obtain ⟨a, b, r2, r3, l, T, col, h⟩ := h
  unfold p_Y10_take f_Y10_take
  rw [h.g0]
  simp only [Option.getD_some, ir_so]
  exact (k_enact h 14 i1 0 0 0).w rfl (fun _ _ p => ⟨p.1, p.2.1.1, p.2.1.2, trivial⟩)
theorem k_move (h : KI S m) (i1 : Int32) : kR S m (fun lc ls => p_Y10_move S m lc ls i1) (f_Y10_move S m i1) := by
  obtain ⟨a, b, r2, r3, l, T, col, h⟩ := h
  unfold p_Y10_move f_Y10_move
  rw [h.g0]
  simp only [Option.getD_some, ir_so]
  exact (k_enact h 15 i1 0 0 0).w rfl (fun _ _ p => ⟨p.1, p.2.1.1, p.2.1.2, trivial⟩)
theorem k_second (h : KI S m) (i1 : Int32) : kR S m (fun lc ls => p_Y10_second S m lc ls i1) (f_Y10_second S m i1) := by
  obtain ⟨a, b, r2, r3, l, T, col, h⟩ := h
  unfold p_Y10_second f_Y10_second
  rw [h.g0]
  simp only [Option.getD_some, ir_so]
  exact (k_enact h 16 i1 0 0 0).w rfl (fun _ _ p => ⟨p.1, p.2.1.1, p.2.1.2, trivial⟩)
theorem k_vote (h : KI S m) (i1 i2 : Int32) : kR S m (fun lc ls => p_Y10_vote S m lc ls i1 i2) (f_Y10_vote S m i1 i2) := by
  obtain ⟨a, b, r2, r3, l, T, col, h⟩ := h
  unfold p_Y10_vote f_Y10_vote
  rw [h.g0]
  simp only [Option.getD_some, ir_so]
  exact (k_enact h 17 i1 i2 0 0).w rfl (fun _ _ p => ⟨p.1, p.2.1.1, p.2.1.2, trivial⟩)
theorem k_withdraw (h : KI S m) (i1 : Int32) : kR S m (fun lc ls => p_Y10_withdraw S m lc ls i1) (f_Y10_withdraw S m i1) := by
  obtain ⟨a, b, r2, r3, l, T, col, h⟩ := h
  unfold p_Y10_withdraw f_Y10_withdraw
  rw [h.g0]
  simp only [Option.getD_some, ir_so]
  exact (k_enact h 18 i1 0 0 0).w rfl (fun _ _ p => ⟨p.1, p.2.1.1, p.2.1.2, trivial⟩)
theorem k_rule (h : KI S m) : kR S m (fun lc ls => p_Y10_rule S m lc ls) (f_Y10_rule S m) := by
  obtain ⟨a, b, r2, r3, l, T, col, h⟩ := h
  unfold p_Y10_rule f_Y10_rule
  rw [h.g0]
  simp only [Option.getD_some, ir_so]
  exact (k_enact h 19 0 0 0 0).w rfl (fun _ _ p => ⟨p.1, p.2.1.1, p.2.1.2, trivial⟩)
theorem k_appeal (h : KI S m) (i1 : Int32) : kR S m (fun lc ls => p_Y10_appeal S m lc ls i1) (f_Y10_appeal S m i1) := by
  obtain ⟨a, b, r2, r3, l, T, col, h⟩ := h
  unfold p_Y10_appeal f_Y10_appeal
  rw [h.g0]
  simp only [Option.getD_some, ir_so]
  exact (k_enact h 20 i1 0 0 0).w rfl (fun _ _ p => ⟨p.1, p.2.1.1, p.2.1.2, trivial⟩)
theorem k_told (h : KI S m) : kR S m (fun lc ls => p_Y10_told S m lc ls) (f_Y10_told S m) := by
  obtain ⟨a, b, r2, r3, l, T, col, h⟩ := h
  unfold p_Y10_told f_Y10_told
  rw [h.g0]
  simp only [Option.getD_some, ir_so]
  exact (k_enact h 21 0 0 0 0).w rfl (fun _ _ p => ⟨p.1, p.2.1.1, p.2.1.2, trivial⟩)
theorem k_adjourn (h : KI S m) : kR S m (fun lc ls => p_Y10_adjourn S m lc ls) (f_Y10_adjourn S m) := by
  obtain ⟨a, b, r2, r3, l, T, col, h⟩ := h
  unfold p_Y10_adjourn f_Y10_adjourn
  rw [h.g0]
  simp only [Option.getD_some, ir_so]
  exact (k_enact h 22 0 0 0 0).w rfl (fun _ _ p => ⟨p.1, p.2.1.1, p.2.1.2, trivial⟩)
end
