/-! ===== the calls that are acts, in both ===== -/
section
variable {S S2 : Cst} {M : MS} {v : Int32}
theorem pr_e {α β : Type} (p : α × β) {q : α × β} (e : (p.1, p.2) = q) : p = q := e
theorem ac_there (q : RQ S M) (mi : MI M) (i1 : Int32) (e : f_Y10_there S 82 i1 = (v, S2)) : v = (f_X12_there M i1).1 ∧ RQ S2 (f_X12_there M i1).2 := by
  unfold f_Y10_there b_Y10_there_12a at e
  unfold f_X12_there b_X12_there_a12
  exact rq_act q mi (act := 1) (i := i1) (b' := 0) (c := 0) (d := 0) (by decide) (by decide) ⟨fun h => absurd h (by decide), fun _ => rfl, fun _ => rfl, fun _ => rfl⟩ (pr_e _ e)
theorem ac_gone (q : RQ S M) (mi : MI M) (i1 : Int32) (e : f_Y10_gone S 82 i1 = (v, S2)) : v = (f_X12_gone M i1).1 ∧ RQ S2 (f_X12_gone M i1).2 := by
  unfold f_Y10_gone b_Y10_gone_12a at e
  unfold f_X12_gone b_X12_gone_a12
  exact rq_act q mi (act := 2) (i := i1) (b' := 0) (c := 0) (d := 0) (by decide) (by decide) ⟨fun h => absurd h (by decide), fun _ => rfl, fun _ => rfl, fun _ => rfl⟩ (pr_e _ e)
theorem ac_quorum (q : RQ S M) (mi : MI M) (i1 : Int32) (e : f_Y10_quorum S 82 i1 = (v, S2)) : v = (f_X12_quorum M i1).1 ∧ RQ S2 (f_X12_quorum M i1).2 := by
  unfold f_Y10_quorum b_Y10_quorum_12a at e
  unfold f_X12_quorum b_X12_quorum_a12
  exact rq_act q mi (act := 3) (i := i1) (b' := 0) (c := 0) (d := 0) (by decide) (by decide) ⟨fun h => absurd h (by decide), fun _ => rfl, fun _ => rfl, fun _ => rfl⟩ (pr_e _ e)
theorem ac_chair (q : RQ S M) (mi : MI M) (i1 : Int32) (e : f_Y10_chair S 82 i1 = (v, S2)) : v = (f_X12_chair M i1).1 ∧ RQ S2 (f_X12_chair M i1).2 := by
  unfold f_Y10_chair b_Y10_chair_12a at e
  unfold f_X12_chair b_X12_chair_a12
  exact rq_act q mi (act := 4) (i := i1) (b' := 0) (c := 0) (d := 0) (by decide) (by decide) ⟨fun h => absurd h (by decide), fun _ => rfl, fun _ => rfl, fun _ => rfl⟩ (pr_e _ e)
theorem ac_majority (q : RQ S M) (mi : MI M) (i1 i2 : Int32) (e : f_Y10_majority S 82 i1 i2 = (v, S2)) : v = (f_X12_majority M i1 i2).1 ∧ RQ S2 (f_X12_majority M i1 i2).2 := by
  unfold f_Y10_majority b_Y10_majority_12a at e
  unfold f_X12_majority b_X12_majority_a12
  exact rq_act q mi (act := 5) (i := i1) (b' := i2) (c := 0) (d := 0) (by decide) (by decide) ⟨fun h => absurd h (by decide), fun h => absurd h (by decide), fun _ => rfl, fun _ => rfl⟩ (pr_e _ e)
theorem ac_limit (q : RQ S M) (mi : MI M) (i1 : Int32) (e : f_Y10_limit S 82 i1 = (v, S2)) : v = (f_X12_limit M i1).1 ∧ RQ S2 (f_X12_limit M i1).2 := by
  unfold f_Y10_limit b_Y10_limit_13a at e
  unfold f_X12_limit b_X12_limit_a13
  exact rq_act q mi (act := 6) (i := i1) (b' := 0) (c := 0) (d := 0) (by decide) (by decide) ⟨fun h => absurd h (by decide), fun _ => rfl, fun _ => rfl, fun _ => rfl⟩ (pr_e _ e)
theorem ac_floor (q : RQ S M) (mi : MI M) (i1 : Int32) (e : f_Y10_floor S 82 i1 = (v, S2)) : v = (f_X12_floor M i1).1 ∧ RQ S2 (f_X12_floor M i1).2 := by
  unfold f_Y10_floor b_Y10_floor_13a at e
  unfold f_X12_floor b_X12_floor_a13
  exact rq_act q mi (act := 7) (i := i1) (b' := 0) (c := 0) (d := 0) (by decide) (by decide) ⟨fun h => absurd h (by decide), fun _ => rfl, fun _ => rfl, fun _ => rfl⟩ (pr_e _ e)
theorem ac_cede (q : RQ S M) (mi : MI M) (e : f_Y10_cede S 82 = (v, S2)) : v = (f_X12_cede M).1 ∧ RQ S2 (f_X12_cede M).2 := by
  unfold f_Y10_cede b_Y10_cede_13a at e
  unfold f_X12_cede b_X12_cede_a13
  exact rq_act q mi (act := 8) (i := 0) (b' := 0) (c := 0) (d := 0) (by decide) (by decide) ⟨fun _ => rfl, fun _ => rfl, fun _ => rfl, fun _ => rfl⟩ (pr_e _ e)
theorem ac_debate (q : RQ S M) (mi : MI M) (i1 : Int32) (e : f_Y10_debate S 82 i1 = (v, S2)) : v = (f_X12_debate M i1).1 ∧ RQ S2 (f_X12_debate M i1).2 := by
  unfold f_Y10_debate b_Y10_debate_13a at e
  unfold f_X12_debate b_X12_debate_a13
  exact rq_act q mi (act := 9) (i := i1) (b' := 0) (c := 0) (d := 0) (by decide) (by decide) ⟨fun h => absurd h (by decide), fun _ => rfl, fun _ => rfl, fun _ => rfl⟩ (pr_e _ e)
theorem ac_draft (q : RQ S M) (mi : MI M) (i1 : Int32) (e : f_Y10_draft S 82 i1 = (v, S2)) : v = (f_X12_draft M i1).1 ∧ RQ S2 (f_X12_draft M i1).2 := by
  unfold f_Y10_draft b_Y10_draft_13a at e
  unfold f_X12_draft b_X12_draft_a13
  exact rq_act q mi (act := 10) (i := i1) (b' := 0) (c := 0) (d := 0) (by decide) (by decide) ⟨fun h => absurd h (by decide), fun _ => rfl, fun _ => rfl, fun _ => rfl⟩ (pr_e _ e)
theorem ac_span (q : RQ S M) (mi : MI M) (i1 i2 : Int32) (e : f_Y10_span S 82 i1 i2 = (v, S2)) : v = (f_X12_span M i1 i2).1 ∧ RQ S2 (f_X12_span M i1 i2).2 := by
  unfold f_Y10_span b_Y10_span_13a at e
  unfold f_X12_span b_X12_span_a13
  exact rq_act q mi (act := 11) (i := i1) (b' := i2) (c := 0) (d := 0) (by decide) (by decide) ⟨fun h => absurd h (by decide), fun h => absurd h (by decide), fun _ => rfl, fun _ => rfl⟩ (pr_e _ e)
theorem ac_word (q : RQ S M) (mi : MI M) (i1 i2 i3 i4 : Int32) (e : f_Y10_word S 82 i1 i2 i3 i4 = (v, S2)) : v = (f_X12_word M i1 i2 i3 i4).1 ∧ RQ S2 (f_X12_word M i1 i2 i3 i4).2 := by
  unfold f_Y10_word b_Y10_word_14a at e
  unfold f_X12_word b_X12_word_a14
  exact rq_act q mi (act := 12) (i := i1) (b' := i2) (c := i3) (d := i4) (by decide) (by decide) ⟨fun h => absurd h (by decide), fun h => absurd h (by decide), fun h => absurd h (by decide), fun h => absurd h (by decide)⟩ (pr_e _ e)
theorem ac_lay (q : RQ S M) (mi : MI M) (i1 : Int32) (e : f_Y10_lay S 82 i1 = (v, S2)) : v = (f_X12_lay M i1).1 ∧ RQ S2 (f_X12_lay M i1).2 := by
  unfold f_Y10_lay b_Y10_lay_13a at e
  unfold f_X12_lay b_X12_lay_a13
  exact rq_act q mi (act := 13) (i := i1) (b' := 0) (c := 0) (d := 0) (by decide) (by decide) ⟨fun h => absurd h (by decide), fun _ => rfl, fun _ => rfl, fun _ => rfl⟩ (pr_e _ e)
theorem ac_take (q : RQ S M) (mi : MI M) (i1 : Int32) (e : f_Y10_take S 82 i1 = (v, S2)) : v = (f_X12_take M i1).1 ∧ RQ S2 (f_X12_take M i1).2 := by
  unfold f_Y10_take b_Y10_take_13a at e
  unfold f_X12_take b_X12_take_a13
  exact rq_act q mi (act := 14) (i := i1) (b' := 0) (c := 0) (d := 0) (by decide) (by decide) ⟨fun h => absurd h (by decide), fun _ => rfl, fun _ => rfl, fun _ => rfl⟩ (pr_e _ e)
theorem ac_move (q : RQ S M) (mi : MI M) (i1 : Int32) (e : f_Y10_move S 82 i1 = (v, S2)) : v = (f_X12_move M i1).1 ∧ RQ S2 (f_X12_move M i1).2 := by
  unfold f_Y10_move b_Y10_move_13a at e
  unfold f_X12_move b_X12_move_a13
  exact rq_act q mi (act := 15) (i := i1) (b' := 0) (c := 0) (d := 0) (by decide) (by decide) ⟨fun h => absurd h (by decide), fun _ => rfl, fun _ => rfl, fun _ => rfl⟩ (pr_e _ e)
theorem ac_second (q : RQ S M) (mi : MI M) (i1 : Int32) (e : f_Y10_second S 82 i1 = (v, S2)) : v = (f_X12_second M i1).1 ∧ RQ S2 (f_X12_second M i1).2 := by
  unfold f_Y10_second b_Y10_second_13a at e
  unfold f_X12_second b_X12_second_a13
  exact rq_act q mi (act := 16) (i := i1) (b' := 0) (c := 0) (d := 0) (by decide) (by decide) ⟨fun h => absurd h (by decide), fun _ => rfl, fun _ => rfl, fun _ => rfl⟩ (pr_e _ e)
theorem ac_vote (q : RQ S M) (mi : MI M) (i1 i2 : Int32) (e : f_Y10_vote S 82 i1 i2 = (v, S2)) : v = (f_X12_vote M i1 i2).1 ∧ RQ S2 (f_X12_vote M i1 i2).2 := by
  unfold f_Y10_vote b_Y10_vote_13a at e
  unfold f_X12_vote b_X12_vote_a13
  exact rq_act q mi (act := 17) (i := i1) (b' := i2) (c := 0) (d := 0) (by decide) (by decide) ⟨fun h => absurd h (by decide), fun h => absurd h (by decide), fun _ => rfl, fun _ => rfl⟩ (pr_e _ e)
theorem ac_withdraw (q : RQ S M) (mi : MI M) (i1 : Int32) (e : f_Y10_withdraw S 82 i1 = (v, S2)) : v = (f_X12_withdraw M i1).1 ∧ RQ S2 (f_X12_withdraw M i1).2 := by
  unfold f_Y10_withdraw b_Y10_withdraw_13a at e
  unfold f_X12_withdraw b_X12_withdraw_a13
  exact rq_act q mi (act := 18) (i := i1) (b' := 0) (c := 0) (d := 0) (by decide) (by decide) ⟨fun h => absurd h (by decide), fun _ => rfl, fun _ => rfl, fun _ => rfl⟩ (pr_e _ e)
theorem ac_rule (q : RQ S M) (mi : MI M) (e : f_Y10_rule S 82 = (v, S2)) : v = (f_X12_rule M).1 ∧ RQ S2 (f_X12_rule M).2 := by
  unfold f_Y10_rule b_Y10_rule_13a at e
  unfold f_X12_rule b_X12_rule_a13
  exact rq_act q mi (act := 19) (i := 0) (b' := 0) (c := 0) (d := 0) (by decide) (by decide) ⟨fun _ => rfl, fun _ => rfl, fun _ => rfl, fun _ => rfl⟩ (pr_e _ e)
theorem ac_appeal (q : RQ S M) (mi : MI M) (i1 : Int32) (e : f_Y10_appeal S 82 i1 = (v, S2)) : v = (f_X12_appeal M i1).1 ∧ RQ S2 (f_X12_appeal M i1).2 := by
  unfold f_Y10_appeal b_Y10_appeal_13a at e
  unfold f_X12_appeal b_X12_appeal_a13
  exact rq_act q mi (act := 20) (i := i1) (b' := 0) (c := 0) (d := 0) (by decide) (by decide) ⟨fun h => absurd h (by decide), fun _ => rfl, fun _ => rfl, fun _ => rfl⟩ (pr_e _ e)
theorem ac_told (q : RQ S M) (mi : MI M) (e : f_Y10_told S 82 = (v, S2)) : v = (f_X12_told M).1 ∧ RQ S2 (f_X12_told M).2 := by
  unfold f_Y10_told b_Y10_told_13a at e
  unfold f_X12_told b_X12_told_a13
  exact rq_act q mi (act := 21) (i := 0) (b' := 0) (c := 0) (d := 0) (by decide) (by decide) ⟨fun _ => rfl, fun _ => rfl, fun _ => rfl, fun _ => rfl⟩ (pr_e _ e)
theorem ac_adjourn (q : RQ S M) (mi : MI M) (e : f_Y10_adjourn S 82 = (v, S2)) : v = (f_X12_adjourn M).1 ∧ RQ S2 (f_X12_adjourn M).2 := by
  unfold f_Y10_adjourn b_Y10_adjourn_13a at e
  unfold f_X12_adjourn b_X12_adjourn_a13
  exact rq_act q mi (act := 22) (i := 0) (b' := 0) (c := 0) (d := 0) (by decide) (by decide) ⟨fun _ => rfl, fun _ => rfl, fun _ => rfl, fun _ => rfl⟩ (pr_e _ e)
end
