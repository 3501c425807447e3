/-! ===== what the two sides have in common (nothing is needed) ===== -/
def RQ (S : Cst) (M : MS) : Prop := S = S ∧ M = M
theorem rl_seats {S S2 : Cst} {M : MS} {v : Int32} (_ : RQ S M) (_ : KI S 82) (_ : MI M) (i1 : Int32) (_ : f_Y10_seats S 82 i1 = (v, S2)) : RQ S2 (f_X12_seats M i1).2 := ⟨rfl, rfl⟩
theorem rl_there {S S2 : Cst} {M : MS} {v : Int32} (_ : RQ S M) (_ : KI S 82) (_ : MI M) (i1 : Int32) (_ : f_Y10_there S 82 i1 = (v, S2)) : RQ S2 (f_X12_there M i1).2 := ⟨rfl, rfl⟩
theorem rl_gone {S S2 : Cst} {M : MS} {v : Int32} (_ : RQ S M) (_ : KI S 82) (_ : MI M) (i1 : Int32) (_ : f_Y10_gone S 82 i1 = (v, S2)) : RQ S2 (f_X12_gone M i1).2 := ⟨rfl, rfl⟩
theorem rl_quorum {S S2 : Cst} {M : MS} {v : Int32} (_ : RQ S M) (_ : KI S 82) (_ : MI M) (i1 : Int32) (_ : f_Y10_quorum S 82 i1 = (v, S2)) : RQ S2 (f_X12_quorum M i1).2 := ⟨rfl, rfl⟩
theorem rl_chair {S S2 : Cst} {M : MS} {v : Int32} (_ : RQ S M) (_ : KI S 82) (_ : MI M) (i1 : Int32) (_ : f_Y10_chair S 82 i1 = (v, S2)) : RQ S2 (f_X12_chair M i1).2 := ⟨rfl, rfl⟩
theorem rl_majority {S S2 : Cst} {M : MS} {v : Int32} (_ : RQ S M) (_ : KI S 82) (_ : MI M) (i1 i2 : Int32) (_ : f_Y10_majority S 82 i1 i2 = (v, S2)) : RQ S2 (f_X12_majority M i1 i2).2 := ⟨rfl, rfl⟩
theorem rl_limit {S S2 : Cst} {M : MS} {v : Int32} (_ : RQ S M) (_ : KI S 82) (_ : MI M) (i1 : Int32) (_ : f_Y10_limit S 82 i1 = (v, S2)) : RQ S2 (f_X12_limit M i1).2 := ⟨rfl, rfl⟩
theorem rl_floor {S S2 : Cst} {M : MS} {v : Int32} (_ : RQ S M) (_ : KI S 82) (_ : MI M) (i1 : Int32) (_ : f_Y10_floor S 82 i1 = (v, S2)) : RQ S2 (f_X12_floor M i1).2 := ⟨rfl, rfl⟩
theorem rl_cede {S S2 : Cst} {M : MS} {v : Int32} (_ : RQ S M) (_ : KI S 82) (_ : MI M) (_ : f_Y10_cede S 82 = (v, S2)) : RQ S2 (f_X12_cede M).2 := ⟨rfl, rfl⟩
theorem rl_debate {S S2 : Cst} {M : MS} {v : Int32} (_ : RQ S M) (_ : KI S 82) (_ : MI M) (i1 : Int32) (_ : f_Y10_debate S 82 i1 = (v, S2)) : RQ S2 (f_X12_debate M i1).2 := ⟨rfl, rfl⟩
theorem rl_draft {S S2 : Cst} {M : MS} {v : Int32} (_ : RQ S M) (_ : KI S 82) (_ : MI M) (i1 : Int32) (_ : f_Y10_draft S 82 i1 = (v, S2)) : RQ S2 (f_X12_draft M i1).2 := ⟨rfl, rfl⟩
theorem rl_span {S S2 : Cst} {M : MS} {v : Int32} (_ : RQ S M) (_ : KI S 82) (_ : MI M) (i1 i2 : Int32) (_ : f_Y10_span S 82 i1 i2 = (v, S2)) : RQ S2 (f_X12_span M i1 i2).2 := ⟨rfl, rfl⟩
theorem rl_word {S S2 : Cst} {M : MS} {v : Int32} (_ : RQ S M) (_ : KI S 82) (_ : MI M) (i1 i2 i3 i4 : Int32) (_ : f_Y10_word S 82 i1 i2 i3 i4 = (v, S2)) : RQ S2 (f_X12_word M i1 i2 i3 i4).2 := ⟨rfl, rfl⟩
theorem rl_lay {S S2 : Cst} {M : MS} {v : Int32} (_ : RQ S M) (_ : KI S 82) (_ : MI M) (i1 : Int32) (_ : f_Y10_lay S 82 i1 = (v, S2)) : RQ S2 (f_X12_lay M i1).2 := ⟨rfl, rfl⟩
theorem rl_take {S S2 : Cst} {M : MS} {v : Int32} (_ : RQ S M) (_ : KI S 82) (_ : MI M) (i1 : Int32) (_ : f_Y10_take S 82 i1 = (v, S2)) : RQ S2 (f_X12_take M i1).2 := ⟨rfl, rfl⟩
theorem rl_move {S S2 : Cst} {M : MS} {v : Int32} (_ : RQ S M) (_ : KI S 82) (_ : MI M) (i1 : Int32) (_ : f_Y10_move S 82 i1 = (v, S2)) : RQ S2 (f_X12_move M i1).2 := ⟨rfl, rfl⟩
theorem rl_second {S S2 : Cst} {M : MS} {v : Int32} (_ : RQ S M) (_ : KI S 82) (_ : MI M) (i1 : Int32) (_ : f_Y10_second S 82 i1 = (v, S2)) : RQ S2 (f_X12_second M i1).2 := ⟨rfl, rfl⟩
theorem rl_vote {S S2 : Cst} {M : MS} {v : Int32} (_ : RQ S M) (_ : KI S 82) (_ : MI M) (i1 i2 : Int32) (_ : f_Y10_vote S 82 i1 i2 = (v, S2)) : RQ S2 (f_X12_vote M i1 i2).2 := ⟨rfl, rfl⟩
theorem rl_withdraw {S S2 : Cst} {M : MS} {v : Int32} (_ : RQ S M) (_ : KI S 82) (_ : MI M) (i1 : Int32) (_ : f_Y10_withdraw S 82 i1 = (v, S2)) : RQ S2 (f_X12_withdraw M i1).2 := ⟨rfl, rfl⟩
theorem rl_rule {S S2 : Cst} {M : MS} {v : Int32} (_ : RQ S M) (_ : KI S 82) (_ : MI M) (_ : f_Y10_rule S 82 = (v, S2)) : RQ S2 (f_X12_rule M).2 := ⟨rfl, rfl⟩
theorem rl_appeal {S S2 : Cst} {M : MS} {v : Int32} (_ : RQ S M) (_ : KI S 82) (_ : MI M) (i1 : Int32) (_ : f_Y10_appeal S 82 i1 = (v, S2)) : RQ S2 (f_X12_appeal M i1).2 := ⟨rfl, rfl⟩
theorem rl_told {S S2 : Cst} {M : MS} {v : Int32} (_ : RQ S M) (_ : KI S 82) (_ : MI M) (_ : f_Y10_told S 82 = (v, S2)) : RQ S2 (f_X12_told M).2 := ⟨rfl, rfl⟩
theorem rl_adjourn {S S2 : Cst} {M : MS} {v : Int32} (_ : RQ S M) (_ : KI S 82) (_ : MI M) (_ : f_Y10_adjourn S 82 = (v, S2)) : RQ S2 (f_X12_adjourn M).2 := ⟨rfl, rfl⟩
theorem rl_order {S S2 : Cst} {M : MS} {v : Int32} (_ : RQ S M) (_ : KI S 82) (_ : MI M) (i1 : Int32) (_ : f_Y10_order S 82 i1 = (v, S2)) : RQ S2 (f_X12_order M i1).2 := ⟨rfl, rfl⟩
theorem rl_why {S : Cst} {M : MS} (_ : RQ S M) (_ : KI S 82) (_ : MI M) : RQ S (f_X12_why M).2 := ⟨rfl, rfl⟩
theorem rl_pending {S : Cst} {M : MS} (_ : RQ S M) (_ : KI S 82) (_ : MI M) (i1 i2 : Int32) : RQ S (f_X12_pending M i1 i2).2 := ⟨rfl, rfl⟩
theorem rl_text {S : Cst} {M : MS} (_ : RQ S M) (_ : KI S 82) (_ : MI M) (i1 i2 : Int32) : RQ S (f_X12_text M i1 i2).2 := ⟨rfl, rfl⟩
theorem rl_ballot {S : Cst} {M : MS} (_ : RQ S M) (_ : KI S 82) (_ : MI M) (i1 : Int32) : RQ S (f_X12_ballot M i1).2 := ⟨rfl, rfl⟩
theorem rl_desk {S : Cst} {M : MS} (_ : RQ S M) (_ : KI S 82) (_ : MI M) (i1 i2 : Int32) : RQ S (f_X12_desk M i1 i2).2 := ⟨rfl, rfl⟩
theorem rl_lying {S : Cst} {M : MS} (_ : RQ S M) (_ : KI S 82) (_ : MI M) (i1 i2 : Int32) : RQ S (f_X12_lying M i1 i2).2 := ⟨rfl, rfl⟩
theorem rl_result {S : Cst} {M : MS} (_ : RQ S M) (_ : KI S 82) (_ : MI M) (i1 i2 : Int32) : RQ S (f_X12_result M i1 i2).2 := ⟨rfl, rfl⟩
theorem rl_count {S : Cst} {M : MS} (_ : RQ S M) (_ : KI S 82) (_ : MI M) (i1 : Int32) : RQ S (f_X12_count M i1).2 := ⟨rfl, rfl⟩
theorem rl_seat {S : Cst} {M : MS} (_ : RQ S M) (_ : KI S 82) (_ : MI M) (i1 : Int32) : RQ S (f_X12_seat M i1).2 := ⟨rfl, rfl⟩
theorem rl_journal {S : Cst} {M : MS} (_ : RQ S M) (_ : KI S 82) (_ : MI M) (i1 i2 : Int32) : RQ S (f_X12_journal M i1 i2).2 := ⟨rfl, rfl⟩
theorem rl_before {S S2 : Cst} {M : MS} {v : Int32} (_ : RQ S M) (_ : KI S 82) (_ : MI M) (i1 i2 i3 : Int32) (_ : f_Y10_before S 82 i1 i2 i3 = (v, S2)) : RQ S2 (f_X12_before M i1 i2 i3).2 := ⟨rfl, rfl⟩
theorem rl_again {S S2 : Cst} {M : MS} {v : Int32} (_ : RQ S M) (_ : KI S 82) (_ : MI M) (_ : f_Y10_again S 82 = (v, S2)) : RQ S2 (f_X12_again M).2 := ⟨rfl, rfl⟩
theorem rl_tell {S S2 : Cst} {M : MS} {v : Int32} (_ : RQ S M) (_ : KI S 82) (_ : MI M) (i1 i2 i3 i4 i5 i6 : Int32) (_ : f_Y10_tell S 82 i1 i2 i3 i4 i5 i6 = (v, S2)) : RQ S2 (f_X12_tell M i1 i2 i3 i4 i5 i6).2 := ⟨rfl, rfl⟩
theorem rl_check {S S2 : Cst} {M : MS} {v : Int32} (_ : RQ S M) (_ : KI S 82) (_ : MI M) (_ : f_Y10_check S 82 = (v, S2)) : RQ S2 (f_X12_check M).2 := ⟨rfl, rfl⟩
theorem rl_strike {S S2 : Cst} {M : MS} {v : Int32} (_ : RQ S M) (_ : KI S 82) (_ : MI M) (_ : f_Y10_strike S 82 = (v, S2)) : RQ S2 (f_X12_strike M).2 := ⟨rfl, rfl⟩
theorem rl_image {S S2 : Cst} {M : MS} {v : Int32} (_ : RQ S M) (_ : KI S 82) (_ : MI M) (i1 : Int32) (_ : f_Y10_image S 82 i1 = (v, S2)) : RQ S2 (f_X12_image M i1).2 := ⟨rfl, rfl⟩
theorem rl_back {S S2 : Cst} {M : MS} {v : Int32} (_ : RQ S M) (_ : KI S 82) (_ : MI M) (i1 : Int32) (_ : f_Y10_back S 82 i1 = (v, S2)) : RQ S2 (f_X12_back M i1).2 := ⟨rfl, rfl⟩
theorem eq_seats {S S2 : Cst} {M : MS} {v : Int32} (_ : RQ S M) (_ : KI S 82) (_ : MI M) (n : Int32) (e : f_Y10_seats S 82 n = (v, S2)) : v = (f_X12_seats M n).1 := by
  have e := congrArg Prod.fst e
  have k1 : (1 : Int32).toInt = 1 := by decide
  have k2 : (200 : Int32).toInt = 200 := by decide
  rw [← show (f_Y10_seats S 82 n).1 = v from e]
  unfold f_Y10_seats f_X12_seats b_Y10_seats_12 b_Y10_seats_23a b_X12_seats_a22
  by_cases c1 : n < 1
  · have hi : f_X12_in n 1 200 = 0 := by rw [in_f, if_neg (fun z => by have := iLt.mp c1; omega)]
    rw [if_pos c1, if_pos hi]
  · rw [if_neg c1]
    have d1 := mt iLt.mpr c1
    by_cases c2 : n ≤ 200
    · have hi : f_X12_in n 1 200 = 1 := by rw [in_f, if_pos ⟨by omega, iLe.mp c2⟩]
      rw [if_pos c2, if_neg (by rw [hi]; decide)]
    · have hi : f_X12_in n 1 200 = 0 := by rw [in_f, if_neg (fun z => c2 (iLe.mpr z.2))]
      rw [if_neg c2, if_pos hi]
