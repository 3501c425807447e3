/-! ===== every call keeps it ===== -/
section
theorem rl_seats {S S2 : Cst} {M : MS} {v : Int32} (r : RQ S M) (_ : KI S 82) (mi : MI M) (x1 : Int32) (e : f_Y10_seats S 82 x1 = (v, S2)) : RQ S2 (f_X12_seats M x1).2 := (ac_seats r mi x1 e).2
theorem rl_there {S S2 : Cst} {M : MS} {v : Int32} (r : RQ S M) (_ : KI S 82) (mi : MI M) (x1 : Int32) (e : f_Y10_there S 82 x1 = (v, S2)) : RQ S2 (f_X12_there M x1).2 := (ac_there r mi x1 e).2
theorem rl_gone {S S2 : Cst} {M : MS} {v : Int32} (r : RQ S M) (_ : KI S 82) (mi : MI M) (x1 : Int32) (e : f_Y10_gone S 82 x1 = (v, S2)) : RQ S2 (f_X12_gone M x1).2 := (ac_gone r mi x1 e).2
theorem rl_quorum {S S2 : Cst} {M : MS} {v : Int32} (r : RQ S M) (_ : KI S 82) (mi : MI M) (x1 : Int32) (e : f_Y10_quorum S 82 x1 = (v, S2)) : RQ S2 (f_X12_quorum M x1).2 := (ac_quorum r mi x1 e).2
theorem rl_chair {S S2 : Cst} {M : MS} {v : Int32} (r : RQ S M) (_ : KI S 82) (mi : MI M) (x1 : Int32) (e : f_Y10_chair S 82 x1 = (v, S2)) : RQ S2 (f_X12_chair M x1).2 := (ac_chair r mi x1 e).2
theorem rl_majority {S S2 : Cst} {M : MS} {v : Int32} (r : RQ S M) (_ : KI S 82) (mi : MI M) (x1 x2 : Int32) (e : f_Y10_majority S 82 x1 x2 = (v, S2)) : RQ S2 (f_X12_majority M x1 x2).2 := (ac_majority r mi x1 x2 e).2
theorem rl_limit {S S2 : Cst} {M : MS} {v : Int32} (r : RQ S M) (_ : KI S 82) (mi : MI M) (x1 : Int32) (e : f_Y10_limit S 82 x1 = (v, S2)) : RQ S2 (f_X12_limit M x1).2 := (ac_limit r mi x1 e).2
theorem rl_floor {S S2 : Cst} {M : MS} {v : Int32} (r : RQ S M) (_ : KI S 82) (mi : MI M) (x1 : Int32) (e : f_Y10_floor S 82 x1 = (v, S2)) : RQ S2 (f_X12_floor M x1).2 := (ac_floor r mi x1 e).2
theorem rl_cede {S S2 : Cst} {M : MS} {v : Int32} (r : RQ S M) (_ : KI S 82) (mi : MI M) (e : f_Y10_cede S 82 = (v, S2)) : RQ S2 (f_X12_cede M).2 := (ac_cede r mi e).2
theorem rl_debate {S S2 : Cst} {M : MS} {v : Int32} (r : RQ S M) (_ : KI S 82) (mi : MI M) (x1 : Int32) (e : f_Y10_debate S 82 x1 = (v, S2)) : RQ S2 (f_X12_debate M x1).2 := (ac_debate r mi x1 e).2
theorem rl_draft {S S2 : Cst} {M : MS} {v : Int32} (r : RQ S M) (_ : KI S 82) (mi : MI M) (x1 : Int32) (e : f_Y10_draft S 82 x1 = (v, S2)) : RQ S2 (f_X12_draft M x1).2 := (ac_draft r mi x1 e).2
theorem rl_span {S S2 : Cst} {M : MS} {v : Int32} (r : RQ S M) (_ : KI S 82) (mi : MI M) (x1 x2 : Int32) (e : f_Y10_span S 82 x1 x2 = (v, S2)) : RQ S2 (f_X12_span M x1 x2).2 := (ac_span r mi x1 x2 e).2
theorem rl_word {S S2 : Cst} {M : MS} {v : Int32} (r : RQ S M) (_ : KI S 82) (mi : MI M) (x1 x2 x3 x4 : Int32) (e : f_Y10_word S 82 x1 x2 x3 x4 = (v, S2)) : RQ S2 (f_X12_word M x1 x2 x3 x4).2 := (ac_word r mi x1 x2 x3 x4 e).2
theorem rl_lay {S S2 : Cst} {M : MS} {v : Int32} (r : RQ S M) (_ : KI S 82) (mi : MI M) (x1 : Int32) (e : f_Y10_lay S 82 x1 = (v, S2)) : RQ S2 (f_X12_lay M x1).2 := (ac_lay r mi x1 e).2
theorem rl_take {S S2 : Cst} {M : MS} {v : Int32} (r : RQ S M) (_ : KI S 82) (mi : MI M) (x1 : Int32) (e : f_Y10_take S 82 x1 = (v, S2)) : RQ S2 (f_X12_take M x1).2 := (ac_take r mi x1 e).2
theorem rl_move {S S2 : Cst} {M : MS} {v : Int32} (r : RQ S M) (_ : KI S 82) (mi : MI M) (x1 : Int32) (e : f_Y10_move S 82 x1 = (v, S2)) : RQ S2 (f_X12_move M x1).2 := (ac_move r mi x1 e).2
theorem rl_second {S S2 : Cst} {M : MS} {v : Int32} (r : RQ S M) (_ : KI S 82) (mi : MI M) (x1 : Int32) (e : f_Y10_second S 82 x1 = (v, S2)) : RQ S2 (f_X12_second M x1).2 := (ac_second r mi x1 e).2
theorem rl_vote {S S2 : Cst} {M : MS} {v : Int32} (r : RQ S M) (_ : KI S 82) (mi : MI M) (x1 x2 : Int32) (e : f_Y10_vote S 82 x1 x2 = (v, S2)) : RQ S2 (f_X12_vote M x1 x2).2 := (ac_vote r mi x1 x2 e).2
theorem rl_withdraw {S S2 : Cst} {M : MS} {v : Int32} (r : RQ S M) (_ : KI S 82) (mi : MI M) (x1 : Int32) (e : f_Y10_withdraw S 82 x1 = (v, S2)) : RQ S2 (f_X12_withdraw M x1).2 := (ac_withdraw r mi x1 e).2
theorem rl_rule {S S2 : Cst} {M : MS} {v : Int32} (r : RQ S M) (_ : KI S 82) (mi : MI M) (e : f_Y10_rule S 82 = (v, S2)) : RQ S2 (f_X12_rule M).2 := (ac_rule r mi e).2
theorem rl_appeal {S S2 : Cst} {M : MS} {v : Int32} (r : RQ S M) (_ : KI S 82) (mi : MI M) (x1 : Int32) (e : f_Y10_appeal S 82 x1 = (v, S2)) : RQ S2 (f_X12_appeal M x1).2 := (ac_appeal r mi x1 e).2
theorem rl_told {S S2 : Cst} {M : MS} {v : Int32} (r : RQ S M) (_ : KI S 82) (mi : MI M) (e : f_Y10_told S 82 = (v, S2)) : RQ S2 (f_X12_told M).2 := (ac_told r mi e).2
theorem rl_adjourn {S S2 : Cst} {M : MS} {v : Int32} (r : RQ S M) (_ : KI S 82) (mi : MI M) (e : f_Y10_adjourn S 82 = (v, S2)) : RQ S2 (f_X12_adjourn M).2 := (ac_adjourn r mi e).2
theorem rl_order {S S2 : Cst} {M : MS} {v : Int32} (r : RQ S M) (_ : KI S 82) (mi : MI M) (x1 : Int32) (e : f_Y10_order S 82 x1 = (v, S2)) : RQ S2 (f_X12_order M x1).2 := (ac_order r mi x1 e).2
theorem rl_why {S : Cst} {M : MS} (r : RQ S M) (_ : KI S 82) (mi : MI M) : RQ S (f_X12_why M).2 := r
theorem rl_pending {S : Cst} {M : MS} (r : RQ S M) (_ : KI S 82) (mi : MI M) (x1 x2 : Int32) : RQ S (f_X12_pending M x1 x2).2 := by
  rw [ms_pending]
  exact r
theorem rl_text {S : Cst} {M : MS} (r : RQ S M) (_ : KI S 82) (mi : MI M) (x1 x2 : Int32) : RQ S (f_X12_text M x1 x2).2 := by
  rw [ms_text]
  exact r
theorem rl_ballot {S : Cst} {M : MS} (r : RQ S M) (_ : KI S 82) (mi : MI M) (x1 : Int32) : RQ S (f_X12_ballot M x1).2 := by
  rw [ms_ballot]
  exact r
theorem rl_desk {S : Cst} {M : MS} (r : RQ S M) (_ : KI S 82) (mi : MI M) (x1 x2 : Int32) : RQ S (f_X12_desk M x1 x2).2 := by
  rw [ms_desk]
  exact r
theorem rl_lying {S : Cst} {M : MS} (r : RQ S M) (_ : KI S 82) (mi : MI M) (x1 x2 : Int32) : RQ S (f_X12_lying M x1 x2).2 := by
  rw [ms_lying]
  exact r
theorem rl_result {S : Cst} {M : MS} (r : RQ S M) (_ : KI S 82) (mi : MI M) (x1 x2 : Int32) : RQ S (f_X12_result M x1 x2).2 := by
  rw [ms_result]
  exact r
theorem rl_count {S : Cst} {M : MS} (r : RQ S M) (_ : KI S 82) (mi : MI M) (x1 : Int32) : RQ S (f_X12_count M x1).2 := by
  rw [ms_count]
  exact r
theorem rl_seat {S : Cst} {M : MS} (r : RQ S M) (_ : KI S 82) (mi : MI M) (x1 : Int32) : RQ S (f_X12_seat M x1).2 := by
  rw [ms_seat]
  exact r
theorem rl_journal {S : Cst} {M : MS} (r : RQ S M) (_ : KI S 82) (mi : MI M) (x1 x2 : Int32) : RQ S (f_X12_journal M x1 x2).2 := by
  rw [ms_journal]
  exact r
theorem rl_before {S S2 : Cst} {M : MS} {v : Int32} (r : RQ S M) (_ : KI S 82) (mi : MI M) (x1 x2 x3 : Int32) (e : f_Y10_before S 82 x1 x2 x3 = (v, S2)) : RQ S2 (f_X12_before M x1 x2 x3).2 := rq_before r mi x1 x2 x3 e
theorem rl_again {S S2 : Cst} {M : MS} {v : Int32} (r : RQ S M) (_ : KI S 82) (mi : MI M) (e : f_Y10_again S 82 = (v, S2)) : RQ S2 (f_X12_again M).2 := (ac_again r mi e).2
theorem rl_tell {S S2 : Cst} {M : MS} {v : Int32} (r : RQ S M) (_ : KI S 82) (mi : MI M) (x1 x2 x3 x4 x5 x6 : Int32) (e : f_Y10_tell S 82 x1 x2 x3 x4 x5 x6 = (v, S2)) : RQ S2 (f_X12_tell M x1 x2 x3 x4 x5 x6).2 := (ac_tell r mi x1 x2 x3 x4 x5 x6 e).2
theorem rl_check {S S2 : Cst} {M : MS} {v : Int32} (r : RQ S M) (_ : KI S 82) (mi : MI M) (e : f_Y10_check S 82 = (v, S2)) : RQ S2 (f_X12_check M).2 := rq_check r mi e
theorem rl_strike {S S2 : Cst} {M : MS} {v : Int32} (r : RQ S M) (_ : KI S 82) (mi : MI M) (e : f_Y10_strike S 82 = (v, S2)) : RQ S2 (f_X12_strike M).2 := (ac_strike r mi e).2
theorem rl_image {S S2 : Cst} {M : MS} {v : Int32} (r : RQ S M) (_ : KI S 82) (mi : MI M) (x1 : Int32) (e : f_Y10_image S 82 x1 = (v, S2)) : RQ S2 (f_X12_image M x1).2 := (ac_image r mi x1 e).2
theorem rl_back {S S2 : Cst} {M : MS} {v : Int32} (r : RQ S M) (_ : KI S 82) (mi : MI M) (x1 : Int32) (e : f_Y10_back S 82 x1 = (v, S2)) : RQ S2 (f_X12_back M x1).2 := (ac_back r mi x1 e).2
end
