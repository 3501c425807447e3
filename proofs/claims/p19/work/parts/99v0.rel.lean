/-! ===== the compared call answers alike ===== -/
theorem eq_vote {S S2 : Cst} {M : MS} {v : Int32} (r : RQ S M) (_ : KI S 82) (mi : MI M) (x1 x2 : Int32) (e : f_Y10_vote S 82 x1 x2 = (v, S2)) : v = (f_X12_vote M x1 x2).1 := (ac_vote r mi x1 x2 e).1
