/-! ===== the compared call answers alike ===== -/
theorem eq_move {S S2 : Cst} {M : MS} {v : Int32} (r : RQ S M) (_ : KI S 82) (mi : MI M) (x1 : Int32) (e : f_Y10_move S 82 x1 = (v, S2)) : v = (f_X12_move M x1).1 := (ac_move r mi x1 e).1
