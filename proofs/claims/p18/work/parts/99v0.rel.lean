/-! ===== the compared call answers alike ===== -/
theorem eq_second {S S2 : Cst} {M : MS} {v : Int32} (r : RQ S M) (_ : KI S 82) (mi : MI M) (x1 : Int32) (e : f_Y10_second S 82 x1 = (v, S2)) : v = (f_X12_second M x1).1 := (ac_second r mi x1 e).1
