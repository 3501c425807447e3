/-! ===== the compared call answers alike ===== -/
theorem eq_lay {S S2 : Cst} {M : MS} {v : Int32} (r : RQ S M) (_ : KI S 82) (mi : MI M) (x1 : Int32) (e : f_Y10_lay S 82 x1 = (v, S2)) : v = (f_X12_lay M x1).1 := (ac_lay r mi x1 e).1
