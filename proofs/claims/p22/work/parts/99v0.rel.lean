/-! ===== the compared call answers alike ===== -/
theorem eq_appeal {S S2 : Cst} {M : MS} {v : Int32} (r : RQ S M) (_ : KI S 82) (mi : MI M) (x1 : Int32) (e : f_Y10_appeal S 82 x1 = (v, S2)) : v = (f_X12_appeal M x1).1 := (ac_appeal r mi x1 e).1
