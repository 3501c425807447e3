/-! ===== the compared call answers alike ===== -/
theorem eq_adjourn {S S2 : Cst} {M : MS} {v : Int32} (r : RQ S M) (_ : KI S 82) (mi : MI M) (e : f_Y10_adjourn S 82 = (v, S2)) : v = (f_X12_adjourn M).1 := (ac_adjourn r mi e).1
