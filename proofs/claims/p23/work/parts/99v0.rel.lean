/-! ===== the compared call answers alike ===== -/
theorem eq_told {S S2 : Cst} {M : MS} {v : Int32} (r : RQ S M) (_ : KI S 82) (mi : MI M) (e : f_Y10_told S 82 = (v, S2)) : v = (f_X12_told M).1 := (ac_told r mi e).1
