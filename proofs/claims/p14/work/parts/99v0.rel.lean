/-! ===== the compared call answers alike ===== -/
theorem eq_word {S S2 : Cst} {M : MS} {v : Int32} (r : RQ S M) (_ : KI S 82) (mi : MI M) (x1 x2 x3 x4 : Int32) (e : f_Y10_word S 82 x1 x2 x3 x4 = (v, S2)) : v = (f_X12_word M x1 x2 x3 x4).1 := (ac_word r mi x1 x2 x3 x4 e).1
