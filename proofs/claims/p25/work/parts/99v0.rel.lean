/-! ===== the compared call answers alike ===== -/
theorem eq_order {S S2 : Cst} {M : MS} {v : Int32} (r : RQ S M) (_ : KI S 82) (mi : MI M) (x1 : Int32) (e : f_Y10_order S 82 x1 = (v, S2)) : v = (f_X12_order M x1).1 := (ac_order r mi x1 e).1
