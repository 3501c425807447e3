def b_X11_reason_128 (S : HS) (x1 x2 x3 x4 x5 y0 : Int32) : Int32 × HS := (y0, S)
def q_X11_reason_128 (S : HS) (x1 x2 x3 x4 x5 y0 : Int32) : Prop := True
def b_X11_reason_a105 (S : HS) (x1 x2 x3 x4 x5 y0 : Int32) : Int32 × HS := if y0 = 0 then (b_X11_reason_128 S x1 x2 x3 x4 x5 9) else if (S.2 11 x2.toNatClampNeg) = 0 then (b_X11_reason_128 S x1 x2 x3 x4 x5 0) else (b_X11_reason_128 S x1 x2 x3 x4 x5 11)
def q_X11_reason_a105 (S : HS) (x1 x2 x3 x4 x5 y0 : Int32) : Prop := (if y0 = 0 then (q_X11_reason_128 S x1 x2 x3 x4 x5 9) else (vp_in x2 200) ∧ (if (S.2 11 x2.toNatClampNeg) = 0 then (q_X11_reason_128 S x1 x2 x3 x4 x5 0) else (q_X11_reason_128 S x1 x2 x3 x4 x5 11)))
def b_X11_reason_157 (S : HS) (x1 x2 x3 x4 x5 y0 : Int32) : Int32 × HS := (y0, S)
def q_X11_reason_157 (S : HS) (x1 x2 x3 x4 x5 y0 : Int32) : Prop := True
def b_X11_reason_a134 (S : HS) (x1 x2 x3 x4 x5 y0 : Int32) : Int32 × HS := if y0 = 0 then (b_X11_reason_157 S x1 x2 x3 x4 x5 9) else if (S.2 11 x2.toNatClampNeg) = 0 then (b_X11_reason_157 S x1 x2 x3 x4 x5 8) else (b_X11_reason_157 S x1 x2 x3 x4 x5 0)
def q_X11_reason_a134 (S : HS) (x1 x2 x3 x4 x5 y0 : Int32) : Prop := (if y0 = 0 then (q_X11_reason_157 S x1 x2 x3 x4 x5 9) else (vp_in x2 200) ∧ (if (S.2 11 x2.toNatClampNeg) = 0 then (q_X11_reason_157 S x1 x2 x3 x4 x5 8) else (q_X11_reason_157 S x1 x2 x3 x4 x5 0)))
def b_X11_reason_129 (S : HS) (x1 x2 x3 x4 x5 : Int32) : Int32 × HS := (b_X11_reason_a134 (f_X11_isSeat S x2).2 x1 x2 x3 x4 x5 (f_X11_isSeat S x2).1)
def q_X11_reason_129 (S : HS) (x1 x2 x3 x4 x5 : Int32) : Prop := (p_X11_isSeat S x2) ∧ (q_X11_reason_a134 (f_X11_isSeat S x2).2 x1 x2 x3 x4 x5 (f_X11_isSeat S x2).1)
def b_X11_reason_187 (S : HS) (x1 x2 x3 x4 x5 y0 : Int32) : Int32 × HS := (y0, S)
def q_X11_reason_187 (S : HS) (x1 x2 x3 x4 x5 y0 : Int32) : Prop := True
def b_X11_reason_225 (S : HS) (x1 x2 x3 x4 x5 y0 : Int32) : Int32 × HS := (y0, S)
def q_X11_reason_225 (S : HS) (x1 x2 x3 x4 x5 y0 : Int32) : Prop := True
def b_X11_reason_207 (S : HS) (x1 x2 x3 x4 x5 : Int32) : Int32 × HS := (b_X11_reason_225 S x1 x2 x3 x4 x5 9)
def q_X11_reason_207 (S : HS) (x1 x2 x3 x4 x5 : Int32) : Prop := (q_X11_reason_225 S x1 x2 x3 x4 x5 9)
def b_X11_reason_254 (S : HS) (x1 x2 x3 x4 x5 y0 : Int32) : Int32 × HS := (y0, S)
def q_X11_reason_254 (S : HS) (x1 x2 x3 x4 x5 y0 : Int32) : Prop := True
def b_X11_reason_294 (S : HS) (x1 x2 x3 x4 x5 : Int32) : Int32 × HS := (2, S)
def q_X11_reason_294 (S : HS) (x1 x2 x3 x4 x5 : Int32) : Prop := True
def b_X11_reason_360 (S : HS) (x1 x2 x3 x4 x5 y0 : Int32) : Int32 × HS := (y0, S)
def q_X11_reason_360 (S : HS) (x1 x2 x3 x4 x5 y0 : Int32) : Prop := True
def b_X11_reason_354 (S : HS) (x1 x2 x3 x4 x5 : Int32) : Int32 × HS := (b_X11_reason_360 S x1 x2 x3 x4 x5 6)
def q_X11_reason_354 (S : HS) (x1 x2 x3 x4 x5 : Int32) : Prop := (q_X11_reason_360 S x1 x2 x3 x4 x5 6)
def b_X11_reason_359 (S : HS) (x1 x2 x3 x4 x5 : Int32) : Int32 × HS := (b_X11_reason_360 S x1 x2 x3 x4 x5 0)
def q_X11_reason_359 (S : HS) (x1 x2 x3 x4 x5 : Int32) : Prop := (q_X11_reason_360 S x1 x2 x3 x4 x5 0)
def b_X11_reason_a346 (S : HS) (x1 x2 x3 x4 x5 y0 : Int32) : Int32 × HS := if (S.2 17 y0.toNatClampNeg) < (S.1 4) then (b_X11_reason_359 S x1 x2 x3 x4 x5) else (b_X11_reason_354 S x1 x2 x3 x4 x5)
def q_X11_reason_a346 (S : HS) (x1 x2 x3 x4 x5 y0 : Int32) : Prop := (vp_in y0 90) ∧ (if (S.2 17 y0.toNatClampNeg) < (S.1 4) then (q_X11_reason_359 S x1 x2 x3 x4 x5) else (q_X11_reason_354 S x1 x2 x3 x4 x5))
def b_X11_reason_a327 (S : HS) (x1 x2 x3 x4 x5 y0 : Int32) : Int32 × HS := if (S.2 24 y0.toNatClampNeg) = 0 then if (S.1 4) ≤ 0 then (b_X11_reason_359 S x1 x2 x3 x4 x5) else (b_X11_reason_a346 (f_X11_top S ).2 x1 x2 x3 x4 x5 (f_X11_top S ).1) else (b_X11_reason_354 S x1 x2 x3 x4 x5)
def q_X11_reason_a327 (S : HS) (x1 x2 x3 x4 x5 y0 : Int32) : Prop := (vp_in y0 90) ∧ (if (S.2 24 y0.toNatClampNeg) = 0 then (if (S.1 4) ≤ 0 then (q_X11_reason_359 S x1 x2 x3 x4 x5) else (p_X11_top S ) ∧ (q_X11_reason_a346 (f_X11_top S ).2 x1 x2 x3 x4 x5 (f_X11_top S ).1)) else (q_X11_reason_354 S x1 x2 x3 x4 x5))
def b_X11_reason_a313 (S : HS) (x1 x2 x3 x4 x5 y0 : Int32) : Int32 × HS := if (S.2 14 y0.toNatClampNeg) = 6 then (b_X11_reason_354 S x1 x2 x3 x4 x5) else (b_X11_reason_a327 (f_X11_top S ).2 x1 x2 x3 x4 x5 (f_X11_top S ).1)
def q_X11_reason_a313 (S : HS) (x1 x2 x3 x4 x5 y0 : Int32) : Prop := (vp_in y0 90) ∧ (if (S.2 14 y0.toNatClampNeg) = 6 then (q_X11_reason_354 S x1 x2 x3 x4 x5) else (p_X11_top S ) ∧ (q_X11_reason_a327 (f_X11_top S ).2 x1 x2 x3 x4 x5 (f_X11_top S ).1))
def b_X11_reason_a260 (S : HS) (x1 x2 x3 x4 x5 y0 : Int32) : Int32 × HS := if y0 = 0 then (9, S) else if (S.2 11 x2.toNatClampNeg) = 0 then (8, S) else if x2 = (S.1 2) then (b_X11_reason_294 S x1 x2 x3 x4 x5) else if (S.1 5) = (-1) then if (S.1 6) = 0 then (0, S) else (b_X11_reason_a313 (f_X11_top S ).2 x1 x2 x3 x4 x5 (f_X11_top S ).1) else (b_X11_reason_294 S x1 x2 x3 x4 x5)
def q_X11_reason_a260 (S : HS) (x1 x2 x3 x4 x5 y0 : Int32) : Prop := (if y0 = 0 then True else (vp_in x2 200) ∧ (if (S.2 11 x2.toNatClampNeg) = 0 then True else (if x2 = (S.1 2) then (q_X11_reason_294 S x1 x2 x3 x4 x5) else (if (S.1 5) = (-1) then (if (S.1 6) = 0 then True else (p_X11_top S ) ∧ (q_X11_reason_a313 (f_X11_top S ).2 x1 x2 x3 x4 x5 (f_X11_top S ).1)) else (q_X11_reason_294 S x1 x2 x3 x4 x5)))))
def b_X11_reason_374 (S : HS) (x1 x2 x3 x4 x5 y0 : Int32) : Int32 × HS := (y0, S)
def q_X11_reason_374 (S : HS) (x1 x2 x3 x4 x5 y0 : Int32) : Prop := True
def b_X11_reason_401 (S : HS) (x1 x2 x3 x4 x5 : Int32) : Int32 × HS := (2, S)
def q_X11_reason_401 (S : HS) (x1 x2 x3 x4 x5 : Int32) : Prop := True
def b_X11_reason_437 (S : HS) (x1 x2 x3 x4 x5 y0 : Int32) : Int32 × HS := (y0, S)
def q_X11_reason_437 (S : HS) (x1 x2 x3 x4 x5 y0 : Int32) : Prop := True
def b_X11_reason_a420 (S : HS) (x1 x2 x3 x4 x5 y0 : Int32) : Int32 × HS := if (f_X12_in (S.2 14 y0.toNatClampNeg) 6 8) = 0 then (b_X11_reason_437 S x1 x2 x3 x4 x5 0) else (b_X11_reason_437 S x1 x2 x3 x4 x5 6)
def q_X11_reason_a420 (S : HS) (x1 x2 x3 x4 x5 y0 : Int32) : Prop := (vp_in y0 90) ∧ (p_X12_in (S.2 14 y0.toNatClampNeg) 6 8) ∧ (if (f_X12_in (S.2 14 y0.toNatClampNeg) 6 8) = 0 then (q_X11_reason_437 S x1 x2 x3 x4 x5 0) else (q_X11_reason_437 S x1 x2 x3 x4 x5 6))
def b_X11_reason_a407 (S : HS) (x1 x2 x3 x4 x5 y0 : Int32) : Int32 × HS := if y0 = 0 then (3, S) else (b_X11_reason_a420 (f_X11_top S ).2 x1 x2 x3 x4 x5 (f_X11_top S ).1)
def q_X11_reason_a407 (S : HS) (x1 x2 x3 x4 x5 y0 : Int32) : Prop := (if y0 = 0 then True else (p_X11_top S ) ∧ (q_X11_reason_a420 (f_X11_top S ).2 x1 x2 x3 x4 x5 (f_X11_top S ).1))
def b_X11_reason_454 (S : HS) (x1 x2 x3 x4 x5 y0 : Int32) : Int32 × HS := (y0, S)
def q_X11_reason_454 (S : HS) (x1 x2 x3 x4 x5 y0 : Int32) : Prop := True
def b_X11_reason_516 (S : HS) (x1 x2 x3 x4 x5 y0 : Int32) : Int32 × HS := (y0, S)
def q_X11_reason_516 (S : HS) (x1 x2 x3 x4 x5 y0 : Int32) : Prop := True
def b_X11_reason_478 (S : HS) (x1 x2 x3 x4 x5 : Int32) : Int32 × HS := (b_X11_reason_516 S x1 x2 x3 x4 x5 11)
def q_X11_reason_478 (S : HS) (x1 x2 x3 x4 x5 : Int32) : Prop := (q_X11_reason_516 S x1 x2 x3 x4 x5 11)
def b_X11_reason_510 (S : HS) (x1 x2 x3 x4 x5 : Int32) : Int32 × HS := (b_X11_reason_516 S x1 x2 x3 x4 x5 9)
def q_X11_reason_510 (S : HS) (x1 x2 x3 x4 x5 : Int32) : Prop := (q_X11_reason_516 S x1 x2 x3 x4 x5 9)
def b_X11_reason_a461 (S : HS) (x1 x2 x3 x4 x5 y0 : Int32) : Int32 × HS := if y0 = 0 then (b_X11_reason_478 S x1 x2 x3 x4 x5) else if (S.2 25 (S.2 32 (0 : Int32).toNatClampNeg).toNatClampNeg) = 0 then if (f_X12_in x2 0 400) = 0 then (b_X11_reason_510 S x1 x2 x3 x4 x5) else if (f_X12_in x3 0 400) = 0 then (b_X11_reason_510 S x1 x2 x3 x4 x5) else if x2 ≤ x3 then (b_X11_reason_516 S x1 x2 x3 x4 x5 0) else (b_X11_reason_510 S x1 x2 x3 x4 x5) else (b_X11_reason_478 S x1 x2 x3 x4 x5)
def q_X11_reason_a461 (S : HS) (x1 x2 x3 x4 x5 y0 : Int32) : Prop := (if y0 = 0 then (q_X11_reason_478 S x1 x2 x3 x4 x5) else (vp_in 0 9) ∧ (vp_in (S.2 32 (0 : Int32).toNatClampNeg) 90) ∧ (if (S.2 25 (S.2 32 (0 : Int32).toNatClampNeg).toNatClampNeg) = 0 then (p_X12_in x2 0 400) ∧ (if (f_X12_in x2 0 400) = 0 then (q_X11_reason_510 S x1 x2 x3 x4 x5) else (p_X12_in x3 0 400) ∧ (if (f_X12_in x3 0 400) = 0 then (q_X11_reason_510 S x1 x2 x3 x4 x5) else (if x2 ≤ x3 then (q_X11_reason_516 S x1 x2 x3 x4 x5 0) else (q_X11_reason_510 S x1 x2 x3 x4 x5)))) else (q_X11_reason_478 S x1 x2 x3 x4 x5)))
def b_X11_reason_a527 (S : HS) (x1 x2 x3 x4 x5 y0 : Int32) : Int32 × HS := (y0, S)
def q_X11_reason_a527 (S : HS) (x1 x2 x3 x4 x5 y0 : Int32) : Prop := True
def b_X11_reason_a533 (S : HS) (x1 x2 x3 x4 x5 y0 : Int32) : Int32 × HS := (y0, S)
def q_X11_reason_a533 (S : HS) (x1 x2 x3 x4 x5 y0 : Int32) : Prop := True
def b_X11_reason_571 (S : HS) (x1 x2 x3 x4 x5 y0 : Int32) : Int32 × HS := (y0, S)
def q_X11_reason_571 (S : HS) (x1 x2 x3 x4 x5 y0 : Int32) : Prop := True
def b_X11_reason_565 (S : HS) (x1 x2 x3 x4 x5 : Int32) : Int32 × HS := (b_X11_reason_571 S x1 x2 x3 x4 x5 11)
def q_X11_reason_565 (S : HS) (x1 x2 x3 x4 x5 : Int32) : Prop := (q_X11_reason_571 S x1 x2 x3 x4 x5 11)
def b_X11_reason_a577 (S : HS) (x1 x2 x3 x4 x5 y0 : Int32) : Int32 × HS := (y0, S)
def q_X11_reason_a577 (S : HS) (x1 x2 x3 x4 x5 y0 : Int32) : Prop := True
def b_X11_reason_632 (S : HS) (x1 x2 x3 x4 x5 : Int32) : Int32 × HS := (3, S)
def q_X11_reason_632 (S : HS) (x1 x2 x3 x4 x5 : Int32) : Prop := True
def b_X11_reason_660 (S : HS) (x1 x2 x3 x4 x5 y0 : Int32) : Int32 × HS := (y0, S)
def q_X11_reason_660 (S : HS) (x1 x2 x3 x4 x5 y0 : Int32) : Prop := True
def b_X11_reason_655 (S : HS) (x1 x2 x3 x4 x5 : Int32) : Int32 × HS := (b_X11_reason_660 S x1 x2 x3 x4 x5 2)
def q_X11_reason_655 (S : HS) (x1 x2 x3 x4 x5 : Int32) : Prop := (q_X11_reason_660 S x1 x2 x3 x4 x5 2)
def b_X11_reason_a643 (S : HS) (x1 x2 x3 x4 x5 y0 y1 : Int32) : Int32 × HS := if y1 = (S.2 15 y0.toNatClampNeg) then (b_X11_reason_655 S x1 x2 x3 x4 x5) else if x2 = (S.1 2) then (b_X11_reason_655 S x1 x2 x3 x4 x5) else (b_X11_reason_660 S x1 x2 x3 x4 x5 0)
def q_X11_reason_a643 (S : HS) (x1 x2 x3 x4 x5 y0 y1 : Int32) : Prop := (vp_in y0 90) ∧ (if y1 = (S.2 15 y0.toNatClampNeg) then (q_X11_reason_655 S x1 x2 x3 x4 x5) else (if x2 = (S.1 2) then (q_X11_reason_655 S x1 x2 x3 x4 x5) else (q_X11_reason_660 S x1 x2 x3 x4 x5 0)))
def b_X11_reason_a626 (S : HS) (x1 x2 x3 x4 x5 y0 : Int32) : Int32 × HS := if (S.2 14 y0.toNatClampNeg) = 9 then (b_X11_reason_632 S x1 x2 x3 x4 x5) else (b_X11_reason_a643 (f_X11_top S ).2 x1 x2 x3 x4 x5 (f_X11_top S ).1 x2)
def q_X11_reason_a626 (S : HS) (x1 x2 x3 x4 x5 y0 : Int32) : Prop := (vp_in y0 90) ∧ (if (S.2 14 y0.toNatClampNeg) = 9 then (q_X11_reason_632 S x1 x2 x3 x4 x5) else (p_X11_top S ) ∧ (q_X11_reason_a643 (f_X11_top S ).2 x1 x2 x3 x4 x5 (f_X11_top S ).1 x2))
def b_X11_reason_a615 (S : HS) (x1 x2 x3 x4 x5 y0 : Int32) : Int32 × HS := if y0 = 0 then (b_X11_reason_a626 (f_X11_top S ).2 x1 x2 x3 x4 x5 (f_X11_top S ).1) else (b_X11_reason_632 S x1 x2 x3 x4 x5)
def q_X11_reason_a615 (S : HS) (x1 x2 x3 x4 x5 y0 : Int32) : Prop := (if y0 = 0 then (p_X11_top S ) ∧ (q_X11_reason_a626 (f_X11_top S ).2 x1 x2 x3 x4 x5 (f_X11_top S ).1) else (q_X11_reason_632 S x1 x2 x3 x4 x5))
def b_X11_reason_a593 (S : HS) (x1 x2 x3 x4 x5 y0 : Int32) : Int32 × HS := if y0 = 0 then (9, S) else if (S.2 11 x2.toNatClampNeg) = 0 then (8, S) else (b_X11_reason_a615 (f_X11_hasSeconder S ).2 x1 x2 x3 x4 x5 (f_X11_hasSeconder S ).1)
def q_X11_reason_a593 (S : HS) (x1 x2 x3 x4 x5 y0 : Int32) : Prop := (if y0 = 0 then True else (vp_in x2 200) ∧ (if (S.2 11 x2.toNatClampNeg) = 0 then True else (p_X11_hasSeconder S ) ∧ (q_X11_reason_a615 (f_X11_hasSeconder S ).2 x1 x2 x3 x4 x5 (f_X11_hasSeconder S ).1)))
def b_X11_reason_688 (S : HS) (x1 x2 x3 x4 x5 : Int32) : Int32 × HS := (9, S)
def q_X11_reason_688 (S : HS) (x1 x2 x3 x4 x5 : Int32) : Prop := True
def b_X11_reason_715 (S : HS) (x1 x2 x3 x4 x5 y0 : Int32) : Int32 × HS := (y0, S)
def q_X11_reason_715 (S : HS) (x1 x2 x3 x4 x5 y0 : Int32) : Prop := True
def b_X11_reason_a707 (S : HS) (x1 x2 x3 x4 x5 y0 : Int32) : Int32 × HS := if y0 = 0 then (b_X11_reason_715 S x1 x2 x3 x4 x5 3) else (b_X11_reason_715 S x1 x2 x3 x4 x5 0)
def q_X11_reason_a707 (S : HS) (x1 x2 x3 x4 x5 y0 : Int32) : Prop := (if y0 = 0 then (q_X11_reason_715 S x1 x2 x3 x4 x5 3) else (q_X11_reason_715 S x1 x2 x3 x4 x5 0))
def b_X11_reason_a676 (S : HS) (x1 x2 x3 x4 x5 y0 : Int32) : Int32 × HS := if y0 = 0 then (b_X11_reason_688 S x1 x2 x3 x4 x5) else if (f_X12_in x3 0 2) = 0 then (b_X11_reason_688 S x1 x2 x3 x4 x5) else if (S.2 11 x2.toNatClampNeg) = 0 then (8, S) else (b_X11_reason_a707 (f_X11_hasSeconder S ).2 x1 x2 x3 x4 x5 (f_X11_hasSeconder S ).1)
def q_X11_reason_a676 (S : HS) (x1 x2 x3 x4 x5 y0 : Int32) : Prop := (if y0 = 0 then (q_X11_reason_688 S x1 x2 x3 x4 x5) else (p_X12_in x3 0 2) ∧ (if (f_X12_in x3 0 2) = 0 then (q_X11_reason_688 S x1 x2 x3 x4 x5) else (vp_in x2 200) ∧ (if (S.2 11 x2.toNatClampNeg) = 0 then True else (p_X11_hasSeconder S ) ∧ (q_X11_reason_a707 (f_X11_hasSeconder S ).2 x1 x2 x3 x4 x5 (f_X11_hasSeconder S ).1))))
def b_X11_reason_753 (S : HS) (x1 x2 x3 x4 x5 : Int32) : Int32 × HS := (2, S)
def q_X11_reason_753 (S : HS) (x1 x2 x3 x4 x5 : Int32) : Prop := True
def b_X11_reason_769 (S : HS) (x1 x2 x3 x4 x5 y0 : Int32) : Int32 × HS := (y0, S)
def q_X11_reason_769 (S : HS) (x1 x2 x3 x4 x5 y0 : Int32) : Prop := True
def b_X11_reason_a760 (S : HS) (x1 x2 x3 x4 x5 y0 : Int32) : Int32 × HS := if y0 = 0 then (b_X11_reason_769 S x1 x2 x3 x4 x5 8) else (b_X11_reason_769 S x1 x2 x3 x4 x5 0)
def q_X11_reason_a760 (S : HS) (x1 x2 x3 x4 x5 y0 : Int32) : Prop := (if y0 = 0 then (q_X11_reason_769 S x1 x2 x3 x4 x5 8) else (q_X11_reason_769 S x1 x2 x3 x4 x5 0))
def b_X11_reason_a749 (S : HS) (x1 x2 x3 x4 x5 y0 y1 : Int32) : Int32 × HS := if y1 = (S.2 15 y0.toNatClampNeg) then (b_X11_reason_a760 (f_X11_isHere S x2).2 x1 x2 x3 x4 x5 (f_X11_isHere S x2).1) else (b_X11_reason_753 S x1 x2 x3 x4 x5)
def q_X11_reason_a749 (S : HS) (x1 x2 x3 x4 x5 y0 y1 : Int32) : Prop := (vp_in y0 90) ∧ (if y1 = (S.2 15 y0.toNatClampNeg) then (p_X11_isHere S x2) ∧ (q_X11_reason_a760 (f_X11_isHere S x2).2 x1 x2 x3 x4 x5 (f_X11_isHere S x2).1) else (q_X11_reason_753 S x1 x2 x3 x4 x5))
def b_X11_reason_a734 (S : HS) (x1 x2 x3 x4 x5 y0 : Int32) : Int32 × HS := if (S.2 14 y0.toNatClampNeg) = 9 then (b_X11_reason_753 S x1 x2 x3 x4 x5) else (b_X11_reason_a749 (f_X11_top S ).2 x1 x2 x3 x4 x5 (f_X11_top S ).1 x2)
def q_X11_reason_a734 (S : HS) (x1 x2 x3 x4 x5 y0 : Int32) : Prop := (vp_in y0 90) ∧ (if (S.2 14 y0.toNatClampNeg) = 9 then (q_X11_reason_753 S x1 x2 x3 x4 x5) else (p_X11_top S ) ∧ (q_X11_reason_a749 (f_X11_top S ).2 x1 x2 x3 x4 x5 (f_X11_top S ).1 x2))
def b_X11_reason_826 (S : HS) (x1 x2 x3 x4 x5 y0 : Int32) : Int32 × HS := (y0, S)
def q_X11_reason_826 (S : HS) (x1 x2 x3 x4 x5 y0 : Int32) : Prop := True
def b_X11_reason_a802 (S : HS) (x1 x2 x3 x4 x5 y0 : Int32) : Int32 × HS := if (S.2 14 y0.toNatClampNeg) = 9 then (11, S) else if (S.1 6) = 9 then (b_X11_reason_826 S x1 x2 x3 x4 x5 10) else (b_X11_reason_826 S x1 x2 x3 x4 x5 0)
def q_X11_reason_a802 (S : HS) (x1 x2 x3 x4 x5 y0 : Int32) : Prop := (vp_in y0 90) ∧ (if (S.2 14 y0.toNatClampNeg) = 9 then True else (if (S.1 6) = 9 then (q_X11_reason_826 S x1 x2 x3 x4 x5 10) else (q_X11_reason_826 S x1 x2 x3 x4 x5 0)))
def b_X11_reason_a778 (S : HS) (x1 x2 x3 x4 x5 y0 : Int32) : Int32 × HS := if y0 = 0 then (8, S) else if (S.1 6) = 0 then (7, S) else (b_X11_reason_a802 (f_X11_top S ).2 x1 x2 x3 x4 x5 (f_X11_top S ).1)
def q_X11_reason_a778 (S : HS) (x1 x2 x3 x4 x5 y0 : Int32) : Prop := (if y0 = 0 then True else (if (S.1 6) = 0 then True else (p_X11_top S ) ∧ (q_X11_reason_a802 (f_X11_top S ).2 x1 x2 x3 x4 x5 (f_X11_top S ).1)))
def b_X11_reason_858 (S : HS) (x1 x2 x3 x4 x5 : Int32) : Int32 × HS := (11, S)
def q_X11_reason_858 (S : HS) (x1 x2 x3 x4 x5 : Int32) : Prop := True
def b_X11_reason_897 (S : HS) (x1 x2 x3 x4 x5 y0 : Int32) : Int32 × HS := (y0, S)
def q_X11_reason_897 (S : HS) (x1 x2 x3 x4 x5 y0 : Int32) : Prop := True
def b_X11_reason_a866 (S : HS) (x1 x2 x3 x4 x5 y0 : Int32) : Int32 × HS := if y0 = 0 then (9, S) else if (S.2 11 x2.toNatClampNeg) = 0 then (8, S) else if x2 = (S.1 2) then (b_X11_reason_897 S x1 x2 x3 x4 x5 2) else (b_X11_reason_897 S x1 x2 x3 x4 x5 0)
def q_X11_reason_a866 (S : HS) (x1 x2 x3 x4 x5 y0 : Int32) : Prop := (if y0 = 0 then True else (vp_in x2 200) ∧ (if (S.2 11 x2.toNatClampNeg) = 0 then True else (if x2 = (S.1 2) then (q_X11_reason_897 S x1 x2 x3 x4 x5 2) else (q_X11_reason_897 S x1 x2 x3 x4 x5 0))))
def b_X11_reason_a855 (S : HS) (x1 x2 x3 x4 x5 y0 : Int32) : Int32 × HS := if y0 = 0 then (b_X11_reason_a866 (f_X11_isSeat S x2).2 x1 x2 x3 x4 x5 (f_X11_isSeat S x2).1) else (b_X11_reason_858 S x1 x2 x3 x4 x5)
def q_X11_reason_a855 (S : HS) (x1 x2 x3 x4 x5 y0 : Int32) : Prop := (if y0 = 0 then (p_X11_isSeat S x2) ∧ (q_X11_reason_a866 (f_X11_isSeat S x2).2 x1 x2 x3 x4 x5 (f_X11_isSeat S x2).1) else (q_X11_reason_858 S x1 x2 x3 x4 x5))
def b_X11_reason_a845 (S : HS) (x1 x2 x3 x4 x5 y0 : Int32) : Int32 × HS := if (S.2 14 y0.toNatClampNeg) = 9 then (b_X11_reason_a855 (f_X11_hasSeconder S ).2 x1 x2 x3 x4 x5 (f_X11_hasSeconder S ).1) else (b_X11_reason_858 S x1 x2 x3 x4 x5)
def q_X11_reason_a845 (S : HS) (x1 x2 x3 x4 x5 y0 : Int32) : Prop := (vp_in y0 90) ∧ (if (S.2 14 y0.toNatClampNeg) = 9 then (p_X11_hasSeconder S ) ∧ (q_X11_reason_a855 (f_X11_hasSeconder S ).2 x1 x2 x3 x4 x5 (f_X11_hasSeconder S ).1) else (q_X11_reason_858 S x1 x2 x3 x4 x5))
def b_X11_reason_927 (S : HS) (x1 x2 x3 x4 x5 y0 : Int32) : Int32 × HS := (y0, S)
def q_X11_reason_927 (S : HS) (x1 x2 x3 x4 x5 y0 : Int32) : Prop := True
def b_X11_reason_a906 (S : HS) (x1 x2 x3 x4 x5 y0 : Int32) : Int32 × HS := if y0 = 0 then (b_X11_reason_927 S x1 x2 x3 x4 x5 8) else if (S.1 6) = 0 then (b_X11_reason_927 S x1 x2 x3 x4 x5 7) else (b_X11_reason_927 S x1 x2 x3 x4 x5 0)
def q_X11_reason_a906 (S : HS) (x1 x2 x3 x4 x5 y0 : Int32) : Prop := (if y0 = 0 then (q_X11_reason_927 S x1 x2 x3 x4 x5 8) else (if (S.1 6) = 0 then (q_X11_reason_927 S x1 x2 x3 x4 x5 7) else (q_X11_reason_927 S x1 x2 x3 x4 x5 0)))
def b_X11_reason_945 (S : HS) (x1 x2 x3 x4 x5 y0 : Int32) : Int32 × HS := (y0, S)
def q_X11_reason_945 (S : HS) (x1 x2 x3 x4 x5 y0 : Int32) : Prop := True
def b_X11_reason_a936 (S : HS) (x1 x2 x3 x4 x5 y0 : Int32) : Int32 × HS := if y0 = 0 then (b_X11_reason_945 S x1 x2 x3 x4 x5 8) else (b_X11_reason_945 S x1 x2 x3 x4 x5 0)
def q_X11_reason_a936 (S : HS) (x1 x2 x3 x4 x5 y0 : Int32) : Prop := (if y0 = 0 then (q_X11_reason_945 S x1 x2 x3 x4 x5 8) else (q_X11_reason_945 S x1 x2 x3 x4 x5 0))
def f_X11_reason (S : HS) (x1 x2 x3 x4 x5 : Int32) : Int32 × HS := if x1 = 1 then (b_X11_reason_a105 (f_X11_isSeat S x2).2 x1 x2 x3 x4 x5 (f_X11_isSeat S x2).1) else if x1 = 2 then (b_X11_reason_129 S x1 x2 x3 x4 x5) else if x1 = 3 then if (f_X12_in x2 0 200) = 0 then (b_X11_reason_187 S x1 x2 x3 x4 x5 9) else if (S.1 6) ≤ 0 then (b_X11_reason_187 S x1 x2 x3 x4 x5 0) else (b_X11_reason_187 S x1 x2 x3 x4 x5 11) else if x1 = 4 then (b_X11_reason_129 S x1 x2 x3 x4 x5) else if x1 = 5 then if (f_X12_in x2 1 8) = 0 then (b_X11_reason_207 S x1 x2 x3 x4 x5) else if (f_X12_in x3 1 3) = 0 then (b_X11_reason_207 S x1 x2 x3 x4 x5) else if (S.1 6) ≤ 0 then (b_X11_reason_225 S x1 x2 x3 x4 x5 0) else (b_X11_reason_225 S x1 x2 x3 x4 x5 11) else if x1 = 6 then if (f_X12_in x2 0 99) = 0 then (b_X11_reason_254 S x1 x2 x3 x4 x5 9) else if (S.1 6) ≤ 0 then (b_X11_reason_254 S x1 x2 x3 x4 x5 0) else (b_X11_reason_254 S x1 x2 x3 x4 x5 11) else if x1 = 7 then (b_X11_reason_a260 (f_X11_isSeat S x2).2 x1 x2 x3 x4 x5 (f_X11_isSeat S x2).1) else if x1 = 8 then if (S.1 5) = (-1) then (b_X11_reason_374 S x1 x2 x3 x4 x5 2) else (b_X11_reason_374 S x1 x2 x3 x4 x5 0) else if x1 = 9 then if (S.1 6) = 0 then (7, S) else if (S.1 5) = (-1) then (b_X11_reason_401 S x1 x2 x3 x4 x5) else if (S.1 5) = x2 then (b_X11_reason_a407 (f_X11_hasSeconder S ).2 x1 x2 x3 x4 x5 (f_X11_hasSeconder S ).1) else (b_X11_reason_401 S x1 x2 x3 x4 x5) else if x1 = 10 then if (f_X12_in x2 1 8) = 0 then (b_X11_reason_454 S x1 x2 x3 x4 x5 9) else (b_X11_reason_454 S x1 x2 x3 x4 x5 0) else if x1 = 11 then (b_X11_reason_a461 (f_X11_hasDraft S 2 3).2 x1 x2 x3 x4 x5 (f_X11_hasDraft S 2 3).1) else if x1 = 12 then (b_X11_reason_a527 (f_X11_reasonOfWord S x2 x3 x4 x5).2 x1 x2 x3 x4 x5 (f_X11_reasonOfWord S x2 x3 x4 x5).1) else if x1 = 13 then (b_X11_reason_a533 (f_X11_reasonOfLay S x2).2 x1 x2 x3 x4 x5 (f_X11_reasonOfLay S x2).1) else if x1 = 14 then if (f_X12_in x2 0 7) = 0 then (b_X11_reason_571 S x1 x2 x3 x4 x5 9) else if 0 < (S.1 35) then (b_X11_reason_565 S x1 x2 x3 x4 x5) else if (S.2 34 x2.toNatClampNeg) = 0 then (b_X11_reason_565 S x1 x2 x3 x4 x5) else (b_X11_reason_571 S x1 x2 x3 x4 x5 0) else if x1 = 15 then (b_X11_reason_a577 (f_X11_reasonOfMove S x2).2 x1 x2 x3 x4 x5 (f_X11_reasonOfMove S x2).1) else if x1 = 16 then if (S.1 6) = 0 then (7, S) else (b_X11_reason_a593 (f_X11_isSeat S x2).2 x1 x2 x3 x4 x5 (f_X11_isSeat S x2).1) else if x1 = 17 then if (S.1 6) = 0 then (7, S) else (b_X11_reason_a676 (f_X11_isSeat S x2).2 x1 x2 x3 x4 x5 (f_X11_isSeat S x2).1) else if x1 = 18 then if (S.1 6) = 0 then (7, S) else (b_X11_reason_a734 (f_X11_top S ).2 x1 x2 x3 x4 x5 (f_X11_top S ).1) else if x1 = 19 then (b_X11_reason_a778 (f_X11_isHere S (S.1 2)).2 x1 x2 x3 x4 x5 (f_X11_isHere S (S.1 2)).1) else if x1 = 20 then if (S.1 6) = 0 then (7, S) else (b_X11_reason_a845 (f_X11_top S ).2 x1 x2 x3 x4 x5 (f_X11_top S ).1) else if x1 = 21 then (b_X11_reason_a906 (f_X11_isHere S (S.1 2)).2 x1 x2 x3 x4 x5 (f_X11_isHere S (S.1 2)).1) else (b_X11_reason_a936 (f_X11_isHere S (S.1 2)).2 x1 x2 x3 x4 x5 (f_X11_isHere S (S.1 2)).1)
def p_X11_reason (S : HS) (x1 x2 x3 x4 x5 : Int32) : Prop := (if x1 = 1 then (p_X11_isSeat S x2) ∧ (q_X11_reason_a105 (f_X11_isSeat S x2).2 x1 x2 x3 x4 x5 (f_X11_isSeat S x2).1) else (if x1 = 2 then (q_X11_reason_129 S x1 x2 x3 x4 x5) else (if x1 = 3 then (p_X12_in x2 0 200) ∧ (if (f_X12_in x2 0 200) = 0 then (q_X11_reason_187 S x1 x2 x3 x4 x5 9) else (if (S.1 6) ≤ 0 then (q_X11_reason_187 S x1 x2 x3 x4 x5 0) else (q_X11_reason_187 S x1 x2 x3 x4 x5 11))) else (if x1 = 4 then (q_X11_reason_129 S x1 x2 x3 x4 x5) else (if x1 = 5 then (p_X12_in x2 1 8) ∧ (if (f_X12_in x2 1 8) = 0 then (q_X11_reason_207 S x1 x2 x3 x4 x5) else (p_X12_in x3 1 3) ∧ (if (f_X12_in x3 1 3) = 0 then (q_X11_reason_207 S x1 x2 x3 x4 x5) else (if (S.1 6) ≤ 0 then (q_X11_reason_225 S x1 x2 x3 x4 x5 0) else (q_X11_reason_225 S x1 x2 x3 x4 x5 11)))) else (if x1 = 6 then (p_X12_in x2 0 99) ∧ (if (f_X12_in x2 0 99) = 0 then (q_X11_reason_254 S x1 x2 x3 x4 x5 9) else (if (S.1 6) ≤ 0 then (q_X11_reason_254 S x1 x2 x3 x4 x5 0) else (q_X11_reason_254 S x1 x2 x3 x4 x5 11))) else (if x1 = 7 then (p_X11_isSeat S x2) ∧ (q_X11_reason_a260 (f_X11_isSeat S x2).2 x1 x2 x3 x4 x5 (f_X11_isSeat S x2).1) else (if x1 = 8 then (if (S.1 5) = (-1) then (q_X11_reason_374 S x1 x2 x3 x4 x5 2) else (q_X11_reason_374 S x1 x2 x3 x4 x5 0)) else (if x1 = 9 then (if (S.1 6) = 0 then True else (if (S.1 5) = (-1) then (q_X11_reason_401 S x1 x2 x3 x4 x5) else (if (S.1 5) = x2 then (p_X11_hasSeconder S ) ∧ (q_X11_reason_a407 (f_X11_hasSeconder S ).2 x1 x2 x3 x4 x5 (f_X11_hasSeconder S ).1) else (q_X11_reason_401 S x1 x2 x3 x4 x5)))) else (if x1 = 10 then (p_X12_in x2 1 8) ∧ (if (f_X12_in x2 1 8) = 0 then (q_X11_reason_454 S x1 x2 x3 x4 x5 9) else (q_X11_reason_454 S x1 x2 x3 x4 x5 0)) else (if x1 = 11 then (p_X11_hasDraft S 2 3) ∧ (q_X11_reason_a461 (f_X11_hasDraft S 2 3).2 x1 x2 x3 x4 x5 (f_X11_hasDraft S 2 3).1) else (if x1 = 12 then (p_X11_reasonOfWord S x2 x3 x4 x5) ∧ (q_X11_reason_a527 (f_X11_reasonOfWord S x2 x3 x4 x5).2 x1 x2 x3 x4 x5 (f_X11_reasonOfWord S x2 x3 x4 x5).1) else (if x1 = 13 then (p_X11_reasonOfLay S x2) ∧ (q_X11_reason_a533 (f_X11_reasonOfLay S x2).2 x1 x2 x3 x4 x5 (f_X11_reasonOfLay S x2).1) else (if x1 = 14 then (p_X12_in x2 0 7) ∧ (if (f_X12_in x2 0 7) = 0 then (q_X11_reason_571 S x1 x2 x3 x4 x5 9) else (if 0 < (S.1 35) then (q_X11_reason_565 S x1 x2 x3 x4 x5) else (vp_in x2 8) ∧ (if (S.2 34 x2.toNatClampNeg) = 0 then (q_X11_reason_565 S x1 x2 x3 x4 x5) else (q_X11_reason_571 S x1 x2 x3 x4 x5 0)))) else (if x1 = 15 then (p_X11_reasonOfMove S x2) ∧ (q_X11_reason_a577 (f_X11_reasonOfMove S x2).2 x1 x2 x3 x4 x5 (f_X11_reasonOfMove S x2).1) else (if x1 = 16 then (if (S.1 6) = 0 then True else (p_X11_isSeat S x2) ∧ (q_X11_reason_a593 (f_X11_isSeat S x2).2 x1 x2 x3 x4 x5 (f_X11_isSeat S x2).1)) else (if x1 = 17 then (if (S.1 6) = 0 then True else (p_X11_isSeat S x2) ∧ (q_X11_reason_a676 (f_X11_isSeat S x2).2 x1 x2 x3 x4 x5 (f_X11_isSeat S x2).1)) else (if x1 = 18 then (if (S.1 6) = 0 then True else (p_X11_top S ) ∧ (q_X11_reason_a734 (f_X11_top S ).2 x1 x2 x3 x4 x5 (f_X11_top S ).1)) else (if x1 = 19 then (p_X11_isHere S (S.1 2)) ∧ (q_X11_reason_a778 (f_X11_isHere S (S.1 2)).2 x1 x2 x3 x4 x5 (f_X11_isHere S (S.1 2)).1) else (if x1 = 20 then (if (S.1 6) = 0 then True else (p_X11_top S ) ∧ (q_X11_reason_a845 (f_X11_top S ).2 x1 x2 x3 x4 x5 (f_X11_top S ).1)) else (if x1 = 21 then (p_X11_isHere S (S.1 2)) ∧ (q_X11_reason_a906 (f_X11_isHere S (S.1 2)).2 x1 x2 x3 x4 x5 (f_X11_isHere S (S.1 2)).1) else (p_X11_isHere S (S.1 2)) ∧ (q_X11_reason_a936 (f_X11_isHere S (S.1 2)).2 x1 x2 x3 x4 x5 (f_X11_isHere S (S.1 2)).1))))))))))))))))))))))
def e_X11_reason : List Cond := [.methodLink RX11 140 yX11_isSeat, .instanceMethod yX11_isSeat, .selects RX11 yX11_isSeat yX11_isSeat, .initialized RX11, .fieldLink RX11 9 "MotionFloorModel$Hall" "isThere" "[Z", .initialized RX12, .static yX12_in, .fieldLink RX11 115 "MotionFloorModel$Hall" "pending" "I", .fieldLink RX11 103 "MotionFloorModel$Hall" "chair" "I", .fieldLink RX11 112 "MotionFloorModel$Hall" "floor" "I", .fieldLink RX11 22 "MotionFloorModel$Hall" "kind" "[I", .methodLink RX11 155 yX11_top, .instanceMethod yX11_top, .selects RX11 yX11_top yX11_top, .fieldLink RX11 52 "MotionFloorModel$Hall" "closed" "[Z", .fieldLink RX11 109 "MotionFloorModel$Hall" "limit" "I", .fieldLink RX11 31 "MotionFloorModel$Hall" "floors" "[I", .methodLink RX11 159 yX11_hasSeconder, .instanceMethod yX11_hasSeconder, .selects RX11 yX11_hasSeconder yX11_hasSeconder, .methodLink RX11 163 yX11_hasDraft, .instanceMethod yX11_hasDraft, .selects RX11 yX11_hasDraft yX11_hasDraft, .fieldLink RX11 55 "MotionFloorModel$Hall" "laid" "[Z", .fieldLink RX11 75 "MotionFloorModel$Hall" "draft" "[I", .methodLink RX11 167 yX11_reasonOfWord, .instanceMethod yX11_reasonOfWord, .selects RX11 yX11_reasonOfWord yX11_reasonOfWord, .methodLink RX11 171 yX11_reasonOfLay, .instanceMethod yX11_reasonOfLay, .selects RX11 yX11_reasonOfLay yX11_reasonOfLay, .fieldLink RX11 130 "MotionFloorModel$Hall" "drafted" "I", .fieldLink RX11 81 "MotionFloorModel$Hall" "lying" "[I", .methodLink RX11 175 yX11_reasonOfMove, .instanceMethod yX11_reasonOfMove, .selects RX11 yX11_reasonOfMove yX11_reasonOfMove, .fieldLink RX11 25 "MotionFloorModel$Hall" "mover" "[I", .methodLink RX11 178 yX11_isHere, .instanceMethod yX11_isHere, .selects RX11 yX11_isHere yX11_isHere]
def v_X11_reason : List Cond := .code yX11_reason cX11_reason 6 (some .int) :: (e_X11_reason ++ (wsX110 ++ (v_X11_isSeat ++ (v_X12_in ++ (v_X11_top ++ (v_X11_hasSeconder ++ (v_X11_hasDraft ++ (v_X11_reasonOfWord ++ (v_X11_reasonOfLay ++ (v_X11_reasonOfMove ++ (v_X11_isHere ++ [])))))))))))
theorem te_X11_reason : GoodIn lw_tbl e_X11_reason := wGc z54 (wGc z53 (wGc z52 (wGc z51 (wGc z50 (wGc z1 (wGc z2 (wGc z56 (wGc z133 (wGc z118 (wGc z78 (wGc z91 (wGc z90 (wGc z89 (wGc z60 (wGc z132 (wGc z62 (wGc z112 (wGc z111 (wGc z110 (wGc z98 (wGc z97 (wGc z96 (wGc z72 (wGc z84 (wGc z131 (wGc z130 (wGc z129 (wGc z128 (wGc z127 (wGc z126 (wGc z86 (wGc z81 (wGc z125 (wGc z124 (wGc z123 (wGc z77 (wGc z122 (wGc z121 (wGc z120 (wG0))))))))))))))))))))))))))))))))))))))))
theorem t_X11_reason : GoodIn lw_tbl v_X11_reason := wGc z134 (wGa te_X11_reason (wGa zcX11 (wGa t_X11_isSeat (wGa t_X12_in (wGa t_X11_top (wGa t_X11_hasSeconder (wGa t_X11_hasDraft (wGa t_X11_reasonOfWord (wGa t_X11_reasonOfLay (wGa t_X11_reasonOfMove (wGa t_X11_isHere (wG0))))))))))))
set_option maxHeartbeats 4000000 in
set_option maxRecDepth 100000 in
theorem c_X11_reason (l : Launch) (G : va_G) (K : Nat → ClassId) (h : Nat) (g : Nat → Nat) (S0 : HS) (a1 a2 a3 a4 a5 : Int32) (sz : Nat) : Met l yX11_reason v_X11_reason ({ frames := 3, cells := 0, slots := 0, locals := 69 }) (va_Pc [.ref h, .int a1, .int a2, .int a3, .int a4, .int a5] (hS G K h g sz S0 (p_X11_reason S0 a1 a2 a3 a4 a5))) (va_Qi (fun (r : Int32) (u : HS) => (r, u) = f_X11_reason S0 a1 a2 a3 a4 a5) (hB G K h g (va_A (hW K h g S0) sz)) (va_A (hW K h g S0) sz)) 0 0 (va_A (hW K h g S0) sz) := by
  refine Met.ofW (cc := cX11_reason) (maxL := 6) (ret := (some .int)) (by decide) rfl ?_
  intro p e s m args below meth c s₁ B hml hv
  obtain ⟨rfl, ⟨hsz, hP, hK, hD0, hTE⟩, hp⟩ := hv
  have hx := B.exec
  have hb := B.bytes
  have hr := B.returns
  have hts := atoms_spec (ws := v_X11_reason) B.pre
  have t_ := t_X11_reason
  have mw : ∀ w ∈ e_X11_reason, w ∈ v_X11_reason := fun w h => List.mem_cons_of_mem _ (List.mem_append_left _ h)
  have hw := fun w (h : w ∈ e_X11_reason) => hts w (mw w h)
  have iX11 : ∀ w ∈ wsX110, w ∈ v_X11_reason := fun w h => List.mem_cons_of_mem _ (List.mem_append_right _ (List.mem_append_left _ h))
  have j_X11_isSeat : ∀ w ∈ v_X11_isSeat, w ∈ v_X11_reason := fun w h => List.mem_cons_of_mem _ (List.mem_append_right _ (List.mem_append_right _ (List.mem_append_left _ h)))
  have j_X12_in : ∀ w ∈ v_X12_in, w ∈ v_X11_reason := fun w h => List.mem_cons_of_mem _ (List.mem_append_right _ (List.mem_append_right _ (List.mem_append_right _ (List.mem_append_left _ h))))
  have j_X11_top : ∀ w ∈ v_X11_top, w ∈ v_X11_reason := fun w h => List.mem_cons_of_mem _ (List.mem_append_right _ (List.mem_append_right _ (List.mem_append_right _ (List.mem_append_right _ (List.mem_append_left _ h)))))
  have j_X11_hasSeconder : ∀ w ∈ v_X11_hasSeconder, w ∈ v_X11_reason := fun w h => List.mem_cons_of_mem _ (List.mem_append_right _ (List.mem_append_right _ (List.mem_append_right _ (List.mem_append_right _ (List.mem_append_right _ (List.mem_append_left _ h))))))
  have j_X11_hasDraft : ∀ w ∈ v_X11_hasDraft, w ∈ v_X11_reason := fun w h => List.mem_cons_of_mem _ (List.mem_append_right _ (List.mem_append_right _ (List.mem_append_right _ (List.mem_append_right _ (List.mem_append_right _ (List.mem_append_right _ (List.mem_append_left _ h)))))))
  have j_X11_reasonOfWord : ∀ w ∈ v_X11_reasonOfWord, w ∈ v_X11_reason := fun w h => List.mem_cons_of_mem _ (List.mem_append_right _ (List.mem_append_right _ (List.mem_append_right _ (List.mem_append_right _ (List.mem_append_right _ (List.mem_append_right _ (List.mem_append_right _ (List.mem_append_left _ h))))))))
  have j_X11_reasonOfLay : ∀ w ∈ v_X11_reasonOfLay, w ∈ v_X11_reason := fun w h => List.mem_cons_of_mem _ (List.mem_append_right _ (List.mem_append_right _ (List.mem_append_right _ (List.mem_append_right _ (List.mem_append_right _ (List.mem_append_right _ (List.mem_append_right _ (List.mem_append_right _ (List.mem_append_left _ h)))))))))
  have j_X11_reasonOfMove : ∀ w ∈ v_X11_reasonOfMove, w ∈ v_X11_reason := fun w h => List.mem_cons_of_mem _ (List.mem_append_right _ (List.mem_append_right _ (List.mem_append_right _ (List.mem_append_right _ (List.mem_append_right _ (List.mem_append_right _ (List.mem_append_right _ (List.mem_append_right _ (List.mem_append_right _ (List.mem_append_left _ h))))))))))
  have j_X11_isHere : ∀ w ∈ v_X11_isHere, w ∈ v_X11_reason := fun w h => List.mem_cons_of_mem _ (List.mem_append_right _ (List.mem_append_right _ (List.mem_append_right _ (List.mem_append_right _ (List.mem_append_right _ (List.mem_append_right _ (List.mem_append_right _ (List.mem_append_right _ (List.mem_append_right _ (List.mem_append_right _ (List.mem_append_left _ h)))))))))))
  have hown : s.vm.findClass RX11 = some m.cls := findClass_of_methodNamed B.named
  have hlocks := B.notSynchronized
  subst hsz
  have hD := hD0.self (sz := s.heap.size)
  generalize hAe : va_A (hW K h g S0) s.heap.size = A at hD ⊢
  have hA : ∀ q : Nat, s.heap.size ≤ q → A q := fun q h => by rw [← hAe]; exact Or.inr h
  have hS : va_S A s.heap s.heap [] := va_S.rf
  have hl := lv_entry ([.ref h, .int a1, .int a2, .int a3, .int a4, .int a5]) (n := 6) (Nat.le_of_ble_eq_true rfl)
  rw [lg_entry_eq]
  generalize (lg_sl ([.ref h, .int a1, .int a2, .int a3, .int a4, .int a5]) ++ List.replicate (6 - (lg_sl ([.ref h, .int a1, .int a2, .int a3, .int a4, .int a5])).length) Slot.unset).toArray = ls at hl ⊢
  have hl : lv_has ls 6 [(0, .ref h), (1, .int a1), (2, .int a2), (3, .int a3), (4, .int a4), (5, .int a5)] := hl
  refine wGen (fun Q hQ => ?_)
  obtain ⟨X, hX⟩ : ∃ X, f_X11_reason S0 a1 a2 a3 a4 a5 = X := ⟨_, rfl⟩
  have B_128 : ∀ (S : HS) (x1 x2 x3 x4 x5 y0 : Int32) (H : Heap) (locs : List Loc) (ls : Array Slot), b_X11_reason_128 S x1 x2 x3 x4 x5 y0 = X → q_X11_reason_128 S x1 x2 x3 x4 x5 y0 → va_P G vwCl (hW K h g S) H → va_D A (hW K h g S) → va_S A s.heap H locs → lv_has ls 6 [(0, .ref h), (1, .int x1), (2, .int x2), (3, .int x3), (4, .int x4), (5, .int x5)] → W p l e ({ frames := 3, cells := 0, slots := 0, locals := 69 } : Room) s m #[Value.ref h, Value.int a1, Value.int a2, Value.int a3, Value.int a4, Value.int a5] below meth c H locs 0 0 Q (F0 m 128 ls [.int y0]) := by
    intro S x1 x2 x3 x4 x5 y0 H locs ls hE hp hP hD hS hl
    unfold b_X11_reason_128 at hE
    unfold q_X11_reason_128 at hp
    subst hQ
    exact W.iret (v := y0) hx hb hr (fun t ht hW => ⟨⟨y0, S, rfl, hE.trans hX.symm, by rw [ht]; exact hP, hD⟩, hS.F ht⟩) hS.2.2 dX11_reason_128
  have B_157 : ∀ (S : HS) (x1 x2 x3 x4 x5 y0 : Int32) (H : Heap) (locs : List Loc) (ls : Array Slot), b_X11_reason_157 S x1 x2 x3 x4 x5 y0 = X → q_X11_reason_157 S x1 x2 x3 x4 x5 y0 → va_P G vwCl (hW K h g S) H → va_D A (hW K h g S) → va_S A s.heap H locs → lv_has ls 6 [(0, .ref h), (1, .int x1), (2, .int x2), (3, .int x3), (4, .int x4), (5, .int x5)] → W p l e ({ frames := 3, cells := 0, slots := 0, locals := 69 } : Room) s m #[Value.ref h, Value.int a1, Value.int a2, Value.int a3, Value.int a4, Value.int a5] below meth c H locs 0 0 Q (F0 m 157 ls [.int y0]) := by
    intro S x1 x2 x3 x4 x5 y0 H locs ls hE hp hP hD hS hl
    unfold b_X11_reason_157 at hE
    unfold q_X11_reason_157 at hp
    subst hQ
    exact W.iret (v := y0) hx hb hr (fun t ht hW => ⟨⟨y0, S, rfl, hE.trans hX.symm, by rw [ht]; exact hP, hD⟩, hS.F ht⟩) hS.2.2 dX11_reason_157
  have B_129 : ∀ (S : HS) (x1 x2 x3 x4 x5 : Int32) (H : Heap) (locs : List Loc) (ls : Array Slot), b_X11_reason_129 S x1 x2 x3 x4 x5 = X → q_X11_reason_129 S x1 x2 x3 x4 x5 → va_P G vwCl (hW K h g S) H → va_D A (hW K h g S) → va_S A s.heap H locs → lv_has ls 6 [(0, .ref h), (1, .int x1), (2, .int x2), (3, .int x3), (4, .int x4), (5, .int x5)] → W p l e ({ frames := 3, cells := 0, slots := 0, locals := 69 } : Room) s m #[Value.ref h, Value.int a1, Value.int a2, Value.int a3, Value.int a4, Value.int a5] below meth c H locs 0 0 Q (F0 m 129 ls []) := by
    intro S x1 x2 x3 x4 x5 H locs ls hE hp hP hD hS hl
    unfold b_X11_reason_129 at hE
    unfold q_X11_reason_129 at hp
    refine lv_aload_n hx hb dX11_reason_129 rfl (lv_at hl 0 rfl) ?_
    refine lv_iload_n hx hb dX11_reason_130 rfl (lv_at hl 2 rfl) ?_
    obtain ⟨hy10, hp⟩ := hp
    refine hGoi (va_runV (As := [.int x2]) (rest := []) ⟨hx, hb, hml, hown, hts⟩ (c_X11_isSeat l G K h g S x2 _) (cwV 1 hts (wGV t_ (mw (.methodLink RX11 140 yX11_isSeat) (List.mem_of_getElem? (i := 0) rfl)) (mw (.instanceMethod yX11_isSeat) (List.mem_of_getElem? (i := 1) rfl)) (mw (.selects RX11 yX11_isSeat yX11_isSeat) (List.mem_of_getElem? (i := 2) rfl)) (mw (.initialized RX11) (List.mem_of_getElem? (i := 3) rfl)) j_X11_isSeat) rfl rfl rfl (by decide +kernel) ⟨Nat.le_of_ble_eq_true rfl, Nat.le_of_ble_eq_true rfl⟩) (hPV hK hTE hP hD hy10) rfl rfl hl.1 rfl (lv_room (Nat.le_of_ble_eq_true rfl)) dX11_reason_131 ⟨Nat.le_of_ble_eq_true rfl, Nat.le_of_ble_eq_true rfl⟩) hP hD hS hA (fun r12 u11 H locs hv hP hD hS => ?_)
    rw [← hv] at hE hp
    dsimp only at hE hp
    unfold b_X11_reason_a134 at hE
    unfold q_X11_reason_a134 at hp
    refine lv_if_ne (tgt := 142) hx hb dX11_reason_134 (by decide) (fun c13 => ?_) (fun c13 => ?_)
    · rw [if_neg c13] at hE hp
      refine lv_aload_n hx hb dX11_reason_142 rfl (lv_at hl 0 rfl) ?_
      refine va_get (D := G) (ci := 8) (v := .ref (g 11)) (C := RX11) (T := TX11) (N := 42) hx hb hts iX11 hown hK hP 0 rfl rfl 11 (by decide) (hw (.fieldLink RX11 9 "MotionFloorModel$Hall" "isThere" "[Z") (List.mem_of_getElem? (i := 4) rfl)) (fun _ h9 => h9) rfl dX11_reason_143 ?_
      refine lv_iload_n hx hb dX11_reason_146 rfl (lv_at hl 2 rfl) ?_
      obtain ⟨hy14, hp⟩ := hp
      refine va_zald hx hb hK hP 1 1 rfl rfl hy14 dX11_reason_147 ?_
      refine lv_if_ne (tgt := 156) hx hb dX11_reason_148 (by decide) (fun c15 => ?_) (fun c15 => ?_)
      · rw [if_neg c15] at hE hp
        refine lv_iconst (v := 0) hx hb dX11_reason_156 (by decide) ?_
        exact B_157 u11 x1 x2 x3 x4 x5 0 _ _ _ hE hp hP hD hS (lv_sub hl [0, 1, 2, 3, 4, 5] rfl)
      · rw [if_pos c15] at hE hp
        refine lv_bipush (v := 8) hx hb dX11_reason_151 (by decide) ?_
        refine lv_goto (tgt := 157) hx hb dX11_reason_153 (by decide) ?_
        exact B_157 u11 x1 x2 x3 x4 x5 8 _ _ _ hE hp hP hD hS (lv_sub hl [0, 1, 2, 3, 4, 5] rfl)
    · rw [if_pos c13] at hE hp
      refine lv_bipush (v := 9) hx hb dX11_reason_137 (by decide) ?_
      refine lv_goto (tgt := 157) hx hb dX11_reason_139 (by decide) ?_
      exact B_157 u11 x1 x2 x3 x4 x5 9 _ _ _ hE hp hP hD hS (lv_sub hl [0, 1, 2, 3, 4, 5] rfl)
  have B_187 : ∀ (S : HS) (x1 x2 x3 x4 x5 y0 : Int32) (H : Heap) (locs : List Loc) (ls : Array Slot), b_X11_reason_187 S x1 x2 x3 x4 x5 y0 = X → q_X11_reason_187 S x1 x2 x3 x4 x5 y0 → va_P G vwCl (hW K h g S) H → va_D A (hW K h g S) → va_S A s.heap H locs → lv_has ls 6 [(0, .ref h), (1, .int x1), (2, .int x2), (3, .int x3), (4, .int x4), (5, .int x5)] → W p l e ({ frames := 3, cells := 0, slots := 0, locals := 69 } : Room) s m #[Value.ref h, Value.int a1, Value.int a2, Value.int a3, Value.int a4, Value.int a5] below meth c H locs 0 0 Q (F0 m 187 ls [.int y0]) := by
    intro S x1 x2 x3 x4 x5 y0 H locs ls hE hp hP hD hS hl
    unfold b_X11_reason_187 at hE
    unfold q_X11_reason_187 at hp
    subst hQ
    exact W.iret (v := y0) hx hb hr (fun t ht hW => ⟨⟨y0, S, rfl, hE.trans hX.symm, by rw [ht]; exact hP, hD⟩, hS.F ht⟩) hS.2.2 dX11_reason_187
  have B_225 : ∀ (S : HS) (x1 x2 x3 x4 x5 y0 : Int32) (H : Heap) (locs : List Loc) (ls : Array Slot), b_X11_reason_225 S x1 x2 x3 x4 x5 y0 = X → q_X11_reason_225 S x1 x2 x3 x4 x5 y0 → va_P G vwCl (hW K h g S) H → va_D A (hW K h g S) → va_S A s.heap H locs → lv_has ls 6 [(0, .ref h), (1, .int x1), (2, .int x2), (3, .int x3), (4, .int x4), (5, .int x5)] → W p l e ({ frames := 3, cells := 0, slots := 0, locals := 69 } : Room) s m #[Value.ref h, Value.int a1, Value.int a2, Value.int a3, Value.int a4, Value.int a5] below meth c H locs 0 0 Q (F0 m 225 ls [.int y0]) := by
    intro S x1 x2 x3 x4 x5 y0 H locs ls hE hp hP hD hS hl
    unfold b_X11_reason_225 at hE
    unfold q_X11_reason_225 at hp
    subst hQ
    exact W.iret (v := y0) hx hb hr (fun t ht hW => ⟨⟨y0, S, rfl, hE.trans hX.symm, by rw [ht]; exact hP, hD⟩, hS.F ht⟩) hS.2.2 dX11_reason_225
  have B_207 : ∀ (S : HS) (x1 x2 x3 x4 x5 : Int32) (H : Heap) (locs : List Loc) (ls : Array Slot), b_X11_reason_207 S x1 x2 x3 x4 x5 = X → q_X11_reason_207 S x1 x2 x3 x4 x5 → va_P G vwCl (hW K h g S) H → va_D A (hW K h g S) → va_S A s.heap H locs → lv_has ls 6 [(0, .ref h), (1, .int x1), (2, .int x2), (3, .int x3), (4, .int x4), (5, .int x5)] → W p l e ({ frames := 3, cells := 0, slots := 0, locals := 69 } : Room) s m #[Value.ref h, Value.int a1, Value.int a2, Value.int a3, Value.int a4, Value.int a5] below meth c H locs 0 0 Q (F0 m 207 ls []) := by
    intro S x1 x2 x3 x4 x5 H locs ls hE hp hP hD hS hl
    unfold b_X11_reason_207 at hE
    unfold q_X11_reason_207 at hp
    refine lv_bipush (v := 9) hx hb dX11_reason_207 (by decide) ?_
    refine lv_goto (tgt := 225) hx hb dX11_reason_209 (by decide) ?_
    exact B_225 S x1 x2 x3 x4 x5 9 _ _ _ hE hp hP hD hS (lv_sub hl [0, 1, 2, 3, 4, 5] rfl)
  have B_254 : ∀ (S : HS) (x1 x2 x3 x4 x5 y0 : Int32) (H : Heap) (locs : List Loc) (ls : Array Slot), b_X11_reason_254 S x1 x2 x3 x4 x5 y0 = X → q_X11_reason_254 S x1 x2 x3 x4 x5 y0 → va_P G vwCl (hW K h g S) H → va_D A (hW K h g S) → va_S A s.heap H locs → lv_has ls 6 [(0, .ref h), (1, .int x1), (2, .int x2), (3, .int x3), (4, .int x4), (5, .int x5)] → W p l e ({ frames := 3, cells := 0, slots := 0, locals := 69 } : Room) s m #[Value.ref h, Value.int a1, Value.int a2, Value.int a3, Value.int a4, Value.int a5] below meth c H locs 0 0 Q (F0 m 254 ls [.int y0]) := by
    intro S x1 x2 x3 x4 x5 y0 H locs ls hE hp hP hD hS hl
    unfold b_X11_reason_254 at hE
    unfold q_X11_reason_254 at hp
    subst hQ
    exact W.iret (v := y0) hx hb hr (fun t ht hW => ⟨⟨y0, S, rfl, hE.trans hX.symm, by rw [ht]; exact hP, hD⟩, hS.F ht⟩) hS.2.2 dX11_reason_254
  have B_294 : ∀ (S : HS) (x1 x2 x3 x4 x5 : Int32) (H : Heap) (locs : List Loc) (ls : Array Slot), b_X11_reason_294 S x1 x2 x3 x4 x5 = X → q_X11_reason_294 S x1 x2 x3 x4 x5 → va_P G vwCl (hW K h g S) H → va_D A (hW K h g S) → va_S A s.heap H locs → lv_has ls 6 [(0, .ref h), (1, .int x1), (2, .int x2), (3, .int x3), (4, .int x4), (5, .int x5)] → W p l e ({ frames := 3, cells := 0, slots := 0, locals := 69 } : Room) s m #[Value.ref h, Value.int a1, Value.int a2, Value.int a3, Value.int a4, Value.int a5] below meth c H locs 0 0 Q (F0 m 294 ls []) := by
    intro S x1 x2 x3 x4 x5 H locs ls hE hp hP hD hS hl
    unfold b_X11_reason_294 at hE
    unfold q_X11_reason_294 at hp
    refine lv_iconst (v := 2) hx hb dX11_reason_294 (by decide) ?_
    subst hQ
    exact W.iret (v := 2) hx hb hr (fun t ht hW => ⟨⟨2, S, rfl, hE.trans hX.symm, by rw [ht]; exact hP, hD⟩, hS.F ht⟩) hS.2.2 dX11_reason_295
  have B_360 : ∀ (S : HS) (x1 x2 x3 x4 x5 y0 : Int32) (H : Heap) (locs : List Loc) (ls : Array Slot), b_X11_reason_360 S x1 x2 x3 x4 x5 y0 = X → q_X11_reason_360 S x1 x2 x3 x4 x5 y0 → va_P G vwCl (hW K h g S) H → va_D A (hW K h g S) → va_S A s.heap H locs → lv_has ls 6 [(0, .ref h), (1, .int x1), (2, .int x2), (3, .int x3), (4, .int x4), (5, .int x5)] → W p l e ({ frames := 3, cells := 0, slots := 0, locals := 69 } : Room) s m #[Value.ref h, Value.int a1, Value.int a2, Value.int a3, Value.int a4, Value.int a5] below meth c H locs 0 0 Q (F0 m 360 ls [.int y0]) := by
    intro S x1 x2 x3 x4 x5 y0 H locs ls hE hp hP hD hS hl
    unfold b_X11_reason_360 at hE
    unfold q_X11_reason_360 at hp
    subst hQ
    exact W.iret (v := y0) hx hb hr (fun t ht hW => ⟨⟨y0, S, rfl, hE.trans hX.symm, by rw [ht]; exact hP, hD⟩, hS.F ht⟩) hS.2.2 dX11_reason_360
  have B_354 : ∀ (S : HS) (x1 x2 x3 x4 x5 : Int32) (H : Heap) (locs : List Loc) (ls : Array Slot), b_X11_reason_354 S x1 x2 x3 x4 x5 = X → q_X11_reason_354 S x1 x2 x3 x4 x5 → va_P G vwCl (hW K h g S) H → va_D A (hW K h g S) → va_S A s.heap H locs → lv_has ls 6 [(0, .ref h), (1, .int x1), (2, .int x2), (3, .int x3), (4, .int x4), (5, .int x5)] → W p l e ({ frames := 3, cells := 0, slots := 0, locals := 69 } : Room) s m #[Value.ref h, Value.int a1, Value.int a2, Value.int a3, Value.int a4, Value.int a5] below meth c H locs 0 0 Q (F0 m 354 ls []) := by
    intro S x1 x2 x3 x4 x5 H locs ls hE hp hP hD hS hl
    unfold b_X11_reason_354 at hE
    unfold q_X11_reason_354 at hp
    refine lv_bipush (v := 6) hx hb dX11_reason_354 (by decide) ?_
    refine lv_goto (tgt := 360) hx hb dX11_reason_356 (by decide) ?_
    exact B_360 S x1 x2 x3 x4 x5 6 _ _ _ hE hp hP hD hS (lv_sub hl [0, 1, 2, 3, 4, 5] rfl)
  have B_359 : ∀ (S : HS) (x1 x2 x3 x4 x5 : Int32) (H : Heap) (locs : List Loc) (ls : Array Slot), b_X11_reason_359 S x1 x2 x3 x4 x5 = X → q_X11_reason_359 S x1 x2 x3 x4 x5 → va_P G vwCl (hW K h g S) H → va_D A (hW K h g S) → va_S A s.heap H locs → lv_has ls 6 [(0, .ref h), (1, .int x1), (2, .int x2), (3, .int x3), (4, .int x4), (5, .int x5)] → W p l e ({ frames := 3, cells := 0, slots := 0, locals := 69 } : Room) s m #[Value.ref h, Value.int a1, Value.int a2, Value.int a3, Value.int a4, Value.int a5] below meth c H locs 0 0 Q (F0 m 359 ls []) := by
    intro S x1 x2 x3 x4 x5 H locs ls hE hp hP hD hS hl
    unfold b_X11_reason_359 at hE
    unfold q_X11_reason_359 at hp
    refine lv_iconst (v := 0) hx hb dX11_reason_359 (by decide) ?_
    exact B_360 S x1 x2 x3 x4 x5 0 _ _ _ hE hp hP hD hS (lv_sub hl [0, 1, 2, 3, 4, 5] rfl)
  have B_374 : ∀ (S : HS) (x1 x2 x3 x4 x5 y0 : Int32) (H : Heap) (locs : List Loc) (ls : Array Slot), b_X11_reason_374 S x1 x2 x3 x4 x5 y0 = X → q_X11_reason_374 S x1 x2 x3 x4 x5 y0 → va_P G vwCl (hW K h g S) H → va_D A (hW K h g S) → va_S A s.heap H locs → lv_has ls 6 [(0, .ref h), (1, .int x1), (2, .int x2), (3, .int x3), (4, .int x4), (5, .int x5)] → W p l e ({ frames := 3, cells := 0, slots := 0, locals := 69 } : Room) s m #[Value.ref h, Value.int a1, Value.int a2, Value.int a3, Value.int a4, Value.int a5] below meth c H locs 0 0 Q (F0 m 374 ls [.int y0]) := by
    intro S x1 x2 x3 x4 x5 y0 H locs ls hE hp hP hD hS hl
    unfold b_X11_reason_374 at hE
    unfold q_X11_reason_374 at hp
    subst hQ
    exact W.iret (v := y0) hx hb hr (fun t ht hW => ⟨⟨y0, S, rfl, hE.trans hX.symm, by rw [ht]; exact hP, hD⟩, hS.F ht⟩) hS.2.2 dX11_reason_374
  have B_401 : ∀ (S : HS) (x1 x2 x3 x4 x5 : Int32) (H : Heap) (locs : List Loc) (ls : Array Slot), b_X11_reason_401 S x1 x2 x3 x4 x5 = X → q_X11_reason_401 S x1 x2 x3 x4 x5 → va_P G vwCl (hW K h g S) H → va_D A (hW K h g S) → va_S A s.heap H locs → lv_has ls 6 [(0, .ref h), (1, .int x1), (2, .int x2), (3, .int x3), (4, .int x4), (5, .int x5)] → W p l e ({ frames := 3, cells := 0, slots := 0, locals := 69 } : Room) s m #[Value.ref h, Value.int a1, Value.int a2, Value.int a3, Value.int a4, Value.int a5] below meth c H locs 0 0 Q (F0 m 401 ls []) := by
    intro S x1 x2 x3 x4 x5 H locs ls hE hp hP hD hS hl
    unfold b_X11_reason_401 at hE
    unfold q_X11_reason_401 at hp
    refine lv_iconst (v := 2) hx hb dX11_reason_401 (by decide) ?_
    subst hQ
    exact W.iret (v := 2) hx hb hr (fun t ht hW => ⟨⟨2, S, rfl, hE.trans hX.symm, by rw [ht]; exact hP, hD⟩, hS.F ht⟩) hS.2.2 dX11_reason_402
  have B_437 : ∀ (S : HS) (x1 x2 x3 x4 x5 y0 : Int32) (H : Heap) (locs : List Loc) (ls : Array Slot), b_X11_reason_437 S x1 x2 x3 x4 x5 y0 = X → q_X11_reason_437 S x1 x2 x3 x4 x5 y0 → va_P G vwCl (hW K h g S) H → va_D A (hW K h g S) → va_S A s.heap H locs → lv_has ls 6 [(0, .ref h), (1, .int x1), (2, .int x2), (3, .int x3), (4, .int x4), (5, .int x5)] → W p l e ({ frames := 3, cells := 0, slots := 0, locals := 69 } : Room) s m #[Value.ref h, Value.int a1, Value.int a2, Value.int a3, Value.int a4, Value.int a5] below meth c H locs 0 0 Q (F0 m 437 ls [.int y0]) := by
    intro S x1 x2 x3 x4 x5 y0 H locs ls hE hp hP hD hS hl
    unfold b_X11_reason_437 at hE
    unfold q_X11_reason_437 at hp
    subst hQ
    exact W.iret (v := y0) hx hb hr (fun t ht hW => ⟨⟨y0, S, rfl, hE.trans hX.symm, by rw [ht]; exact hP, hD⟩, hS.F ht⟩) hS.2.2 dX11_reason_437
  have B_454 : ∀ (S : HS) (x1 x2 x3 x4 x5 y0 : Int32) (H : Heap) (locs : List Loc) (ls : Array Slot), b_X11_reason_454 S x1 x2 x3 x4 x5 y0 = X → q_X11_reason_454 S x1 x2 x3 x4 x5 y0 → va_P G vwCl (hW K h g S) H → va_D A (hW K h g S) → va_S A s.heap H locs → lv_has ls 6 [(0, .ref h), (1, .int x1), (2, .int x2), (3, .int x3), (4, .int x4), (5, .int x5)] → W p l e ({ frames := 3, cells := 0, slots := 0, locals := 69 } : Room) s m #[Value.ref h, Value.int a1, Value.int a2, Value.int a3, Value.int a4, Value.int a5] below meth c H locs 0 0 Q (F0 m 454 ls [.int y0]) := by
    intro S x1 x2 x3 x4 x5 y0 H locs ls hE hp hP hD hS hl
    unfold b_X11_reason_454 at hE
    unfold q_X11_reason_454 at hp
    subst hQ
    exact W.iret (v := y0) hx hb hr (fun t ht hW => ⟨⟨y0, S, rfl, hE.trans hX.symm, by rw [ht]; exact hP, hD⟩, hS.F ht⟩) hS.2.2 dX11_reason_454
  have B_516 : ∀ (S : HS) (x1 x2 x3 x4 x5 y0 : Int32) (H : Heap) (locs : List Loc) (ls : Array Slot), b_X11_reason_516 S x1 x2 x3 x4 x5 y0 = X → q_X11_reason_516 S x1 x2 x3 x4 x5 y0 → va_P G vwCl (hW K h g S) H → va_D A (hW K h g S) → va_S A s.heap H locs → lv_has ls 6 [(0, .ref h), (1, .int x1), (2, .int x2), (3, .int x3), (4, .int x4), (5, .int x5)] → W p l e ({ frames := 3, cells := 0, slots := 0, locals := 69 } : Room) s m #[Value.ref h, Value.int a1, Value.int a2, Value.int a3, Value.int a4, Value.int a5] below meth c H locs 0 0 Q (F0 m 516 ls [.int y0]) := by
    intro S x1 x2 x3 x4 x5 y0 H locs ls hE hp hP hD hS hl
    unfold b_X11_reason_516 at hE
    unfold q_X11_reason_516 at hp
    subst hQ
    exact W.iret (v := y0) hx hb hr (fun t ht hW => ⟨⟨y0, S, rfl, hE.trans hX.symm, by rw [ht]; exact hP, hD⟩, hS.F ht⟩) hS.2.2 dX11_reason_516
  have B_478 : ∀ (S : HS) (x1 x2 x3 x4 x5 : Int32) (H : Heap) (locs : List Loc) (ls : Array Slot), b_X11_reason_478 S x1 x2 x3 x4 x5 = X → q_X11_reason_478 S x1 x2 x3 x4 x5 → va_P G vwCl (hW K h g S) H → va_D A (hW K h g S) → va_S A s.heap H locs → lv_has ls 6 [(0, .ref h), (1, .int x1), (2, .int x2), (3, .int x3), (4, .int x4), (5, .int x5)] → W p l e ({ frames := 3, cells := 0, slots := 0, locals := 69 } : Room) s m #[Value.ref h, Value.int a1, Value.int a2, Value.int a3, Value.int a4, Value.int a5] below meth c H locs 0 0 Q (F0 m 478 ls []) := by
    intro S x1 x2 x3 x4 x5 H locs ls hE hp hP hD hS hl
    unfold b_X11_reason_478 at hE
    unfold q_X11_reason_478 at hp
    refine lv_bipush (v := 11) hx hb dX11_reason_478 (by decide) ?_
    refine lv_goto (tgt := 516) hx hb dX11_reason_480 (by decide) ?_
    exact B_516 S x1 x2 x3 x4 x5 11 _ _ _ hE hp hP hD hS (lv_sub hl [0, 1, 2, 3, 4, 5] rfl)
  have B_510 : ∀ (S : HS) (x1 x2 x3 x4 x5 : Int32) (H : Heap) (locs : List Loc) (ls : Array Slot), b_X11_reason_510 S x1 x2 x3 x4 x5 = X → q_X11_reason_510 S x1 x2 x3 x4 x5 → va_P G vwCl (hW K h g S) H → va_D A (hW K h g S) → va_S A s.heap H locs → lv_has ls 6 [(0, .ref h), (1, .int x1), (2, .int x2), (3, .int x3), (4, .int x4), (5, .int x5)] → W p l e ({ frames := 3, cells := 0, slots := 0, locals := 69 } : Room) s m #[Value.ref h, Value.int a1, Value.int a2, Value.int a3, Value.int a4, Value.int a5] below meth c H locs 0 0 Q (F0 m 510 ls []) := by
    intro S x1 x2 x3 x4 x5 H locs ls hE hp hP hD hS hl
    unfold b_X11_reason_510 at hE
    unfold q_X11_reason_510 at hp
    refine lv_bipush (v := 9) hx hb dX11_reason_510 (by decide) ?_
    refine lv_goto (tgt := 516) hx hb dX11_reason_512 (by decide) ?_
    exact B_516 S x1 x2 x3 x4 x5 9 _ _ _ hE hp hP hD hS (lv_sub hl [0, 1, 2, 3, 4, 5] rfl)
  have B_571 : ∀ (S : HS) (x1 x2 x3 x4 x5 y0 : Int32) (H : Heap) (locs : List Loc) (ls : Array Slot), b_X11_reason_571 S x1 x2 x3 x4 x5 y0 = X → q_X11_reason_571 S x1 x2 x3 x4 x5 y0 → va_P G vwCl (hW K h g S) H → va_D A (hW K h g S) → va_S A s.heap H locs → lv_has ls 6 [(0, .ref h), (1, .int x1), (2, .int x2), (3, .int x3), (4, .int x4), (5, .int x5)] → W p l e ({ frames := 3, cells := 0, slots := 0, locals := 69 } : Room) s m #[Value.ref h, Value.int a1, Value.int a2, Value.int a3, Value.int a4, Value.int a5] below meth c H locs 0 0 Q (F0 m 571 ls [.int y0]) := by
    intro S x1 x2 x3 x4 x5 y0 H locs ls hE hp hP hD hS hl
    unfold b_X11_reason_571 at hE
    unfold q_X11_reason_571 at hp
    subst hQ
    exact W.iret (v := y0) hx hb hr (fun t ht hW => ⟨⟨y0, S, rfl, hE.trans hX.symm, by rw [ht]; exact hP, hD⟩, hS.F ht⟩) hS.2.2 dX11_reason_571
  have B_565 : ∀ (S : HS) (x1 x2 x3 x4 x5 : Int32) (H : Heap) (locs : List Loc) (ls : Array Slot), b_X11_reason_565 S x1 x2 x3 x4 x5 = X → q_X11_reason_565 S x1 x2 x3 x4 x5 → va_P G vwCl (hW K h g S) H → va_D A (hW K h g S) → va_S A s.heap H locs → lv_has ls 6 [(0, .ref h), (1, .int x1), (2, .int x2), (3, .int x3), (4, .int x4), (5, .int x5)] → W p l e ({ frames := 3, cells := 0, slots := 0, locals := 69 } : Room) s m #[Value.ref h, Value.int a1, Value.int a2, Value.int a3, Value.int a4, Value.int a5] below meth c H locs 0 0 Q (F0 m 565 ls []) := by
    intro S x1 x2 x3 x4 x5 H locs ls hE hp hP hD hS hl
    unfold b_X11_reason_565 at hE
    unfold q_X11_reason_565 at hp
    refine lv_bipush (v := 11) hx hb dX11_reason_565 (by decide) ?_
    refine lv_goto (tgt := 571) hx hb dX11_reason_567 (by decide) ?_
    exact B_571 S x1 x2 x3 x4 x5 11 _ _ _ hE hp hP hD hS (lv_sub hl [0, 1, 2, 3, 4, 5] rfl)
  have B_632 : ∀ (S : HS) (x1 x2 x3 x4 x5 : Int32) (H : Heap) (locs : List Loc) (ls : Array Slot), b_X11_reason_632 S x1 x2 x3 x4 x5 = X → q_X11_reason_632 S x1 x2 x3 x4 x5 → va_P G vwCl (hW K h g S) H → va_D A (hW K h g S) → va_S A s.heap H locs → lv_has ls 6 [(0, .ref h), (1, .int x1), (2, .int x2), (3, .int x3), (4, .int x4), (5, .int x5)] → W p l e ({ frames := 3, cells := 0, slots := 0, locals := 69 } : Room) s m #[Value.ref h, Value.int a1, Value.int a2, Value.int a3, Value.int a4, Value.int a5] below meth c H locs 0 0 Q (F0 m 632 ls []) := by
    intro S x1 x2 x3 x4 x5 H locs ls hE hp hP hD hS hl
    unfold b_X11_reason_632 at hE
    unfold q_X11_reason_632 at hp
    refine lv_iconst (v := 3) hx hb dX11_reason_632 (by decide) ?_
    subst hQ
    exact W.iret (v := 3) hx hb hr (fun t ht hW => ⟨⟨3, S, rfl, hE.trans hX.symm, by rw [ht]; exact hP, hD⟩, hS.F ht⟩) hS.2.2 dX11_reason_633
  have B_660 : ∀ (S : HS) (x1 x2 x3 x4 x5 y0 : Int32) (H : Heap) (locs : List Loc) (ls : Array Slot), b_X11_reason_660 S x1 x2 x3 x4 x5 y0 = X → q_X11_reason_660 S x1 x2 x3 x4 x5 y0 → va_P G vwCl (hW K h g S) H → va_D A (hW K h g S) → va_S A s.heap H locs → lv_has ls 6 [(0, .ref h), (1, .int x1), (2, .int x2), (3, .int x3), (4, .int x4), (5, .int x5)] → W p l e ({ frames := 3, cells := 0, slots := 0, locals := 69 } : Room) s m #[Value.ref h, Value.int a1, Value.int a2, Value.int a3, Value.int a4, Value.int a5] below meth c H locs 0 0 Q (F0 m 660 ls [.int y0]) := by
    intro S x1 x2 x3 x4 x5 y0 H locs ls hE hp hP hD hS hl
    unfold b_X11_reason_660 at hE
    unfold q_X11_reason_660 at hp
    subst hQ
    exact W.iret (v := y0) hx hb hr (fun t ht hW => ⟨⟨y0, S, rfl, hE.trans hX.symm, by rw [ht]; exact hP, hD⟩, hS.F ht⟩) hS.2.2 dX11_reason_660
  have B_655 : ∀ (S : HS) (x1 x2 x3 x4 x5 : Int32) (H : Heap) (locs : List Loc) (ls : Array Slot), b_X11_reason_655 S x1 x2 x3 x4 x5 = X → q_X11_reason_655 S x1 x2 x3 x4 x5 → va_P G vwCl (hW K h g S) H → va_D A (hW K h g S) → va_S A s.heap H locs → lv_has ls 6 [(0, .ref h), (1, .int x1), (2, .int x2), (3, .int x3), (4, .int x4), (5, .int x5)] → W p l e ({ frames := 3, cells := 0, slots := 0, locals := 69 } : Room) s m #[Value.ref h, Value.int a1, Value.int a2, Value.int a3, Value.int a4, Value.int a5] below meth c H locs 0 0 Q (F0 m 655 ls []) := by
    intro S x1 x2 x3 x4 x5 H locs ls hE hp hP hD hS hl
    unfold b_X11_reason_655 at hE
    unfold q_X11_reason_655 at hp
    refine lv_iconst (v := 2) hx hb dX11_reason_655 (by decide) ?_
    refine lv_goto (tgt := 660) hx hb dX11_reason_656 (by decide) ?_
    exact B_660 S x1 x2 x3 x4 x5 2 _ _ _ hE hp hP hD hS (lv_sub hl [0, 1, 2, 3, 4, 5] rfl)
  have B_688 : ∀ (S : HS) (x1 x2 x3 x4 x5 : Int32) (H : Heap) (locs : List Loc) (ls : Array Slot), b_X11_reason_688 S x1 x2 x3 x4 x5 = X → q_X11_reason_688 S x1 x2 x3 x4 x5 → va_P G vwCl (hW K h g S) H → va_D A (hW K h g S) → va_S A s.heap H locs → lv_has ls 6 [(0, .ref h), (1, .int x1), (2, .int x2), (3, .int x3), (4, .int x4), (5, .int x5)] → W p l e ({ frames := 3, cells := 0, slots := 0, locals := 69 } : Room) s m #[Value.ref h, Value.int a1, Value.int a2, Value.int a3, Value.int a4, Value.int a5] below meth c H locs 0 0 Q (F0 m 688 ls []) := by
    intro S x1 x2 x3 x4 x5 H locs ls hE hp hP hD hS hl
    unfold b_X11_reason_688 at hE
    unfold q_X11_reason_688 at hp
    refine lv_bipush (v := 9) hx hb dX11_reason_688 (by decide) ?_
    subst hQ
    exact W.iret (v := 9) hx hb hr (fun t ht hW => ⟨⟨9, S, rfl, hE.trans hX.symm, by rw [ht]; exact hP, hD⟩, hS.F ht⟩) hS.2.2 dX11_reason_690
  have B_715 : ∀ (S : HS) (x1 x2 x3 x4 x5 y0 : Int32) (H : Heap) (locs : List Loc) (ls : Array Slot), b_X11_reason_715 S x1 x2 x3 x4 x5 y0 = X → q_X11_reason_715 S x1 x2 x3 x4 x5 y0 → va_P G vwCl (hW K h g S) H → va_D A (hW K h g S) → va_S A s.heap H locs → lv_has ls 6 [(0, .ref h), (1, .int x1), (2, .int x2), (3, .int x3), (4, .int x4), (5, .int x5)] → W p l e ({ frames := 3, cells := 0, slots := 0, locals := 69 } : Room) s m #[Value.ref h, Value.int a1, Value.int a2, Value.int a3, Value.int a4, Value.int a5] below meth c H locs 0 0 Q (F0 m 715 ls [.int y0]) := by
    intro S x1 x2 x3 x4 x5 y0 H locs ls hE hp hP hD hS hl
    unfold b_X11_reason_715 at hE
    unfold q_X11_reason_715 at hp
    subst hQ
    exact W.iret (v := y0) hx hb hr (fun t ht hW => ⟨⟨y0, S, rfl, hE.trans hX.symm, by rw [ht]; exact hP, hD⟩, hS.F ht⟩) hS.2.2 dX11_reason_715
  have B_753 : ∀ (S : HS) (x1 x2 x3 x4 x5 : Int32) (H : Heap) (locs : List Loc) (ls : Array Slot), b_X11_reason_753 S x1 x2 x3 x4 x5 = X → q_X11_reason_753 S x1 x2 x3 x4 x5 → va_P G vwCl (hW K h g S) H → va_D A (hW K h g S) → va_S A s.heap H locs → lv_has ls 6 [(0, .ref h), (1, .int x1), (2, .int x2), (3, .int x3), (4, .int x4), (5, .int x5)] → W p l e ({ frames := 3, cells := 0, slots := 0, locals := 69 } : Room) s m #[Value.ref h, Value.int a1, Value.int a2, Value.int a3, Value.int a4, Value.int a5] below meth c H locs 0 0 Q (F0 m 753 ls []) := by
    intro S x1 x2 x3 x4 x5 H locs ls hE hp hP hD hS hl
    unfold b_X11_reason_753 at hE
    unfold q_X11_reason_753 at hp
    refine lv_iconst (v := 2) hx hb dX11_reason_753 (by decide) ?_
    subst hQ
    exact W.iret (v := 2) hx hb hr (fun t ht hW => ⟨⟨2, S, rfl, hE.trans hX.symm, by rw [ht]; exact hP, hD⟩, hS.F ht⟩) hS.2.2 dX11_reason_754
  have B_769 : ∀ (S : HS) (x1 x2 x3 x4 x5 y0 : Int32) (H : Heap) (locs : List Loc) (ls : Array Slot), b_X11_reason_769 S x1 x2 x3 x4 x5 y0 = X → q_X11_reason_769 S x1 x2 x3 x4 x5 y0 → va_P G vwCl (hW K h g S) H → va_D A (hW K h g S) → va_S A s.heap H locs → lv_has ls 6 [(0, .ref h), (1, .int x1), (2, .int x2), (3, .int x3), (4, .int x4), (5, .int x5)] → W p l e ({ frames := 3, cells := 0, slots := 0, locals := 69 } : Room) s m #[Value.ref h, Value.int a1, Value.int a2, Value.int a3, Value.int a4, Value.int a5] below meth c H locs 0 0 Q (F0 m 769 ls [.int y0]) := by
    intro S x1 x2 x3 x4 x5 y0 H locs ls hE hp hP hD hS hl
    unfold b_X11_reason_769 at hE
    unfold q_X11_reason_769 at hp
    subst hQ
    exact W.iret (v := y0) hx hb hr (fun t ht hW => ⟨⟨y0, S, rfl, hE.trans hX.symm, by rw [ht]; exact hP, hD⟩, hS.F ht⟩) hS.2.2 dX11_reason_769
  have B_826 : ∀ (S : HS) (x1 x2 x3 x4 x5 y0 : Int32) (H : Heap) (locs : List Loc) (ls : Array Slot), b_X11_reason_826 S x1 x2 x3 x4 x5 y0 = X → q_X11_reason_826 S x1 x2 x3 x4 x5 y0 → va_P G vwCl (hW K h g S) H → va_D A (hW K h g S) → va_S A s.heap H locs → lv_has ls 6 [(0, .ref h), (1, .int x1), (2, .int x2), (3, .int x3), (4, .int x4), (5, .int x5)] → W p l e ({ frames := 3, cells := 0, slots := 0, locals := 69 } : Room) s m #[Value.ref h, Value.int a1, Value.int a2, Value.int a3, Value.int a4, Value.int a5] below meth c H locs 0 0 Q (F0 m 826 ls [.int y0]) := by
    intro S x1 x2 x3 x4 x5 y0 H locs ls hE hp hP hD hS hl
    unfold b_X11_reason_826 at hE
    unfold q_X11_reason_826 at hp
    subst hQ
    exact W.iret (v := y0) hx hb hr (fun t ht hW => ⟨⟨y0, S, rfl, hE.trans hX.symm, by rw [ht]; exact hP, hD⟩, hS.F ht⟩) hS.2.2 dX11_reason_826
  have B_858 : ∀ (S : HS) (x1 x2 x3 x4 x5 : Int32) (H : Heap) (locs : List Loc) (ls : Array Slot), b_X11_reason_858 S x1 x2 x3 x4 x5 = X → q_X11_reason_858 S x1 x2 x3 x4 x5 → va_P G vwCl (hW K h g S) H → va_D A (hW K h g S) → va_S A s.heap H locs → lv_has ls 6 [(0, .ref h), (1, .int x1), (2, .int x2), (3, .int x3), (4, .int x4), (5, .int x5)] → W p l e ({ frames := 3, cells := 0, slots := 0, locals := 69 } : Room) s m #[Value.ref h, Value.int a1, Value.int a2, Value.int a3, Value.int a4, Value.int a5] below meth c H locs 0 0 Q (F0 m 858 ls []) := by
    intro S x1 x2 x3 x4 x5 H locs ls hE hp hP hD hS hl
    unfold b_X11_reason_858 at hE
    unfold q_X11_reason_858 at hp
    refine lv_bipush (v := 11) hx hb dX11_reason_858 (by decide) ?_
    subst hQ
    exact W.iret (v := 11) hx hb hr (fun t ht hW => ⟨⟨11, S, rfl, hE.trans hX.symm, by rw [ht]; exact hP, hD⟩, hS.F ht⟩) hS.2.2 dX11_reason_860
  have B_897 : ∀ (S : HS) (x1 x2 x3 x4 x5 y0 : Int32) (H : Heap) (locs : List Loc) (ls : Array Slot), b_X11_reason_897 S x1 x2 x3 x4 x5 y0 = X → q_X11_reason_897 S x1 x2 x3 x4 x5 y0 → va_P G vwCl (hW K h g S) H → va_D A (hW K h g S) → va_S A s.heap H locs → lv_has ls 6 [(0, .ref h), (1, .int x1), (2, .int x2), (3, .int x3), (4, .int x4), (5, .int x5)] → W p l e ({ frames := 3, cells := 0, slots := 0, locals := 69 } : Room) s m #[Value.ref h, Value.int a1, Value.int a2, Value.int a3, Value.int a4, Value.int a5] below meth c H locs 0 0 Q (F0 m 897 ls [.int y0]) := by
    intro S x1 x2 x3 x4 x5 y0 H locs ls hE hp hP hD hS hl
    unfold b_X11_reason_897 at hE
    unfold q_X11_reason_897 at hp
    subst hQ
    exact W.iret (v := y0) hx hb hr (fun t ht hW => ⟨⟨y0, S, rfl, hE.trans hX.symm, by rw [ht]; exact hP, hD⟩, hS.F ht⟩) hS.2.2 dX11_reason_897
  have B_927 : ∀ (S : HS) (x1 x2 x3 x4 x5 y0 : Int32) (H : Heap) (locs : List Loc) (ls : Array Slot), b_X11_reason_927 S x1 x2 x3 x4 x5 y0 = X → q_X11_reason_927 S x1 x2 x3 x4 x5 y0 → va_P G vwCl (hW K h g S) H → va_D A (hW K h g S) → va_S A s.heap H locs → lv_has ls 6 [(0, .ref h), (1, .int x1), (2, .int x2), (3, .int x3), (4, .int x4), (5, .int x5)] → W p l e ({ frames := 3, cells := 0, slots := 0, locals := 69 } : Room) s m #[Value.ref h, Value.int a1, Value.int a2, Value.int a3, Value.int a4, Value.int a5] below meth c H locs 0 0 Q (F0 m 927 ls [.int y0]) := by
    intro S x1 x2 x3 x4 x5 y0 H locs ls hE hp hP hD hS hl
    unfold b_X11_reason_927 at hE
    unfold q_X11_reason_927 at hp
    subst hQ
    exact W.iret (v := y0) hx hb hr (fun t ht hW => ⟨⟨y0, S, rfl, hE.trans hX.symm, by rw [ht]; exact hP, hD⟩, hS.F ht⟩) hS.2.2 dX11_reason_927
  have B_945 : ∀ (S : HS) (x1 x2 x3 x4 x5 y0 : Int32) (H : Heap) (locs : List Loc) (ls : Array Slot), b_X11_reason_945 S x1 x2 x3 x4 x5 y0 = X → q_X11_reason_945 S x1 x2 x3 x4 x5 y0 → va_P G vwCl (hW K h g S) H → va_D A (hW K h g S) → va_S A s.heap H locs → lv_has ls 6 [(0, .ref h), (1, .int x1), (2, .int x2), (3, .int x3), (4, .int x4), (5, .int x5)] → W p l e ({ frames := 3, cells := 0, slots := 0, locals := 69 } : Room) s m #[Value.ref h, Value.int a1, Value.int a2, Value.int a3, Value.int a4, Value.int a5] below meth c H locs 0 0 Q (F0 m 945 ls [.int y0]) := by
    intro S x1 x2 x3 x4 x5 y0 H locs ls hE hp hP hD hS hl
    unfold b_X11_reason_945 at hE
    unfold q_X11_reason_945 at hp
    subst hQ
    exact W.iret (v := y0) hx hb hr (fun t ht hW => ⟨⟨y0, S, rfl, hE.trans hX.symm, by rw [ht]; exact hP, hD⟩, hS.F ht⟩) hS.2.2 dX11_reason_945
  have B_M : ∀ (S : HS) (x1 x2 x3 x4 x5 : Int32) (H : Heap) (locs : List Loc) (ls : Array Slot), f_X11_reason S x1 x2 x3 x4 x5 = X → p_X11_reason S x1 x2 x3 x4 x5 → va_P G vwCl (hW K h g S) H → va_D A (hW K h g S) → va_S A s.heap H locs → lv_has ls 6 [(0, .ref h), (1, .int x1), (2, .int x2), (3, .int x3), (4, .int x4), (5, .int x5)] → W p l e ({ frames := 3, cells := 0, slots := 0, locals := 69 } : Room) s m #[Value.ref h, Value.int a1, Value.int a2, Value.int a3, Value.int a4, Value.int a5] below meth c H locs 0 0 Q (F0 m 0 ls []) := by
    intro S x1 x2 x3 x4 x5 H locs ls hE hp hP hD hS hl
    unfold f_X11_reason at hE
    unfold p_X11_reason at hp
    refine lv_iload_n hx hb dX11_reason_0 rfl (lv_at hl 1 rfl) ?_
    by_cases s1 : x1 = 1
    · rw [if_pos s1] at hE hp
      refine lv_tableIn (off := 99) (tgt := 100) hx hb dX11_reason_1 (by rw [s1]; decide) (by rw [s1]; decide) (by rw [s1]; decide) (by decide) ?_
      refine lv_aload_n hx hb dX11_reason_100 rfl (lv_at hl 0 rfl) ?_
      refine lv_iload_n hx hb dX11_reason_101 rfl (lv_at hl 2 rfl) ?_
      obtain ⟨hy1, hp⟩ := hp
      refine hGoi (va_runV (As := [.int x2]) (rest := []) ⟨hx, hb, hml, hown, hts⟩ (c_X11_isSeat l G K h g S x2 _) (cwV 1 hts (wGV t_ (mw (.methodLink RX11 140 yX11_isSeat) (List.mem_of_getElem? (i := 0) rfl)) (mw (.instanceMethod yX11_isSeat) (List.mem_of_getElem? (i := 1) rfl)) (mw (.selects RX11 yX11_isSeat yX11_isSeat) (List.mem_of_getElem? (i := 2) rfl)) (mw (.initialized RX11) (List.mem_of_getElem? (i := 3) rfl)) j_X11_isSeat) rfl rfl rfl (by decide +kernel) ⟨Nat.le_of_ble_eq_true rfl, Nat.le_of_ble_eq_true rfl⟩) (hPV hK hTE hP hD hy1) rfl rfl hl.1 rfl (lv_room (Nat.le_of_ble_eq_true rfl)) dX11_reason_102 ⟨Nat.le_of_ble_eq_true rfl, Nat.le_of_ble_eq_true rfl⟩) hP hD hS hA (fun r3 u2 H locs hv hP hD hS => ?_)
      rw [← hv] at hE hp
      dsimp only at hE hp
      unfold b_X11_reason_a105 at hE
      unfold q_X11_reason_a105 at hp
      refine lv_if_ne (tgt := 113) hx hb dX11_reason_105 (by decide) (fun c4 => ?_) (fun c4 => ?_)
      · rw [if_neg c4] at hE hp
        refine lv_aload_n hx hb dX11_reason_113 rfl (lv_at hl 0 rfl) ?_
        refine va_get (D := G) (ci := 8) (v := .ref (g 11)) (C := RX11) (T := TX11) (N := 42) hx hb hts iX11 hown hK hP 0 rfl rfl 11 (by decide) (hw (.fieldLink RX11 9 "MotionFloorModel$Hall" "isThere" "[Z") (List.mem_of_getElem? (i := 4) rfl)) (fun _ h9 => h9) rfl dX11_reason_114 ?_
        refine lv_iload_n hx hb dX11_reason_117 rfl (lv_at hl 2 rfl) ?_
        obtain ⟨hy5, hp⟩ := hp
        refine va_zald hx hb hK hP 1 1 rfl rfl hy5 dX11_reason_118 ?_
        refine lv_if_eq (tgt := 127) hx hb dX11_reason_119 (by decide) (fun c6 => ?_) (fun c6 => ?_)
        · rw [if_pos c6] at hE hp
          refine lv_iconst (v := 0) hx hb dX11_reason_127 (by decide) ?_
          exact B_128 u2 x1 x2 x3 x4 x5 0 _ _ _ hE hp hP hD hS (lv_sub hl [0, 1, 2, 3, 4, 5] rfl)
        · rw [if_neg c6] at hE hp
          refine lv_bipush (v := 11) hx hb dX11_reason_122 (by decide) ?_
          refine lv_goto (tgt := 128) hx hb dX11_reason_124 (by decide) ?_
          exact B_128 u2 x1 x2 x3 x4 x5 11 _ _ _ hE hp hP hD hS (lv_sub hl [0, 1, 2, 3, 4, 5] rfl)
      · rw [if_pos c4] at hE hp
        refine lv_bipush (v := 9) hx hb dX11_reason_108 (by decide) ?_
        refine lv_goto (tgt := 128) hx hb dX11_reason_110 (by decide) ?_
        exact B_128 u2 x1 x2 x3 x4 x5 9 _ _ _ hE hp hP hD hS (lv_sub hl [0, 1, 2, 3, 4, 5] rfl)
    rw [if_neg s1] at hE hp
    have s1 := wNe (b := 1) rfl (by decide) s1
    by_cases s2 : x1 = 2
    · rw [if_pos s2] at hE hp
      refine lv_tableIn (off := 128) (tgt := 129) hx hb dX11_reason_1 (by rw [s2]; decide) (by rw [s2]; decide) (by rw [s2]; decide) (by decide) ?_
      exact B_129 S x1 x2 x3 x4 x5 _ _ _ hE hp hP hD hS (lv_sub hl [0, 1, 2, 3, 4, 5] rfl)
    rw [if_neg s2] at hE hp
    have s2 := wNe (b := 2) rfl (by decide) s2
    by_cases s3 : x1 = 3
    · rw [if_pos s3] at hE hp
      refine lv_tableIn (off := 157) (tgt := 158) hx hb dX11_reason_1 (by rw [s3]; decide) (by rw [s3]; decide) (by rw [s3]; decide) (by decide) ?_
      refine lv_iload_n hx hb dX11_reason_158 rfl (lv_at hl 2 rfl) ?_
      refine lv_iconst (v := 0) hx hb dX11_reason_159 (by decide) ?_
      refine lv_sipush (v := 200) hx hb dX11_reason_160 (by decide) ?_
      obtain ⟨hy19, hp⟩ := hp
      refine nGoi (va_runSN (As := [.int x2, .int 0, .int 200]) (rest := []) ⟨hx, hb, hml, hown, hts⟩ (c_X12_in l G K x2 0 200 _) ⟨va_cnB (host := "MotionFloorModel") 3 hts (wGP t_ j_X12_in) rfl rfl rfl hTE.2.2.2.2.2.2.2.2.2.1 (hw (.initialized RX12) (List.mem_of_getElem? (i := 5) rfl)) (by decide +kernel) ⟨Nat.le_of_ble_eq_true rfl, Nat.le_of_ble_eq_true rfl⟩, (hw (.static yX12_in) (List.mem_of_getElem? (i := 6) rfl)), trivial⟩ (nPS hK hTE hy19) rfl rfl hl.1 rfl (lv_room (Nat.le_of_ble_eq_true rfl)) dX11_reason_163 ⟨Nat.le_of_ble_eq_true rfl, Nat.le_of_ble_eq_true rfl⟩) hP hS hA (fun r H locs hv hP hS => ?_)
      subst hv
      refine lv_if_ne (tgt := 174) hx hb dX11_reason_166 (by decide) (fun c20 => ?_) (fun c20 => ?_)
      · rw [if_neg c20] at hE hp
        refine lv_aload_n hx hb dX11_reason_174 rfl (lv_at hl 0 rfl) ?_
        refine va_get (D := G) (ci := 8) (v := .int (S.1 6)) (C := RX11) (T := TX11) (N := 42) hx hb hts iX11 hown hK hP 0 rfl rfl 6 (by decide) (hw (.fieldLink RX11 115 "MotionFloorModel$Hall" "pending" "I") (List.mem_of_getElem? (i := 7) rfl)) (fun _ h9 => h9) rfl dX11_reason_175 ?_
        refine lv_if_le (tgt := 186) hx hb dX11_reason_178 (by decide) (fun c21 => ?_) (fun c21 => ?_)
        · rw [if_pos c21] at hE hp
          refine lv_iconst (v := 0) hx hb dX11_reason_186 (by decide) ?_
          exact B_187 S x1 x2 x3 x4 x5 0 _ _ _ hE hp hP hD hS (lv_sub hl [0, 1, 2, 3, 4, 5] rfl)
        · rw [if_neg c21] at hE hp
          refine lv_bipush (v := 11) hx hb dX11_reason_181 (by decide) ?_
          refine lv_goto (tgt := 187) hx hb dX11_reason_183 (by decide) ?_
          exact B_187 S x1 x2 x3 x4 x5 11 _ _ _ hE hp hP hD hS (lv_sub hl [0, 1, 2, 3, 4, 5] rfl)
      · rw [if_pos c20] at hE hp
        refine lv_bipush (v := 9) hx hb dX11_reason_169 (by decide) ?_
        refine lv_goto (tgt := 187) hx hb dX11_reason_171 (by decide) ?_
        exact B_187 S x1 x2 x3 x4 x5 9 _ _ _ hE hp hP hD hS (lv_sub hl [0, 1, 2, 3, 4, 5] rfl)
    rw [if_neg s3] at hE hp
    have s3 := wNe (b := 3) rfl (by decide) s3
    by_cases s4 : x1 = 4
    · rw [if_pos s4] at hE hp
      refine lv_tableIn (off := 128) (tgt := 129) hx hb dX11_reason_1 (by rw [s4]; decide) (by rw [s4]; decide) (by rw [s4]; decide) (by decide) ?_
      exact B_129 S x1 x2 x3 x4 x5 _ _ _ hE hp hP hD hS (lv_sub hl [0, 1, 2, 3, 4, 5] rfl)
    rw [if_neg s4] at hE hp
    have s4 := wNe (b := 4) rfl (by decide) s4
    by_cases s5 : x1 = 5
    · rw [if_pos s5] at hE hp
      refine lv_tableIn (off := 187) (tgt := 188) hx hb dX11_reason_1 (by rw [s5]; decide) (by rw [s5]; decide) (by rw [s5]; decide) (by decide) ?_
      refine lv_iload_n hx hb dX11_reason_188 rfl (lv_at hl 2 rfl) ?_
      refine lv_iconst (v := 1) hx hb dX11_reason_189 (by decide) ?_
      refine lv_bipush (v := 8) hx hb dX11_reason_190 (by decide) ?_
      obtain ⟨hy22, hp⟩ := hp
      refine nGoi (va_runSN (As := [.int x2, .int 1, .int 8]) (rest := []) ⟨hx, hb, hml, hown, hts⟩ (c_X12_in l G K x2 1 8 _) ⟨va_cnB (host := "MotionFloorModel") 3 hts (wGP t_ j_X12_in) rfl rfl rfl hTE.2.2.2.2.2.2.2.2.2.1 (hw (.initialized RX12) (List.mem_of_getElem? (i := 5) rfl)) (by decide +kernel) ⟨Nat.le_of_ble_eq_true rfl, Nat.le_of_ble_eq_true rfl⟩, (hw (.static yX12_in) (List.mem_of_getElem? (i := 6) rfl)), trivial⟩ (nPS hK hTE hy22) rfl rfl hl.1 rfl (lv_room (Nat.le_of_ble_eq_true rfl)) dX11_reason_192 ⟨Nat.le_of_ble_eq_true rfl, Nat.le_of_ble_eq_true rfl⟩) hP hS hA (fun r H locs hv hP hS => ?_)
      subst hv
      refine lv_if_eq (tgt := 207) hx hb dX11_reason_195 (by decide) (fun c23 => ?_) (fun c23 => ?_)
      · rw [if_pos c23] at hE hp
        exact B_207 S x1 x2 x3 x4 x5 _ _ _ hE hp hP hD hS (lv_sub hl [0, 1, 2, 3, 4, 5] rfl)
      · rw [if_neg c23] at hE hp
        refine lv_iload_n hx hb dX11_reason_198 rfl (lv_at hl 3 rfl) ?_
        refine lv_iconst (v := 1) hx hb dX11_reason_199 (by decide) ?_
        refine lv_iconst (v := 3) hx hb dX11_reason_200 (by decide) ?_
        obtain ⟨hy24, hp⟩ := hp
        refine nGoi (va_runSN (As := [.int x3, .int 1, .int 3]) (rest := []) ⟨hx, hb, hml, hown, hts⟩ (c_X12_in l G K x3 1 3 _) ⟨va_cnB (host := "MotionFloorModel") 3 hts (wGP t_ j_X12_in) rfl rfl rfl hTE.2.2.2.2.2.2.2.2.2.1 (hw (.initialized RX12) (List.mem_of_getElem? (i := 5) rfl)) (by decide +kernel) ⟨Nat.le_of_ble_eq_true rfl, Nat.le_of_ble_eq_true rfl⟩, (hw (.static yX12_in) (List.mem_of_getElem? (i := 6) rfl)), trivial⟩ (nPS hK hTE hy24) rfl rfl hl.1 rfl (lv_room (Nat.le_of_ble_eq_true rfl)) dX11_reason_201 ⟨Nat.le_of_ble_eq_true rfl, Nat.le_of_ble_eq_true rfl⟩) hP hS hA (fun r H locs hv hP hS => ?_)
        subst hv
        refine lv_if_ne (tgt := 212) hx hb dX11_reason_204 (by decide) (fun c25 => ?_) (fun c25 => ?_)
        · rw [if_neg c25] at hE hp
          refine lv_aload_n hx hb dX11_reason_212 rfl (lv_at hl 0 rfl) ?_
          refine va_get (D := G) (ci := 8) (v := .int (S.1 6)) (C := RX11) (T := TX11) (N := 42) hx hb hts iX11 hown hK hP 0 rfl rfl 6 (by decide) (hw (.fieldLink RX11 115 "MotionFloorModel$Hall" "pending" "I") (List.mem_of_getElem? (i := 7) rfl)) (fun _ h9 => h9) rfl dX11_reason_213 ?_
          refine lv_if_le (tgt := 224) hx hb dX11_reason_216 (by decide) (fun c26 => ?_) (fun c26 => ?_)
          · rw [if_pos c26] at hE hp
            refine lv_iconst (v := 0) hx hb dX11_reason_224 (by decide) ?_
            exact B_225 S x1 x2 x3 x4 x5 0 _ _ _ hE hp hP hD hS (lv_sub hl [0, 1, 2, 3, 4, 5] rfl)
          · rw [if_neg c26] at hE hp
            refine lv_bipush (v := 11) hx hb dX11_reason_219 (by decide) ?_
            refine lv_goto (tgt := 225) hx hb dX11_reason_221 (by decide) ?_
            exact B_225 S x1 x2 x3 x4 x5 11 _ _ _ hE hp hP hD hS (lv_sub hl [0, 1, 2, 3, 4, 5] rfl)
        · rw [if_pos c25] at hE hp
          exact B_207 S x1 x2 x3 x4 x5 _ _ _ hE hp hP hD hS (lv_sub hl [0, 1, 2, 3, 4, 5] rfl)
    rw [if_neg s5] at hE hp
    have s5 := wNe (b := 5) rfl (by decide) s5
    by_cases s6 : x1 = 6
    · rw [if_pos s6] at hE hp
      refine lv_tableIn (off := 225) (tgt := 226) hx hb dX11_reason_1 (by rw [s6]; decide) (by rw [s6]; decide) (by rw [s6]; decide) (by decide) ?_
      refine lv_iload_n hx hb dX11_reason_226 rfl (lv_at hl 2 rfl) ?_
      refine lv_iconst (v := 0) hx hb dX11_reason_227 (by decide) ?_
      refine lv_bipush (v := 99) hx hb dX11_reason_228 (by decide) ?_
      obtain ⟨hy27, hp⟩ := hp
      refine nGoi (va_runSN (As := [.int x2, .int 0, .int 99]) (rest := []) ⟨hx, hb, hml, hown, hts⟩ (c_X12_in l G K x2 0 99 _) ⟨va_cnB (host := "MotionFloorModel") 3 hts (wGP t_ j_X12_in) rfl rfl rfl hTE.2.2.2.2.2.2.2.2.2.1 (hw (.initialized RX12) (List.mem_of_getElem? (i := 5) rfl)) (by decide +kernel) ⟨Nat.le_of_ble_eq_true rfl, Nat.le_of_ble_eq_true rfl⟩, (hw (.static yX12_in) (List.mem_of_getElem? (i := 6) rfl)), trivial⟩ (nPS hK hTE hy27) rfl rfl hl.1 rfl (lv_room (Nat.le_of_ble_eq_true rfl)) dX11_reason_230 ⟨Nat.le_of_ble_eq_true rfl, Nat.le_of_ble_eq_true rfl⟩) hP hS hA (fun r H locs hv hP hS => ?_)
      subst hv
      refine lv_if_ne (tgt := 241) hx hb dX11_reason_233 (by decide) (fun c28 => ?_) (fun c28 => ?_)
      · rw [if_neg c28] at hE hp
        refine lv_aload_n hx hb dX11_reason_241 rfl (lv_at hl 0 rfl) ?_
        refine va_get (D := G) (ci := 8) (v := .int (S.1 6)) (C := RX11) (T := TX11) (N := 42) hx hb hts iX11 hown hK hP 0 rfl rfl 6 (by decide) (hw (.fieldLink RX11 115 "MotionFloorModel$Hall" "pending" "I") (List.mem_of_getElem? (i := 7) rfl)) (fun _ h9 => h9) rfl dX11_reason_242 ?_
        refine lv_if_le (tgt := 253) hx hb dX11_reason_245 (by decide) (fun c29 => ?_) (fun c29 => ?_)
        · rw [if_pos c29] at hE hp
          refine lv_iconst (v := 0) hx hb dX11_reason_253 (by decide) ?_
          exact B_254 S x1 x2 x3 x4 x5 0 _ _ _ hE hp hP hD hS (lv_sub hl [0, 1, 2, 3, 4, 5] rfl)
        · rw [if_neg c29] at hE hp
          refine lv_bipush (v := 11) hx hb dX11_reason_248 (by decide) ?_
          refine lv_goto (tgt := 254) hx hb dX11_reason_250 (by decide) ?_
          exact B_254 S x1 x2 x3 x4 x5 11 _ _ _ hE hp hP hD hS (lv_sub hl [0, 1, 2, 3, 4, 5] rfl)
      · rw [if_pos c28] at hE hp
        refine lv_bipush (v := 9) hx hb dX11_reason_236 (by decide) ?_
        refine lv_goto (tgt := 254) hx hb dX11_reason_238 (by decide) ?_
        exact B_254 S x1 x2 x3 x4 x5 9 _ _ _ hE hp hP hD hS (lv_sub hl [0, 1, 2, 3, 4, 5] rfl)
    rw [if_neg s6] at hE hp
    have s6 := wNe (b := 6) rfl (by decide) s6
    by_cases s7 : x1 = 7
    · rw [if_pos s7] at hE hp
      refine lv_tableIn (off := 254) (tgt := 255) hx hb dX11_reason_1 (by rw [s7]; decide) (by rw [s7]; decide) (by rw [s7]; decide) (by decide) ?_
      refine lv_aload_n hx hb dX11_reason_255 rfl (lv_at hl 0 rfl) ?_
      refine lv_iload_n hx hb dX11_reason_256 rfl (lv_at hl 2 rfl) ?_
      obtain ⟨hy30, hp⟩ := hp
      refine hGoi (va_runV (As := [.int x2]) (rest := []) ⟨hx, hb, hml, hown, hts⟩ (c_X11_isSeat l G K h g S x2 _) (cwV 1 hts (wGV t_ (mw (.methodLink RX11 140 yX11_isSeat) (List.mem_of_getElem? (i := 0) rfl)) (mw (.instanceMethod yX11_isSeat) (List.mem_of_getElem? (i := 1) rfl)) (mw (.selects RX11 yX11_isSeat yX11_isSeat) (List.mem_of_getElem? (i := 2) rfl)) (mw (.initialized RX11) (List.mem_of_getElem? (i := 3) rfl)) j_X11_isSeat) rfl rfl rfl (by decide +kernel) ⟨Nat.le_of_ble_eq_true rfl, Nat.le_of_ble_eq_true rfl⟩) (hPV hK hTE hP hD hy30) rfl rfl hl.1 rfl (lv_room (Nat.le_of_ble_eq_true rfl)) dX11_reason_257 ⟨Nat.le_of_ble_eq_true rfl, Nat.le_of_ble_eq_true rfl⟩) hP hD hS hA (fun r32 u31 H locs hv hP hD hS => ?_)
      rw [← hv] at hE hp
      dsimp only at hE hp
      unfold b_X11_reason_a260 at hE
      unfold q_X11_reason_a260 at hp
      refine lv_if_ne (tgt := 266) hx hb dX11_reason_260 (by decide) (fun c33 => ?_) (fun c33 => ?_)
      · rw [if_neg c33] at hE hp
        refine lv_aload_n hx hb dX11_reason_266 rfl (lv_at hl 0 rfl) ?_
        refine va_get (D := G) (ci := 8) (v := .ref (g 11)) (C := RX11) (T := TX11) (N := 42) hx hb hts iX11 hown hK hP 0 rfl rfl 11 (by decide) (hw (.fieldLink RX11 9 "MotionFloorModel$Hall" "isThere" "[Z") (List.mem_of_getElem? (i := 4) rfl)) (fun _ h9 => h9) rfl dX11_reason_267 ?_
        refine lv_iload_n hx hb dX11_reason_270 rfl (lv_at hl 2 rfl) ?_
        obtain ⟨hy34, hp⟩ := hp
        refine va_zald hx hb hK hP 1 1 rfl rfl hy34 dX11_reason_271 ?_
        refine lv_if_ne (tgt := 278) hx hb dX11_reason_272 (by decide) (fun c35 => ?_) (fun c35 => ?_)
        · rw [if_neg c35] at hE hp
          refine lv_iload_n hx hb dX11_reason_278 rfl (lv_at hl 2 rfl) ?_
          refine lv_aload_n hx hb dX11_reason_279 rfl (lv_at hl 0 rfl) ?_
          refine va_get (D := G) (ci := 8) (v := .int (u31.1 2)) (C := RX11) (T := TX11) (N := 42) hx hb hts iX11 hown hK hP 0 rfl rfl 2 (by decide) (hw (.fieldLink RX11 103 "MotionFloorModel$Hall" "chair" "I") (List.mem_of_getElem? (i := 8) rfl)) (fun _ h9 => h9) rfl dX11_reason_280 ?_
          refine lv_icmp_eq (tgt := 294) hx hb dX11_reason_283 (by decide) (fun c36 => ?_) (fun c36 => ?_)
          · rw [if_pos c36] at hE hp
            exact B_294 u31 x1 x2 x3 x4 x5 _ _ _ hE hp hP hD hS (lv_sub hl [0, 1, 2, 3, 4, 5] rfl)
          · rw [if_neg c36] at hE hp
            refine lv_aload_n hx hb dX11_reason_286 rfl (lv_at hl 0 rfl) ?_
            refine va_get (D := G) (ci := 8) (v := .int (u31.1 5)) (C := RX11) (T := TX11) (N := 42) hx hb hts iX11 hown hK hP 0 rfl rfl 5 (by decide) (hw (.fieldLink RX11 112 "MotionFloorModel$Hall" "floor" "I") (List.mem_of_getElem? (i := 9) rfl)) (fun _ h9 => h9) rfl dX11_reason_287 ?_
            refine lv_iconst (v := (-1)) hx hb dX11_reason_290 (by decide) ?_
            refine lv_icmp_eq (tgt := 296) hx hb dX11_reason_291 (by decide) (fun c37 => ?_) (fun c37 => ?_)
            · rw [if_pos c37] at hE hp
              refine lv_aload_n hx hb dX11_reason_296 rfl (lv_at hl 0 rfl) ?_
              refine va_get (D := G) (ci := 8) (v := .int (u31.1 6)) (C := RX11) (T := TX11) (N := 42) hx hb hts iX11 hown hK hP 0 rfl rfl 6 (by decide) (hw (.fieldLink RX11 115 "MotionFloorModel$Hall" "pending" "I") (List.mem_of_getElem? (i := 7) rfl)) (fun _ h9 => h9) rfl dX11_reason_297 ?_
              refine lv_if_ne (tgt := 305) hx hb dX11_reason_300 (by decide) (fun c38 => ?_) (fun c38 => ?_)
              · rw [if_neg c38] at hE hp
                refine lv_aload_n hx hb dX11_reason_305 rfl (lv_at hl 0 rfl) ?_
                refine va_get (D := G) (ci := 8) (v := .ref (g 14)) (C := RX11) (T := TX11) (N := 42) hx hb hts iX11 hown hK hP 0 rfl rfl 14 (by decide) (hw (.fieldLink RX11 22 "MotionFloorModel$Hall" "kind" "[I") (List.mem_of_getElem? (i := 10) rfl)) (fun _ h9 => h9) rfl dX11_reason_306 ?_
                refine lv_aload_n hx hb dX11_reason_309 rfl (lv_at hl 0 rfl) ?_
                obtain ⟨hy39, hp⟩ := hp
                refine hGoi (va_runV (As := []) (rest := [.ref (g 14)]) ⟨hx, hb, hml, hown, hts⟩ (c_X11_top l G K h g u31 _) (cwV 0 hts (wGV t_ (mw (.methodLink RX11 155 yX11_top) (List.mem_of_getElem? (i := 11) rfl)) (mw (.instanceMethod yX11_top) (List.mem_of_getElem? (i := 12) rfl)) (mw (.selects RX11 yX11_top yX11_top) (List.mem_of_getElem? (i := 13) rfl)) (mw (.initialized RX11) (List.mem_of_getElem? (i := 3) rfl)) j_X11_top) rfl rfl rfl (by decide +kernel) ⟨Nat.le_of_ble_eq_true rfl, Nat.le_of_ble_eq_true rfl⟩) (hPV hK hTE hP hD hy39) rfl rfl hl.1 rfl (lv_room (Nat.le_of_ble_eq_true rfl)) dX11_reason_310 ⟨Nat.le_of_ble_eq_true rfl, Nat.le_of_ble_eq_true rfl⟩) hP hD hS hA (fun r41 u40 H locs hv hP hD hS => ?_)
                rw [← hv] at hE hp
                dsimp only at hE hp
                unfold b_X11_reason_a313 at hE
                unfold q_X11_reason_a313 at hp
                obtain ⟨hy42, hp⟩ := hp
                refine va_iald hx hb hK hP 4 0 rfl rfl hy42 dX11_reason_313 ?_
                refine lv_bipush (v := 6) hx hb dX11_reason_314 (by decide) ?_
                refine lv_icmp_eq (tgt := 354) hx hb dX11_reason_316 (by decide) (fun c43 => ?_) (fun c43 => ?_)
                · rw [if_pos c43] at hE hp
                  exact B_354 u40 x1 x2 x3 x4 x5 _ _ _ hE hp hP hD hS (lv_sub hl [0, 1, 2, 3, 4, 5] rfl)
                · rw [if_neg c43] at hE hp
                  refine lv_aload_n hx hb dX11_reason_319 rfl (lv_at hl 0 rfl) ?_
                  refine va_get (D := G) (ci := 8) (v := .ref (g 24)) (C := RX11) (T := TX11) (N := 42) hx hb hts iX11 hown hK hP 0 rfl rfl 24 (by decide) (hw (.fieldLink RX11 52 "MotionFloorModel$Hall" "closed" "[Z") (List.mem_of_getElem? (i := 14) rfl)) (fun _ h9 => h9) rfl dX11_reason_320 ?_
                  refine lv_aload_n hx hb dX11_reason_323 rfl (lv_at hl 0 rfl) ?_
                  obtain ⟨hy44, hp⟩ := hp
                  refine hGoi (va_runV (As := []) (rest := [.ref (g 24)]) ⟨hx, hb, hml, hown, hts⟩ (c_X11_top l G K h g u40 _) (cwV 0 hts (wGV t_ (mw (.methodLink RX11 155 yX11_top) (List.mem_of_getElem? (i := 11) rfl)) (mw (.instanceMethod yX11_top) (List.mem_of_getElem? (i := 12) rfl)) (mw (.selects RX11 yX11_top yX11_top) (List.mem_of_getElem? (i := 13) rfl)) (mw (.initialized RX11) (List.mem_of_getElem? (i := 3) rfl)) j_X11_top) rfl rfl rfl (by decide +kernel) ⟨Nat.le_of_ble_eq_true rfl, Nat.le_of_ble_eq_true rfl⟩) (hPV hK hTE hP hD hy44) rfl rfl hl.1 rfl (lv_room (Nat.le_of_ble_eq_true rfl)) dX11_reason_324 ⟨Nat.le_of_ble_eq_true rfl, Nat.le_of_ble_eq_true rfl⟩) hP hD hS hA (fun r46 u45 H locs hv hP hD hS => ?_)
                  rw [← hv] at hE hp
                  dsimp only at hE hp
                  unfold b_X11_reason_a327 at hE
                  unfold q_X11_reason_a327 at hp
                  obtain ⟨hy47, hp⟩ := hp
                  refine va_zald hx hb hK hP 14 1 rfl rfl hy47 dX11_reason_327 ?_
                  refine lv_if_ne (tgt := 354) hx hb dX11_reason_328 (by decide) (fun c48 => ?_) (fun c48 => ?_)
                  · rw [if_neg c48] at hE hp
                    exact B_354 u45 x1 x2 x3 x4 x5 _ _ _ hE hp hP hD hS (lv_sub hl [0, 1, 2, 3, 4, 5] rfl)
                  · rw [if_pos c48] at hE hp
                    refine lv_aload_n hx hb dX11_reason_331 rfl (lv_at hl 0 rfl) ?_
                    refine va_get (D := G) (ci := 8) (v := .int (u45.1 4)) (C := RX11) (T := TX11) (N := 42) hx hb hts iX11 hown hK hP 0 rfl rfl 4 (by decide) (hw (.fieldLink RX11 109 "MotionFloorModel$Hall" "limit" "I") (List.mem_of_getElem? (i := 15) rfl)) (fun _ h9 => h9) rfl dX11_reason_332 ?_
                    refine lv_if_le (tgt := 359) hx hb dX11_reason_335 (by decide) (fun c49 => ?_) (fun c49 => ?_)
                    · rw [if_pos c49] at hE hp
                      exact B_359 u45 x1 x2 x3 x4 x5 _ _ _ hE hp hP hD hS (lv_sub hl [0, 1, 2, 3, 4, 5] rfl)
                    · rw [if_neg c49] at hE hp
                      refine lv_aload_n hx hb dX11_reason_338 rfl (lv_at hl 0 rfl) ?_
                      refine va_get (D := G) (ci := 8) (v := .ref (g 17)) (C := RX11) (T := TX11) (N := 42) hx hb hts iX11 hown hK hP 0 rfl rfl 17 (by decide) (hw (.fieldLink RX11 31 "MotionFloorModel$Hall" "floors" "[I") (List.mem_of_getElem? (i := 16) rfl)) (fun _ h9 => h9) rfl dX11_reason_339 ?_
                      refine lv_aload_n hx hb dX11_reason_342 rfl (lv_at hl 0 rfl) ?_
                      obtain ⟨hy50, hp⟩ := hp
                      refine hGoi (va_runV (As := []) (rest := [.ref (g 17)]) ⟨hx, hb, hml, hown, hts⟩ (c_X11_top l G K h g u45 _) (cwV 0 hts (wGV t_ (mw (.methodLink RX11 155 yX11_top) (List.mem_of_getElem? (i := 11) rfl)) (mw (.instanceMethod yX11_top) (List.mem_of_getElem? (i := 12) rfl)) (mw (.selects RX11 yX11_top yX11_top) (List.mem_of_getElem? (i := 13) rfl)) (mw (.initialized RX11) (List.mem_of_getElem? (i := 3) rfl)) j_X11_top) rfl rfl rfl (by decide +kernel) ⟨Nat.le_of_ble_eq_true rfl, Nat.le_of_ble_eq_true rfl⟩) (hPV hK hTE hP hD hy50) rfl rfl hl.1 rfl (lv_room (Nat.le_of_ble_eq_true rfl)) dX11_reason_343 ⟨Nat.le_of_ble_eq_true rfl, Nat.le_of_ble_eq_true rfl⟩) hP hD hS hA (fun r52 u51 H locs hv hP hD hS => ?_)
                      rw [← hv] at hE hp
                      dsimp only at hE hp
                      unfold b_X11_reason_a346 at hE
                      unfold q_X11_reason_a346 at hp
                      obtain ⟨hy53, hp⟩ := hp
                      refine va_iald hx hb hK hP 7 0 rfl rfl hy53 dX11_reason_346 ?_
                      refine lv_aload_n hx hb dX11_reason_347 rfl (lv_at hl 0 rfl) ?_
                      refine va_get (D := G) (ci := 8) (v := .int (u51.1 4)) (C := RX11) (T := TX11) (N := 42) hx hb hts iX11 hown hK hP 0 rfl rfl 4 (by decide) (hw (.fieldLink RX11 109 "MotionFloorModel$Hall" "limit" "I") (List.mem_of_getElem? (i := 15) rfl)) (fun _ h9 => h9) rfl dX11_reason_348 ?_
                      refine lv_icmp_lt (tgt := 359) hx hb dX11_reason_351 (by decide) (fun c54 => ?_) (fun c54 => ?_)
                      · rw [if_pos c54] at hE hp
                        exact B_359 u51 x1 x2 x3 x4 x5 _ _ _ hE hp hP hD hS (lv_sub hl [0, 1, 2, 3, 4, 5] rfl)
                      · rw [if_neg c54] at hE hp
                        exact B_354 u51 x1 x2 x3 x4 x5 _ _ _ hE hp hP hD hS (lv_sub hl [0, 1, 2, 3, 4, 5] rfl)
              · rw [if_pos c38] at hE hp
                refine lv_iconst (v := 0) hx hb dX11_reason_303 (by decide) ?_
                subst hQ
                exact W.iret (v := 0) hx hb hr (fun t ht hW => ⟨⟨0, u31, rfl, hE.trans hX.symm, by rw [ht]; exact hP, hD⟩, hS.F ht⟩) hS.2.2 dX11_reason_304
            · rw [if_neg c37] at hE hp
              exact B_294 u31 x1 x2 x3 x4 x5 _ _ _ hE hp hP hD hS (lv_sub hl [0, 1, 2, 3, 4, 5] rfl)
        · rw [if_pos c35] at hE hp
          refine lv_bipush (v := 8) hx hb dX11_reason_275 (by decide) ?_
          subst hQ
          exact W.iret (v := 8) hx hb hr (fun t ht hW => ⟨⟨8, u31, rfl, hE.trans hX.symm, by rw [ht]; exact hP, hD⟩, hS.F ht⟩) hS.2.2 dX11_reason_277
      · rw [if_pos c33] at hE hp
        refine lv_bipush (v := 9) hx hb dX11_reason_263 (by decide) ?_
        subst hQ
        exact W.iret (v := 9) hx hb hr (fun t ht hW => ⟨⟨9, u31, rfl, hE.trans hX.symm, by rw [ht]; exact hP, hD⟩, hS.F ht⟩) hS.2.2 dX11_reason_265
    rw [if_neg s7] at hE hp
    have s7 := wNe (b := 7) rfl (by decide) s7
    by_cases s8 : x1 = 8
    · rw [if_pos s8] at hE hp
      refine lv_tableIn (off := 360) (tgt := 361) hx hb dX11_reason_1 (by rw [s8]; decide) (by rw [s8]; decide) (by rw [s8]; decide) (by decide) ?_
      refine lv_aload_n hx hb dX11_reason_361 rfl (lv_at hl 0 rfl) ?_
      refine va_get (D := G) (ci := 8) (v := .int (S.1 5)) (C := RX11) (T := TX11) (N := 42) hx hb hts iX11 hown hK hP 0 rfl rfl 5 (by decide) (hw (.fieldLink RX11 112 "MotionFloorModel$Hall" "floor" "I") (List.mem_of_getElem? (i := 9) rfl)) (fun _ h9 => h9) rfl dX11_reason_362 ?_
      refine lv_iconst (v := (-1)) hx hb dX11_reason_365 (by decide) ?_
      refine lv_icmp_ne (tgt := 373) hx hb dX11_reason_366 (by decide) (fun c100 => ?_) (fun c100 => ?_)
      · rw [if_neg c100] at hE hp
        refine lv_iconst (v := 0) hx hb dX11_reason_373 (by decide) ?_
        exact B_374 S x1 x2 x3 x4 x5 0 _ _ _ hE hp hP hD hS (lv_sub hl [0, 1, 2, 3, 4, 5] rfl)
      · rw [if_pos c100] at hE hp
        refine lv_iconst (v := 2) hx hb dX11_reason_369 (by decide) ?_
        refine lv_goto (tgt := 374) hx hb dX11_reason_370 (by decide) ?_
        exact B_374 S x1 x2 x3 x4 x5 2 _ _ _ hE hp hP hD hS (lv_sub hl [0, 1, 2, 3, 4, 5] rfl)
    rw [if_neg s8] at hE hp
    have s8 := wNe (b := 8) rfl (by decide) s8
    by_cases s9 : x1 = 9
    · rw [if_pos s9] at hE hp
      refine lv_tableIn (off := 374) (tgt := 375) hx hb dX11_reason_1 (by rw [s9]; decide) (by rw [s9]; decide) (by rw [s9]; decide) (by decide) ?_
      refine lv_aload_n hx hb dX11_reason_375 rfl (lv_at hl 0 rfl) ?_
      refine va_get (D := G) (ci := 8) (v := .int (S.1 6)) (C := RX11) (T := TX11) (N := 42) hx hb hts iX11 hown hK hP 0 rfl rfl 6 (by decide) (hw (.fieldLink RX11 115 "MotionFloorModel$Hall" "pending" "I") (List.mem_of_getElem? (i := 7) rfl)) (fun _ h9 => h9) rfl dX11_reason_376 ?_
      refine lv_if_ne (tgt := 385) hx hb dX11_reason_379 (by decide) (fun c101 => ?_) (fun c101 => ?_)
      · rw [if_neg c101] at hE hp
        refine lv_aload_n hx hb dX11_reason_385 rfl (lv_at hl 0 rfl) ?_
        refine va_get (D := G) (ci := 8) (v := .int (S.1 5)) (C := RX11) (T := TX11) (N := 42) hx hb hts iX11 hown hK hP 0 rfl rfl 5 (by decide) (hw (.fieldLink RX11 112 "MotionFloorModel$Hall" "floor" "I") (List.mem_of_getElem? (i := 9) rfl)) (fun _ h9 => h9) rfl dX11_reason_386 ?_
        refine lv_iconst (v := (-1)) hx hb dX11_reason_389 (by decide) ?_
        refine lv_icmp_eq (tgt := 401) hx hb dX11_reason_390 (by decide) (fun c102 => ?_) (fun c102 => ?_)
        · rw [if_pos c102] at hE hp
          exact B_401 S x1 x2 x3 x4 x5 _ _ _ hE hp hP hD hS (lv_sub hl [0, 1, 2, 3, 4, 5] rfl)
        · rw [if_neg c102] at hE hp
          refine lv_aload_n hx hb dX11_reason_393 rfl (lv_at hl 0 rfl) ?_
          refine va_get (D := G) (ci := 8) (v := .int (S.1 5)) (C := RX11) (T := TX11) (N := 42) hx hb hts iX11 hown hK hP 0 rfl rfl 5 (by decide) (hw (.fieldLink RX11 112 "MotionFloorModel$Hall" "floor" "I") (List.mem_of_getElem? (i := 9) rfl)) (fun _ h9 => h9) rfl dX11_reason_394 ?_
          refine lv_iload_n hx hb dX11_reason_397 rfl (lv_at hl 2 rfl) ?_
          refine lv_icmp_eq (tgt := 403) hx hb dX11_reason_398 (by decide) (fun c103 => ?_) (fun c103 => ?_)
          · rw [if_pos c103] at hE hp
            refine lv_aload_n hx hb dX11_reason_403 rfl (lv_at hl 0 rfl) ?_
            obtain ⟨hy104, hp⟩ := hp
            refine hGoi (va_runV (As := []) (rest := []) ⟨hx, hb, hml, hown, hts⟩ (c_X11_hasSeconder l G K h g S _) (cwV 0 hts (wGV t_ (mw (.methodLink RX11 159 yX11_hasSeconder) (List.mem_of_getElem? (i := 17) rfl)) (mw (.instanceMethod yX11_hasSeconder) (List.mem_of_getElem? (i := 18) rfl)) (mw (.selects RX11 yX11_hasSeconder yX11_hasSeconder) (List.mem_of_getElem? (i := 19) rfl)) (mw (.initialized RX11) (List.mem_of_getElem? (i := 3) rfl)) j_X11_hasSeconder) rfl rfl rfl (by decide +kernel) ⟨Nat.le_of_ble_eq_true rfl, Nat.le_of_ble_eq_true rfl⟩) (hPV hK hTE hP hD hy104) rfl rfl hl.1 rfl (lv_room (Nat.le_of_ble_eq_true rfl)) dX11_reason_404 ⟨Nat.le_of_ble_eq_true rfl, Nat.le_of_ble_eq_true rfl⟩) hP hD hS hA (fun r106 u105 H locs hv hP hD hS => ?_)
            rw [← hv] at hE hp
            dsimp only at hE hp
            unfold b_X11_reason_a407 at hE
            unfold q_X11_reason_a407 at hp
            refine lv_if_ne (tgt := 412) hx hb dX11_reason_407 (by decide) (fun c107 => ?_) (fun c107 => ?_)
            · rw [if_neg c107] at hE hp
              refine lv_aload_n hx hb dX11_reason_412 rfl (lv_at hl 0 rfl) ?_
              refine va_get (D := G) (ci := 8) (v := .ref (g 14)) (C := RX11) (T := TX11) (N := 42) hx hb hts iX11 hown hK hP 0 rfl rfl 14 (by decide) (hw (.fieldLink RX11 22 "MotionFloorModel$Hall" "kind" "[I") (List.mem_of_getElem? (i := 10) rfl)) (fun _ h9 => h9) rfl dX11_reason_413 ?_
              refine lv_aload_n hx hb dX11_reason_416 rfl (lv_at hl 0 rfl) ?_
              obtain ⟨hy108, hp⟩ := hp
              refine hGoi (va_runV (As := []) (rest := [.ref (g 14)]) ⟨hx, hb, hml, hown, hts⟩ (c_X11_top l G K h g u105 _) (cwV 0 hts (wGV t_ (mw (.methodLink RX11 155 yX11_top) (List.mem_of_getElem? (i := 11) rfl)) (mw (.instanceMethod yX11_top) (List.mem_of_getElem? (i := 12) rfl)) (mw (.selects RX11 yX11_top yX11_top) (List.mem_of_getElem? (i := 13) rfl)) (mw (.initialized RX11) (List.mem_of_getElem? (i := 3) rfl)) j_X11_top) rfl rfl rfl (by decide +kernel) ⟨Nat.le_of_ble_eq_true rfl, Nat.le_of_ble_eq_true rfl⟩) (hPV hK hTE hP hD hy108) rfl rfl hl.1 rfl (lv_room (Nat.le_of_ble_eq_true rfl)) dX11_reason_417 ⟨Nat.le_of_ble_eq_true rfl, Nat.le_of_ble_eq_true rfl⟩) hP hD hS hA (fun r110 u109 H locs hv hP hD hS => ?_)
              rw [← hv] at hE hp
              dsimp only at hE hp
              unfold b_X11_reason_a420 at hE
              unfold q_X11_reason_a420 at hp
              obtain ⟨hy111, hp⟩ := hp
              refine va_iald hx hb hK hP 4 0 rfl rfl hy111 dX11_reason_420 ?_
              refine lv_bipush (v := 6) hx hb dX11_reason_421 (by decide) ?_
              refine lv_bipush (v := 8) hx hb dX11_reason_423 (by decide) ?_
              obtain ⟨hy112, hp⟩ := hp
              refine nGoi (va_runSN (As := [.int (u109.2 14 r110.toNatClampNeg), .int 6, .int 8]) (rest := []) ⟨hx, hb, hml, hown, hts⟩ (c_X12_in l G K (u109.2 14 r110.toNatClampNeg) 6 8 _) ⟨va_cnB (host := "MotionFloorModel") 3 hts (wGP t_ j_X12_in) rfl rfl rfl hTE.2.2.2.2.2.2.2.2.2.1 (hw (.initialized RX12) (List.mem_of_getElem? (i := 5) rfl)) (by decide +kernel) ⟨Nat.le_of_ble_eq_true rfl, Nat.le_of_ble_eq_true rfl⟩, (hw (.static yX12_in) (List.mem_of_getElem? (i := 6) rfl)), trivial⟩ (nPS hK hTE hy112) rfl rfl hl.1 rfl (lv_room (Nat.le_of_ble_eq_true rfl)) dX11_reason_425 ⟨Nat.le_of_ble_eq_true rfl, Nat.le_of_ble_eq_true rfl⟩) hP hS hA (fun r H locs hv hP hS => ?_)
              subst hv
              refine lv_if_eq (tgt := 436) hx hb dX11_reason_428 (by decide) (fun c113 => ?_) (fun c113 => ?_)
              · rw [if_pos c113] at hE hp
                refine lv_iconst (v := 0) hx hb dX11_reason_436 (by decide) ?_
                exact B_437 u109 x1 x2 x3 x4 x5 0 _ _ _ hE hp hP hD hS (lv_sub hl [0, 1, 2, 3, 4, 5] rfl)
              · rw [if_neg c113] at hE hp
                refine lv_bipush (v := 6) hx hb dX11_reason_431 (by decide) ?_
                refine lv_goto (tgt := 437) hx hb dX11_reason_433 (by decide) ?_
                exact B_437 u109 x1 x2 x3 x4 x5 6 _ _ _ hE hp hP hD hS (lv_sub hl [0, 1, 2, 3, 4, 5] rfl)
            · rw [if_pos c107] at hE hp
              refine lv_iconst (v := 3) hx hb dX11_reason_410 (by decide) ?_
              subst hQ
              exact W.iret (v := 3) hx hb hr (fun t ht hW => ⟨⟨3, u105, rfl, hE.trans hX.symm, by rw [ht]; exact hP, hD⟩, hS.F ht⟩) hS.2.2 dX11_reason_411
          · rw [if_neg c103] at hE hp
            exact B_401 S x1 x2 x3 x4 x5 _ _ _ hE hp hP hD hS (lv_sub hl [0, 1, 2, 3, 4, 5] rfl)
      · rw [if_pos c101] at hE hp
        refine lv_bipush (v := 7) hx hb dX11_reason_382 (by decide) ?_
        subst hQ
        exact W.iret (v := 7) hx hb hr (fun t ht hW => ⟨⟨7, S, rfl, hE.trans hX.symm, by rw [ht]; exact hP, hD⟩, hS.F ht⟩) hS.2.2 dX11_reason_384
    rw [if_neg s9] at hE hp
    have s9 := wNe (b := 9) rfl (by decide) s9
    by_cases s10 : x1 = 10
    · rw [if_pos s10] at hE hp
      refine lv_tableIn (off := 437) (tgt := 438) hx hb dX11_reason_1 (by rw [s10]; decide) (by rw [s10]; decide) (by rw [s10]; decide) (by decide) ?_
      refine lv_iload_n hx hb dX11_reason_438 rfl (lv_at hl 2 rfl) ?_
      refine lv_iconst (v := 1) hx hb dX11_reason_439 (by decide) ?_
      refine lv_bipush (v := 8) hx hb dX11_reason_440 (by decide) ?_
      obtain ⟨hy124, hp⟩ := hp
      refine nGoi (va_runSN (As := [.int x2, .int 1, .int 8]) (rest := []) ⟨hx, hb, hml, hown, hts⟩ (c_X12_in l G K x2 1 8 _) ⟨va_cnB (host := "MotionFloorModel") 3 hts (wGP t_ j_X12_in) rfl rfl rfl hTE.2.2.2.2.2.2.2.2.2.1 (hw (.initialized RX12) (List.mem_of_getElem? (i := 5) rfl)) (by decide +kernel) ⟨Nat.le_of_ble_eq_true rfl, Nat.le_of_ble_eq_true rfl⟩, (hw (.static yX12_in) (List.mem_of_getElem? (i := 6) rfl)), trivial⟩ (nPS hK hTE hy124) rfl rfl hl.1 rfl (lv_room (Nat.le_of_ble_eq_true rfl)) dX11_reason_442 ⟨Nat.le_of_ble_eq_true rfl, Nat.le_of_ble_eq_true rfl⟩) hP hS hA (fun r H locs hv hP hS => ?_)
      subst hv
      refine lv_if_ne (tgt := 453) hx hb dX11_reason_445 (by decide) (fun c125 => ?_) (fun c125 => ?_)
      · rw [if_neg c125] at hE hp
        refine lv_iconst (v := 0) hx hb dX11_reason_453 (by decide) ?_
        exact B_454 S x1 x2 x3 x4 x5 0 _ _ _ hE hp hP hD hS (lv_sub hl [0, 1, 2, 3, 4, 5] rfl)
      · rw [if_pos c125] at hE hp
        refine lv_bipush (v := 9) hx hb dX11_reason_448 (by decide) ?_
        refine lv_goto (tgt := 454) hx hb dX11_reason_450 (by decide) ?_
        exact B_454 S x1 x2 x3 x4 x5 9 _ _ _ hE hp hP hD hS (lv_sub hl [0, 1, 2, 3, 4, 5] rfl)
    rw [if_neg s10] at hE hp
    have s10 := wNe (b := 10) rfl (by decide) s10
    by_cases s11 : x1 = 11
    · rw [if_pos s11] at hE hp
      refine lv_tableIn (off := 454) (tgt := 455) hx hb dX11_reason_1 (by rw [s11]; decide) (by rw [s11]; decide) (by rw [s11]; decide) (by decide) ?_
      refine lv_aload_n hx hb dX11_reason_455 rfl (lv_at hl 0 rfl) ?_
      refine lv_iconst (v := 2) hx hb dX11_reason_456 (by decide) ?_
      refine lv_iconst (v := 3) hx hb dX11_reason_457 (by decide) ?_
      obtain ⟨hy126, hp⟩ := hp
      refine hGoi (va_runV (As := [.int 2, .int 3]) (rest := []) ⟨hx, hb, hml, hown, hts⟩ (c_X11_hasDraft l G K h g S 2 3 _) (cwV 2 hts (wGV t_ (mw (.methodLink RX11 163 yX11_hasDraft) (List.mem_of_getElem? (i := 20) rfl)) (mw (.instanceMethod yX11_hasDraft) (List.mem_of_getElem? (i := 21) rfl)) (mw (.selects RX11 yX11_hasDraft yX11_hasDraft) (List.mem_of_getElem? (i := 22) rfl)) (mw (.initialized RX11) (List.mem_of_getElem? (i := 3) rfl)) j_X11_hasDraft) rfl rfl rfl (by decide +kernel) ⟨Nat.le_of_ble_eq_true rfl, Nat.le_of_ble_eq_true rfl⟩) (hPV hK hTE hP hD hy126) rfl rfl hl.1 rfl (lv_room (Nat.le_of_ble_eq_true rfl)) dX11_reason_458 ⟨Nat.le_of_ble_eq_true rfl, Nat.le_of_ble_eq_true rfl⟩) hP hD hS hA (fun r128 u127 H locs hv hP hD hS => ?_)
      rw [← hv] at hE hp
      dsimp only at hE hp
      unfold b_X11_reason_a461 at hE
      unfold q_X11_reason_a461 at hp
      refine lv_if_eq (tgt := 478) hx hb dX11_reason_461 (by decide) (fun c129 => ?_) (fun c129 => ?_)
      · rw [if_pos c129] at hE hp
        exact B_478 u127 x1 x2 x3 x4 x5 _ _ _ hE hp hP hD hS (lv_sub hl [0, 1, 2, 3, 4, 5] rfl)
      · rw [if_neg c129] at hE hp
        refine lv_aload_n hx hb dX11_reason_464 rfl (lv_at hl 0 rfl) ?_
        refine va_get (D := G) (ci := 8) (v := .ref (g 25)) (C := RX11) (T := TX11) (N := 42) hx hb hts iX11 hown hK hP 0 rfl rfl 25 (by decide) (hw (.fieldLink RX11 55 "MotionFloorModel$Hall" "laid" "[Z") (List.mem_of_getElem? (i := 23) rfl)) (fun _ h9 => h9) rfl dX11_reason_465 ?_
        refine lv_aload_n hx hb dX11_reason_468 rfl (lv_at hl 0 rfl) ?_
        refine va_get (D := G) (ci := 8) (v := .ref (g 32)) (C := RX11) (T := TX11) (N := 42) hx hb hts iX11 hown hK hP 0 rfl rfl 32 (by decide) (hw (.fieldLink RX11 75 "MotionFloorModel$Hall" "draft" "[I") (List.mem_of_getElem? (i := 24) rfl)) (fun _ h9 => h9) rfl dX11_reason_469 ?_
        refine lv_iconst (v := 0) hx hb dX11_reason_472 (by decide) ?_
        obtain ⟨hy130, hp⟩ := hp
        refine va_iald hx hb hK hP 21 0 rfl rfl hy130 dX11_reason_473 ?_
        obtain ⟨hy131, hp⟩ := hp
        refine va_zald hx hb hK hP 15 1 rfl rfl hy131 dX11_reason_474 ?_
        refine lv_if_eq (tgt := 483) hx hb dX11_reason_475 (by decide) (fun c132 => ?_) (fun c132 => ?_)
        · rw [if_pos c132] at hE hp
          refine lv_iload_n hx hb dX11_reason_483 rfl (lv_at hl 2 rfl) ?_
          refine lv_iconst (v := 0) hx hb dX11_reason_484 (by decide) ?_
          refine lv_sipush (v := 400) hx hb dX11_reason_485 (by decide) ?_
          obtain ⟨hy133, hp⟩ := hp
          refine nGoi (va_runSN (As := [.int x2, .int 0, .int 400]) (rest := []) ⟨hx, hb, hml, hown, hts⟩ (c_X12_in l G K x2 0 400 _) ⟨va_cnB (host := "MotionFloorModel") 3 hts (wGP t_ j_X12_in) rfl rfl rfl hTE.2.2.2.2.2.2.2.2.2.1 (hw (.initialized RX12) (List.mem_of_getElem? (i := 5) rfl)) (by decide +kernel) ⟨Nat.le_of_ble_eq_true rfl, Nat.le_of_ble_eq_true rfl⟩, (hw (.static yX12_in) (List.mem_of_getElem? (i := 6) rfl)), trivial⟩ (nPS hK hTE hy133) rfl rfl hl.1 rfl (lv_room (Nat.le_of_ble_eq_true rfl)) dX11_reason_488 ⟨Nat.le_of_ble_eq_true rfl, Nat.le_of_ble_eq_true rfl⟩) hP hS hA (fun r H locs hv hP hS => ?_)
          subst hv
          refine lv_if_eq (tgt := 510) hx hb dX11_reason_491 (by decide) (fun c134 => ?_) (fun c134 => ?_)
          · rw [if_pos c134] at hE hp
            exact B_510 u127 x1 x2 x3 x4 x5 _ _ _ hE hp hP hD hS (lv_sub hl [0, 1, 2, 3, 4, 5] rfl)
          · rw [if_neg c134] at hE hp
            refine lv_iload_n hx hb dX11_reason_494 rfl (lv_at hl 3 rfl) ?_
            refine lv_iconst (v := 0) hx hb dX11_reason_495 (by decide) ?_
            refine lv_sipush (v := 400) hx hb dX11_reason_496 (by decide) ?_
            obtain ⟨hy135, hp⟩ := hp
            refine nGoi (va_runSN (As := [.int x3, .int 0, .int 400]) (rest := []) ⟨hx, hb, hml, hown, hts⟩ (c_X12_in l G K x3 0 400 _) ⟨va_cnB (host := "MotionFloorModel") 3 hts (wGP t_ j_X12_in) rfl rfl rfl hTE.2.2.2.2.2.2.2.2.2.1 (hw (.initialized RX12) (List.mem_of_getElem? (i := 5) rfl)) (by decide +kernel) ⟨Nat.le_of_ble_eq_true rfl, Nat.le_of_ble_eq_true rfl⟩, (hw (.static yX12_in) (List.mem_of_getElem? (i := 6) rfl)), trivial⟩ (nPS hK hTE hy135) rfl rfl hl.1 rfl (lv_room (Nat.le_of_ble_eq_true rfl)) dX11_reason_499 ⟨Nat.le_of_ble_eq_true rfl, Nat.le_of_ble_eq_true rfl⟩) hP hS hA (fun r H locs hv hP hS => ?_)
            subst hv
            refine lv_if_eq (tgt := 510) hx hb dX11_reason_502 (by decide) (fun c136 => ?_) (fun c136 => ?_)
            · rw [if_pos c136] at hE hp
              exact B_510 u127 x1 x2 x3 x4 x5 _ _ _ hE hp hP hD hS (lv_sub hl [0, 1, 2, 3, 4, 5] rfl)
            · rw [if_neg c136] at hE hp
              refine lv_iload_n hx hb dX11_reason_505 rfl (lv_at hl 3 rfl) ?_
              refine lv_iload_n hx hb dX11_reason_506 rfl (lv_at hl 2 rfl) ?_
              refine lv_icmp_ge (tgt := 515) hx hb dX11_reason_507 (by decide) (fun c137 => ?_) (fun c137 => ?_)
              · rw [if_pos c137] at hE hp
                refine lv_iconst (v := 0) hx hb dX11_reason_515 (by decide) ?_
                exact B_516 u127 x1 x2 x3 x4 x5 0 _ _ _ hE hp hP hD hS (lv_sub hl [0, 1, 2, 3, 4, 5] rfl)
              · rw [if_neg c137] at hE hp
                exact B_510 u127 x1 x2 x3 x4 x5 _ _ _ hE hp hP hD hS (lv_sub hl [0, 1, 2, 3, 4, 5] rfl)
        · rw [if_neg c132] at hE hp
          exact B_478 u127 x1 x2 x3 x4 x5 _ _ _ hE hp hP hD hS (lv_sub hl [0, 1, 2, 3, 4, 5] rfl)
    rw [if_neg s11] at hE hp
    have s11 := wNe (b := 11) rfl (by decide) s11
    by_cases s12 : x1 = 12
    · rw [if_pos s12] at hE hp
      refine lv_tableIn (off := 516) (tgt := 517) hx hb dX11_reason_1 (by rw [s12]; decide) (by rw [s12]; decide) (by rw [s12]; decide) (by decide) ?_
      refine lv_aload_n hx hb dX11_reason_517 rfl (lv_at hl 0 rfl) ?_
      refine lv_iload_n hx hb dX11_reason_518 rfl (lv_at hl 2 rfl) ?_
      refine lv_iload_n hx hb dX11_reason_519 rfl (lv_at hl 3 rfl) ?_
      refine lv_iload hx hb dX11_reason_520 (lv_at hl 4 rfl) ?_
      refine lv_iload hx hb dX11_reason_522 (lv_at hl 5 rfl) ?_
      obtain ⟨hy147, hp⟩ := hp
      refine hGoi (va_runV (As := [.int x2, .int x3, .int x4, .int x5]) (rest := []) ⟨hx, hb, hml, hown, hts⟩ (c_X11_reasonOfWord l G K h g S x2 x3 x4 x5 _) (cwV 4 hts (wGV t_ (mw (.methodLink RX11 167 yX11_reasonOfWord) (List.mem_of_getElem? (i := 25) rfl)) (mw (.instanceMethod yX11_reasonOfWord) (List.mem_of_getElem? (i := 26) rfl)) (mw (.selects RX11 yX11_reasonOfWord yX11_reasonOfWord) (List.mem_of_getElem? (i := 27) rfl)) (mw (.initialized RX11) (List.mem_of_getElem? (i := 3) rfl)) j_X11_reasonOfWord) rfl rfl rfl (by decide +kernel) ⟨Nat.le_of_ble_eq_true rfl, Nat.le_of_ble_eq_true rfl⟩) (hPV hK hTE hP hD hy147) rfl rfl hl.1 rfl (lv_room (Nat.le_of_ble_eq_true rfl)) dX11_reason_524 ⟨Nat.le_of_ble_eq_true rfl, Nat.le_of_ble_eq_true rfl⟩) hP hD hS hA (fun r149 u148 H locs hv hP hD hS => ?_)
      rw [← hv] at hE hp
      dsimp only at hE hp
      unfold b_X11_reason_a527 at hE
      unfold q_X11_reason_a527 at hp
      subst hQ
      exact W.iret (v := r149) hx hb hr (fun t ht hW => ⟨⟨r149, u148, rfl, hE.trans hX.symm, by rw [ht]; exact hP, hD⟩, hS.F ht⟩) hS.2.2 dX11_reason_527
    rw [if_neg s12] at hE hp
    have s12 := wNe (b := 12) rfl (by decide) s12
    by_cases s13 : x1 = 13
    · rw [if_pos s13] at hE hp
      refine lv_tableIn (off := 527) (tgt := 528) hx hb dX11_reason_1 (by rw [s13]; decide) (by rw [s13]; decide) (by rw [s13]; decide) (by decide) ?_
      refine lv_aload_n hx hb dX11_reason_528 rfl (lv_at hl 0 rfl) ?_
      refine lv_iload_n hx hb dX11_reason_529 rfl (lv_at hl 2 rfl) ?_
      obtain ⟨hy150, hp⟩ := hp
      refine hGoi (va_runV (As := [.int x2]) (rest := []) ⟨hx, hb, hml, hown, hts⟩ (c_X11_reasonOfLay l G K h g S x2 _) (cwV 1 hts (wGV t_ (mw (.methodLink RX11 171 yX11_reasonOfLay) (List.mem_of_getElem? (i := 28) rfl)) (mw (.instanceMethod yX11_reasonOfLay) (List.mem_of_getElem? (i := 29) rfl)) (mw (.selects RX11 yX11_reasonOfLay yX11_reasonOfLay) (List.mem_of_getElem? (i := 30) rfl)) (mw (.initialized RX11) (List.mem_of_getElem? (i := 3) rfl)) j_X11_reasonOfLay) rfl rfl rfl (by decide +kernel) ⟨Nat.le_of_ble_eq_true rfl, Nat.le_of_ble_eq_true rfl⟩) (hPV hK hTE hP hD hy150) rfl rfl hl.1 rfl (lv_room (Nat.le_of_ble_eq_true rfl)) dX11_reason_530 ⟨Nat.le_of_ble_eq_true rfl, Nat.le_of_ble_eq_true rfl⟩) hP hD hS hA (fun r152 u151 H locs hv hP hD hS => ?_)
      rw [← hv] at hE hp
      dsimp only at hE hp
      unfold b_X11_reason_a533 at hE
      unfold q_X11_reason_a533 at hp
      subst hQ
      exact W.iret (v := r152) hx hb hr (fun t ht hW => ⟨⟨r152, u151, rfl, hE.trans hX.symm, by rw [ht]; exact hP, hD⟩, hS.F ht⟩) hS.2.2 dX11_reason_533
    rw [if_neg s13] at hE hp
    have s13 := wNe (b := 13) rfl (by decide) s13
    by_cases s14 : x1 = 14
    · rw [if_pos s14] at hE hp
      refine lv_tableIn (off := 533) (tgt := 534) hx hb dX11_reason_1 (by rw [s14]; decide) (by rw [s14]; decide) (by rw [s14]; decide) (by decide) ?_
      refine lv_iload_n hx hb dX11_reason_534 rfl (lv_at hl 2 rfl) ?_
      refine lv_iconst (v := 0) hx hb dX11_reason_535 (by decide) ?_
      refine lv_bipush (v := 7) hx hb dX11_reason_536 (by decide) ?_
      obtain ⟨hy153, hp⟩ := hp
      refine nGoi (va_runSN (As := [.int x2, .int 0, .int 7]) (rest := []) ⟨hx, hb, hml, hown, hts⟩ (c_X12_in l G K x2 0 7 _) ⟨va_cnB (host := "MotionFloorModel") 3 hts (wGP t_ j_X12_in) rfl rfl rfl hTE.2.2.2.2.2.2.2.2.2.1 (hw (.initialized RX12) (List.mem_of_getElem? (i := 5) rfl)) (by decide +kernel) ⟨Nat.le_of_ble_eq_true rfl, Nat.le_of_ble_eq_true rfl⟩, (hw (.static yX12_in) (List.mem_of_getElem? (i := 6) rfl)), trivial⟩ (nPS hK hTE hy153) rfl rfl hl.1 rfl (lv_room (Nat.le_of_ble_eq_true rfl)) dX11_reason_538 ⟨Nat.le_of_ble_eq_true rfl, Nat.le_of_ble_eq_true rfl⟩) hP hS hA (fun r H locs hv hP hS => ?_)
      subst hv
      refine lv_if_ne (tgt := 549) hx hb dX11_reason_541 (by decide) (fun c154 => ?_) (fun c154 => ?_)
      · rw [if_neg c154] at hE hp
        refine lv_aload_n hx hb dX11_reason_549 rfl (lv_at hl 0 rfl) ?_
        refine va_get (D := G) (ci := 8) (v := .int (S.1 35)) (C := RX11) (T := TX11) (N := 42) hx hb hts iX11 hown hK hP 0 rfl rfl 35 (by decide) (hw (.fieldLink RX11 130 "MotionFloorModel$Hall" "drafted" "I") (List.mem_of_getElem? (i := 31) rfl)) (fun _ h9 => h9) rfl dX11_reason_550 ?_
        refine lv_if_gt (tgt := 565) hx hb dX11_reason_553 (by decide) (fun c155 => ?_) (fun c155 => ?_)
        · rw [if_pos c155] at hE hp
          exact B_565 S x1 x2 x3 x4 x5 _ _ _ hE hp hP hD hS (lv_sub hl [0, 1, 2, 3, 4, 5] rfl)
        · rw [if_neg c155] at hE hp
          refine lv_aload_n hx hb dX11_reason_556 rfl (lv_at hl 0 rfl) ?_
          refine va_get (D := G) (ci := 8) (v := .ref (g 34)) (C := RX11) (T := TX11) (N := 42) hx hb hts iX11 hown hK hP 0 rfl rfl 34 (by decide) (hw (.fieldLink RX11 81 "MotionFloorModel$Hall" "lying" "[I") (List.mem_of_getElem? (i := 32) rfl)) (fun _ h9 => h9) rfl dX11_reason_557 ?_
          refine lv_iload_n hx hb dX11_reason_560 rfl (lv_at hl 2 rfl) ?_
          obtain ⟨hy156, hp⟩ := hp
          refine va_iald hx hb hK hP 23 0 rfl rfl hy156 dX11_reason_561 ?_
          refine lv_if_ne (tgt := 570) hx hb dX11_reason_562 (by decide) (fun c157 => ?_) (fun c157 => ?_)
          · rw [if_neg c157] at hE hp
            refine lv_iconst (v := 0) hx hb dX11_reason_570 (by decide) ?_
            exact B_571 S x1 x2 x3 x4 x5 0 _ _ _ hE hp hP hD hS (lv_sub hl [0, 1, 2, 3, 4, 5] rfl)
          · rw [if_pos c157] at hE hp
            exact B_565 S x1 x2 x3 x4 x5 _ _ _ hE hp hP hD hS (lv_sub hl [0, 1, 2, 3, 4, 5] rfl)
      · rw [if_pos c154] at hE hp
        refine lv_bipush (v := 9) hx hb dX11_reason_544 (by decide) ?_
        refine lv_goto (tgt := 571) hx hb dX11_reason_546 (by decide) ?_
        exact B_571 S x1 x2 x3 x4 x5 9 _ _ _ hE hp hP hD hS (lv_sub hl [0, 1, 2, 3, 4, 5] rfl)
    rw [if_neg s14] at hE hp
    have s14 := wNe (b := 14) rfl (by decide) s14
    by_cases s15 : x1 = 15
    · rw [if_pos s15] at hE hp
      refine lv_tableIn (off := 571) (tgt := 572) hx hb dX11_reason_1 (by rw [s15]; decide) (by rw [s15]; decide) (by rw [s15]; decide) (by decide) ?_
      refine lv_aload_n hx hb dX11_reason_572 rfl (lv_at hl 0 rfl) ?_
      refine lv_iload_n hx hb dX11_reason_573 rfl (lv_at hl 2 rfl) ?_
      obtain ⟨hy158, hp⟩ := hp
      refine hGoi (va_runV (As := [.int x2]) (rest := []) ⟨hx, hb, hml, hown, hts⟩ (c_X11_reasonOfMove l G K h g S x2 _) (cwV 1 hts (wGV t_ (mw (.methodLink RX11 175 yX11_reasonOfMove) (List.mem_of_getElem? (i := 33) rfl)) (mw (.instanceMethod yX11_reasonOfMove) (List.mem_of_getElem? (i := 34) rfl)) (mw (.selects RX11 yX11_reasonOfMove yX11_reasonOfMove) (List.mem_of_getElem? (i := 35) rfl)) (mw (.initialized RX11) (List.mem_of_getElem? (i := 3) rfl)) j_X11_reasonOfMove) rfl rfl rfl (by decide +kernel) ⟨Nat.le_of_ble_eq_true rfl, Nat.le_of_ble_eq_true rfl⟩) (hPV hK hTE hP hD hy158) rfl rfl hl.1 rfl (lv_room (Nat.le_of_ble_eq_true rfl)) dX11_reason_574 ⟨Nat.le_of_ble_eq_true rfl, Nat.le_of_ble_eq_true rfl⟩) hP hD hS hA (fun r160 u159 H locs hv hP hD hS => ?_)
      rw [← hv] at hE hp
      dsimp only at hE hp
      unfold b_X11_reason_a577 at hE
      unfold q_X11_reason_a577 at hp
      subst hQ
      exact W.iret (v := r160) hx hb hr (fun t ht hW => ⟨⟨r160, u159, rfl, hE.trans hX.symm, by rw [ht]; exact hP, hD⟩, hS.F ht⟩) hS.2.2 dX11_reason_577
    rw [if_neg s15] at hE hp
    have s15 := wNe (b := 15) rfl (by decide) s15
    by_cases s16 : x1 = 16
    · rw [if_pos s16] at hE hp
      refine lv_tableIn (off := 577) (tgt := 578) hx hb dX11_reason_1 (by rw [s16]; decide) (by rw [s16]; decide) (by rw [s16]; decide) (by decide) ?_
      refine lv_aload_n hx hb dX11_reason_578 rfl (lv_at hl 0 rfl) ?_
      refine va_get (D := G) (ci := 8) (v := .int (S.1 6)) (C := RX11) (T := TX11) (N := 42) hx hb hts iX11 hown hK hP 0 rfl rfl 6 (by decide) (hw (.fieldLink RX11 115 "MotionFloorModel$Hall" "pending" "I") (List.mem_of_getElem? (i := 7) rfl)) (fun _ h9 => h9) rfl dX11_reason_579 ?_
      refine lv_if_ne (tgt := 588) hx hb dX11_reason_582 (by decide) (fun c161 => ?_) (fun c161 => ?_)
      · rw [if_neg c161] at hE hp
        refine lv_aload_n hx hb dX11_reason_588 rfl (lv_at hl 0 rfl) ?_
        refine lv_iload_n hx hb dX11_reason_589 rfl (lv_at hl 2 rfl) ?_
        obtain ⟨hy162, hp⟩ := hp
        refine hGoi (va_runV (As := [.int x2]) (rest := []) ⟨hx, hb, hml, hown, hts⟩ (c_X11_isSeat l G K h g S x2 _) (cwV 1 hts (wGV t_ (mw (.methodLink RX11 140 yX11_isSeat) (List.mem_of_getElem? (i := 0) rfl)) (mw (.instanceMethod yX11_isSeat) (List.mem_of_getElem? (i := 1) rfl)) (mw (.selects RX11 yX11_isSeat yX11_isSeat) (List.mem_of_getElem? (i := 2) rfl)) (mw (.initialized RX11) (List.mem_of_getElem? (i := 3) rfl)) j_X11_isSeat) rfl rfl rfl (by decide +kernel) ⟨Nat.le_of_ble_eq_true rfl, Nat.le_of_ble_eq_true rfl⟩) (hPV hK hTE hP hD hy162) rfl rfl hl.1 rfl (lv_room (Nat.le_of_ble_eq_true rfl)) dX11_reason_590 ⟨Nat.le_of_ble_eq_true rfl, Nat.le_of_ble_eq_true rfl⟩) hP hD hS hA (fun r164 u163 H locs hv hP hD hS => ?_)
        rw [← hv] at hE hp
        dsimp only at hE hp
        unfold b_X11_reason_a593 at hE
        unfold q_X11_reason_a593 at hp
        refine lv_if_ne (tgt := 599) hx hb dX11_reason_593 (by decide) (fun c165 => ?_) (fun c165 => ?_)
        · rw [if_neg c165] at hE hp
          refine lv_aload_n hx hb dX11_reason_599 rfl (lv_at hl 0 rfl) ?_
          refine va_get (D := G) (ci := 8) (v := .ref (g 11)) (C := RX11) (T := TX11) (N := 42) hx hb hts iX11 hown hK hP 0 rfl rfl 11 (by decide) (hw (.fieldLink RX11 9 "MotionFloorModel$Hall" "isThere" "[Z") (List.mem_of_getElem? (i := 4) rfl)) (fun _ h9 => h9) rfl dX11_reason_600 ?_
          refine lv_iload_n hx hb dX11_reason_603 rfl (lv_at hl 2 rfl) ?_
          obtain ⟨hy166, hp⟩ := hp
          refine va_zald hx hb hK hP 1 1 rfl rfl hy166 dX11_reason_604 ?_
          refine lv_if_ne (tgt := 611) hx hb dX11_reason_605 (by decide) (fun c167 => ?_) (fun c167 => ?_)
          · rw [if_neg c167] at hE hp
            refine lv_aload_n hx hb dX11_reason_611 rfl (lv_at hl 0 rfl) ?_
            obtain ⟨hy168, hp⟩ := hp
            refine hGoi (va_runV (As := []) (rest := []) ⟨hx, hb, hml, hown, hts⟩ (c_X11_hasSeconder l G K h g u163 _) (cwV 0 hts (wGV t_ (mw (.methodLink RX11 159 yX11_hasSeconder) (List.mem_of_getElem? (i := 17) rfl)) (mw (.instanceMethod yX11_hasSeconder) (List.mem_of_getElem? (i := 18) rfl)) (mw (.selects RX11 yX11_hasSeconder yX11_hasSeconder) (List.mem_of_getElem? (i := 19) rfl)) (mw (.initialized RX11) (List.mem_of_getElem? (i := 3) rfl)) j_X11_hasSeconder) rfl rfl rfl (by decide +kernel) ⟨Nat.le_of_ble_eq_true rfl, Nat.le_of_ble_eq_true rfl⟩) (hPV hK hTE hP hD hy168) rfl rfl hl.1 rfl (lv_room (Nat.le_of_ble_eq_true rfl)) dX11_reason_612 ⟨Nat.le_of_ble_eq_true rfl, Nat.le_of_ble_eq_true rfl⟩) hP hD hS hA (fun r170 u169 H locs hv hP hD hS => ?_)
            rw [← hv] at hE hp
            dsimp only at hE hp
            unfold b_X11_reason_a615 at hE
            unfold q_X11_reason_a615 at hp
            refine lv_if_ne (tgt := 632) hx hb dX11_reason_615 (by decide) (fun c171 => ?_) (fun c171 => ?_)
            · rw [if_neg c171] at hE hp
              exact B_632 u169 x1 x2 x3 x4 x5 _ _ _ hE hp hP hD hS (lv_sub hl [0, 1, 2, 3, 4, 5] rfl)
            · rw [if_pos c171] at hE hp
              refine lv_aload_n hx hb dX11_reason_618 rfl (lv_at hl 0 rfl) ?_
              refine va_get (D := G) (ci := 8) (v := .ref (g 14)) (C := RX11) (T := TX11) (N := 42) hx hb hts iX11 hown hK hP 0 rfl rfl 14 (by decide) (hw (.fieldLink RX11 22 "MotionFloorModel$Hall" "kind" "[I") (List.mem_of_getElem? (i := 10) rfl)) (fun _ h9 => h9) rfl dX11_reason_619 ?_
              refine lv_aload_n hx hb dX11_reason_622 rfl (lv_at hl 0 rfl) ?_
              obtain ⟨hy172, hp⟩ := hp
              refine hGoi (va_runV (As := []) (rest := [.ref (g 14)]) ⟨hx, hb, hml, hown, hts⟩ (c_X11_top l G K h g u169 _) (cwV 0 hts (wGV t_ (mw (.methodLink RX11 155 yX11_top) (List.mem_of_getElem? (i := 11) rfl)) (mw (.instanceMethod yX11_top) (List.mem_of_getElem? (i := 12) rfl)) (mw (.selects RX11 yX11_top yX11_top) (List.mem_of_getElem? (i := 13) rfl)) (mw (.initialized RX11) (List.mem_of_getElem? (i := 3) rfl)) j_X11_top) rfl rfl rfl (by decide +kernel) ⟨Nat.le_of_ble_eq_true rfl, Nat.le_of_ble_eq_true rfl⟩) (hPV hK hTE hP hD hy172) rfl rfl hl.1 rfl (lv_room (Nat.le_of_ble_eq_true rfl)) dX11_reason_623 ⟨Nat.le_of_ble_eq_true rfl, Nat.le_of_ble_eq_true rfl⟩) hP hD hS hA (fun r174 u173 H locs hv hP hD hS => ?_)
              rw [← hv] at hE hp
              dsimp only at hE hp
              unfold b_X11_reason_a626 at hE
              unfold q_X11_reason_a626 at hp
              obtain ⟨hy175, hp⟩ := hp
              refine va_iald hx hb hK hP 4 0 rfl rfl hy175 dX11_reason_626 ?_
              refine lv_bipush (v := 9) hx hb dX11_reason_627 (by decide) ?_
              refine lv_icmp_ne (tgt := 634) hx hb dX11_reason_629 (by decide) (fun c176 => ?_) (fun c176 => ?_)
              · rw [if_neg c176] at hE hp
                refine lv_iload_n hx hb dX11_reason_634 rfl (lv_at hl 2 rfl) ?_
                refine lv_aload_n hx hb dX11_reason_635 rfl (lv_at hl 0 rfl) ?_
                refine va_get (D := G) (ci := 8) (v := .ref (g 15)) (C := RX11) (T := TX11) (N := 42) hx hb hts iX11 hown hK hP 0 rfl rfl 15 (by decide) (hw (.fieldLink RX11 25 "MotionFloorModel$Hall" "mover" "[I") (List.mem_of_getElem? (i := 36) rfl)) (fun _ h9 => h9) rfl dX11_reason_636 ?_
                refine lv_aload_n hx hb dX11_reason_639 rfl (lv_at hl 0 rfl) ?_
                obtain ⟨hy177, hp⟩ := hp
                refine hGoi (va_runV (As := []) (rest := [.ref (g 15), .int x2]) ⟨hx, hb, hml, hown, hts⟩ (c_X11_top l G K h g u173 _) (cwV 0 hts (wGV t_ (mw (.methodLink RX11 155 yX11_top) (List.mem_of_getElem? (i := 11) rfl)) (mw (.instanceMethod yX11_top) (List.mem_of_getElem? (i := 12) rfl)) (mw (.selects RX11 yX11_top yX11_top) (List.mem_of_getElem? (i := 13) rfl)) (mw (.initialized RX11) (List.mem_of_getElem? (i := 3) rfl)) j_X11_top) rfl rfl rfl (by decide +kernel) ⟨Nat.le_of_ble_eq_true rfl, Nat.le_of_ble_eq_true rfl⟩) (hPV hK hTE hP hD hy177) rfl rfl hl.1 rfl (lv_room (Nat.le_of_ble_eq_true rfl)) dX11_reason_640 ⟨Nat.le_of_ble_eq_true rfl, Nat.le_of_ble_eq_true rfl⟩) hP hD hS hA (fun r179 u178 H locs hv hP hD hS => ?_)
                rw [← hv] at hE hp
                dsimp only at hE hp
                unfold b_X11_reason_a643 at hE
                unfold q_X11_reason_a643 at hp
                obtain ⟨hy180, hp⟩ := hp
                refine va_iald hx hb hK hP 5 0 rfl rfl hy180 dX11_reason_643 ?_
                refine lv_icmp_eq (tgt := 655) hx hb dX11_reason_644 (by decide) (fun c181 => ?_) (fun c181 => ?_)
                · rw [if_pos c181] at hE hp
                  exact B_655 u178 x1 x2 x3 x4 x5 _ _ _ hE hp hP hD hS (lv_sub hl [0, 1, 2, 3, 4, 5] rfl)
                · rw [if_neg c181] at hE hp
                  refine lv_iload_n hx hb dX11_reason_647 rfl (lv_at hl 2 rfl) ?_
                  refine lv_aload_n hx hb dX11_reason_648 rfl (lv_at hl 0 rfl) ?_
                  refine va_get (D := G) (ci := 8) (v := .int (u178.1 2)) (C := RX11) (T := TX11) (N := 42) hx hb hts iX11 hown hK hP 0 rfl rfl 2 (by decide) (hw (.fieldLink RX11 103 "MotionFloorModel$Hall" "chair" "I") (List.mem_of_getElem? (i := 8) rfl)) (fun _ h9 => h9) rfl dX11_reason_649 ?_
                  refine lv_icmp_ne (tgt := 659) hx hb dX11_reason_652 (by decide) (fun c182 => ?_) (fun c182 => ?_)
                  · rw [if_neg c182] at hE hp
                    refine lv_iconst (v := 0) hx hb dX11_reason_659 (by decide) ?_
                    exact B_660 u178 x1 x2 x3 x4 x5 0 _ _ _ hE hp hP hD hS (lv_sub hl [0, 1, 2, 3, 4, 5] rfl)
                  · rw [if_pos c182] at hE hp
                    exact B_655 u178 x1 x2 x3 x4 x5 _ _ _ hE hp hP hD hS (lv_sub hl [0, 1, 2, 3, 4, 5] rfl)
              · rw [if_pos c176] at hE hp
                exact B_632 u173 x1 x2 x3 x4 x5 _ _ _ hE hp hP hD hS (lv_sub hl [0, 1, 2, 3, 4, 5] rfl)
          · rw [if_pos c167] at hE hp
            refine lv_bipush (v := 8) hx hb dX11_reason_608 (by decide) ?_
            subst hQ
            exact W.iret (v := 8) hx hb hr (fun t ht hW => ⟨⟨8, u163, rfl, hE.trans hX.symm, by rw [ht]; exact hP, hD⟩, hS.F ht⟩) hS.2.2 dX11_reason_610
        · rw [if_pos c165] at hE hp
          refine lv_bipush (v := 9) hx hb dX11_reason_596 (by decide) ?_
          subst hQ
          exact W.iret (v := 9) hx hb hr (fun t ht hW => ⟨⟨9, u163, rfl, hE.trans hX.symm, by rw [ht]; exact hP, hD⟩, hS.F ht⟩) hS.2.2 dX11_reason_598
      · rw [if_pos c161] at hE hp
        refine lv_bipush (v := 7) hx hb dX11_reason_585 (by decide) ?_
        subst hQ
        exact W.iret (v := 7) hx hb hr (fun t ht hW => ⟨⟨7, S, rfl, hE.trans hX.symm, by rw [ht]; exact hP, hD⟩, hS.F ht⟩) hS.2.2 dX11_reason_587
    rw [if_neg s16] at hE hp
    have s16 := wNe (b := 16) rfl (by decide) s16
    by_cases s17 : x1 = 17
    · rw [if_pos s17] at hE hp
      refine lv_tableIn (off := 660) (tgt := 661) hx hb dX11_reason_1 (by rw [s17]; decide) (by rw [s17]; decide) (by rw [s17]; decide) (by decide) ?_
      refine lv_aload_n hx hb dX11_reason_661 rfl (lv_at hl 0 rfl) ?_
      refine va_get (D := G) (ci := 8) (v := .int (S.1 6)) (C := RX11) (T := TX11) (N := 42) hx hb hts iX11 hown hK hP 0 rfl rfl 6 (by decide) (hw (.fieldLink RX11 115 "MotionFloorModel$Hall" "pending" "I") (List.mem_of_getElem? (i := 7) rfl)) (fun _ h9 => h9) rfl dX11_reason_662 ?_
      refine lv_if_ne (tgt := 671) hx hb dX11_reason_665 (by decide) (fun c224 => ?_) (fun c224 => ?_)
      · rw [if_neg c224] at hE hp
        refine lv_aload_n hx hb dX11_reason_671 rfl (lv_at hl 0 rfl) ?_
        refine lv_iload_n hx hb dX11_reason_672 rfl (lv_at hl 2 rfl) ?_
        obtain ⟨hy225, hp⟩ := hp
        refine hGoi (va_runV (As := [.int x2]) (rest := []) ⟨hx, hb, hml, hown, hts⟩ (c_X11_isSeat l G K h g S x2 _) (cwV 1 hts (wGV t_ (mw (.methodLink RX11 140 yX11_isSeat) (List.mem_of_getElem? (i := 0) rfl)) (mw (.instanceMethod yX11_isSeat) (List.mem_of_getElem? (i := 1) rfl)) (mw (.selects RX11 yX11_isSeat yX11_isSeat) (List.mem_of_getElem? (i := 2) rfl)) (mw (.initialized RX11) (List.mem_of_getElem? (i := 3) rfl)) j_X11_isSeat) rfl rfl rfl (by decide +kernel) ⟨Nat.le_of_ble_eq_true rfl, Nat.le_of_ble_eq_true rfl⟩) (hPV hK hTE hP hD hy225) rfl rfl hl.1 rfl (lv_room (Nat.le_of_ble_eq_true rfl)) dX11_reason_673 ⟨Nat.le_of_ble_eq_true rfl, Nat.le_of_ble_eq_true rfl⟩) hP hD hS hA (fun r227 u226 H locs hv hP hD hS => ?_)
        rw [← hv] at hE hp
        dsimp only at hE hp
        unfold b_X11_reason_a676 at hE
        unfold q_X11_reason_a676 at hp
        refine lv_if_eq (tgt := 688) hx hb dX11_reason_676 (by decide) (fun c228 => ?_) (fun c228 => ?_)
        · rw [if_pos c228] at hE hp
          exact B_688 u226 x1 x2 x3 x4 x5 _ _ _ hE hp hP hD hS (lv_sub hl [0, 1, 2, 3, 4, 5] rfl)
        · rw [if_neg c228] at hE hp
          refine lv_iload_n hx hb dX11_reason_679 rfl (lv_at hl 3 rfl) ?_
          refine lv_iconst (v := 0) hx hb dX11_reason_680 (by decide) ?_
          refine lv_iconst (v := 2) hx hb dX11_reason_681 (by decide) ?_
          obtain ⟨hy229, hp⟩ := hp
          refine nGoi (va_runSN (As := [.int x3, .int 0, .int 2]) (rest := []) ⟨hx, hb, hml, hown, hts⟩ (c_X12_in l G K x3 0 2 _) ⟨va_cnB (host := "MotionFloorModel") 3 hts (wGP t_ j_X12_in) rfl rfl rfl hTE.2.2.2.2.2.2.2.2.2.1 (hw (.initialized RX12) (List.mem_of_getElem? (i := 5) rfl)) (by decide +kernel) ⟨Nat.le_of_ble_eq_true rfl, Nat.le_of_ble_eq_true rfl⟩, (hw (.static yX12_in) (List.mem_of_getElem? (i := 6) rfl)), trivial⟩ (nPS hK hTE hy229) rfl rfl hl.1 rfl (lv_room (Nat.le_of_ble_eq_true rfl)) dX11_reason_682 ⟨Nat.le_of_ble_eq_true rfl, Nat.le_of_ble_eq_true rfl⟩) hP hS hA (fun r H locs hv hP hS => ?_)
          subst hv
          refine lv_if_ne (tgt := 691) hx hb dX11_reason_685 (by decide) (fun c230 => ?_) (fun c230 => ?_)
          · rw [if_neg c230] at hE hp
            refine lv_aload_n hx hb dX11_reason_691 rfl (lv_at hl 0 rfl) ?_
            refine va_get (D := G) (ci := 8) (v := .ref (g 11)) (C := RX11) (T := TX11) (N := 42) hx hb hts iX11 hown hK hP 0 rfl rfl 11 (by decide) (hw (.fieldLink RX11 9 "MotionFloorModel$Hall" "isThere" "[Z") (List.mem_of_getElem? (i := 4) rfl)) (fun _ h9 => h9) rfl dX11_reason_692 ?_
            refine lv_iload_n hx hb dX11_reason_695 rfl (lv_at hl 2 rfl) ?_
            obtain ⟨hy231, hp⟩ := hp
            refine va_zald hx hb hK hP 1 1 rfl rfl hy231 dX11_reason_696 ?_
            refine lv_if_ne (tgt := 703) hx hb dX11_reason_697 (by decide) (fun c232 => ?_) (fun c232 => ?_)
            · rw [if_neg c232] at hE hp
              refine lv_aload_n hx hb dX11_reason_703 rfl (lv_at hl 0 rfl) ?_
              obtain ⟨hy233, hp⟩ := hp
              refine hGoi (va_runV (As := []) (rest := []) ⟨hx, hb, hml, hown, hts⟩ (c_X11_hasSeconder l G K h g u226 _) (cwV 0 hts (wGV t_ (mw (.methodLink RX11 159 yX11_hasSeconder) (List.mem_of_getElem? (i := 17) rfl)) (mw (.instanceMethod yX11_hasSeconder) (List.mem_of_getElem? (i := 18) rfl)) (mw (.selects RX11 yX11_hasSeconder yX11_hasSeconder) (List.mem_of_getElem? (i := 19) rfl)) (mw (.initialized RX11) (List.mem_of_getElem? (i := 3) rfl)) j_X11_hasSeconder) rfl rfl rfl (by decide +kernel) ⟨Nat.le_of_ble_eq_true rfl, Nat.le_of_ble_eq_true rfl⟩) (hPV hK hTE hP hD hy233) rfl rfl hl.1 rfl (lv_room (Nat.le_of_ble_eq_true rfl)) dX11_reason_704 ⟨Nat.le_of_ble_eq_true rfl, Nat.le_of_ble_eq_true rfl⟩) hP hD hS hA (fun r235 u234 H locs hv hP hD hS => ?_)
              rw [← hv] at hE hp
              dsimp only at hE hp
              unfold b_X11_reason_a707 at hE
              unfold q_X11_reason_a707 at hp
              refine lv_if_eq (tgt := 714) hx hb dX11_reason_707 (by decide) (fun c236 => ?_) (fun c236 => ?_)
              · rw [if_pos c236] at hE hp
                refine lv_iconst (v := 3) hx hb dX11_reason_714 (by decide) ?_
                exact B_715 u234 x1 x2 x3 x4 x5 3 _ _ _ hE hp hP hD hS (lv_sub hl [0, 1, 2, 3, 4, 5] rfl)
              · rw [if_neg c236] at hE hp
                refine lv_iconst (v := 0) hx hb dX11_reason_710 (by decide) ?_
                refine lv_goto (tgt := 715) hx hb dX11_reason_711 (by decide) ?_
                exact B_715 u234 x1 x2 x3 x4 x5 0 _ _ _ hE hp hP hD hS (lv_sub hl [0, 1, 2, 3, 4, 5] rfl)
            · rw [if_pos c232] at hE hp
              refine lv_bipush (v := 8) hx hb dX11_reason_700 (by decide) ?_
              subst hQ
              exact W.iret (v := 8) hx hb hr (fun t ht hW => ⟨⟨8, u226, rfl, hE.trans hX.symm, by rw [ht]; exact hP, hD⟩, hS.F ht⟩) hS.2.2 dX11_reason_702
          · rw [if_pos c230] at hE hp
            exact B_688 u226 x1 x2 x3 x4 x5 _ _ _ hE hp hP hD hS (lv_sub hl [0, 1, 2, 3, 4, 5] rfl)
      · rw [if_pos c224] at hE hp
        refine lv_bipush (v := 7) hx hb dX11_reason_668 (by decide) ?_
        subst hQ
        exact W.iret (v := 7) hx hb hr (fun t ht hW => ⟨⟨7, S, rfl, hE.trans hX.symm, by rw [ht]; exact hP, hD⟩, hS.F ht⟩) hS.2.2 dX11_reason_670
    rw [if_neg s17] at hE hp
    have s17 := wNe (b := 17) rfl (by decide) s17
    by_cases s18 : x1 = 18
    · rw [if_pos s18] at hE hp
      refine lv_tableIn (off := 715) (tgt := 716) hx hb dX11_reason_1 (by rw [s18]; decide) (by rw [s18]; decide) (by rw [s18]; decide) (by decide) ?_
      refine lv_aload_n hx hb dX11_reason_716 rfl (lv_at hl 0 rfl) ?_
      refine va_get (D := G) (ci := 8) (v := .int (S.1 6)) (C := RX11) (T := TX11) (N := 42) hx hb hts iX11 hown hK hP 0 rfl rfl 6 (by decide) (hw (.fieldLink RX11 115 "MotionFloorModel$Hall" "pending" "I") (List.mem_of_getElem? (i := 7) rfl)) (fun _ h9 => h9) rfl dX11_reason_717 ?_
      refine lv_if_ne (tgt := 726) hx hb dX11_reason_720 (by decide) (fun c247 => ?_) (fun c247 => ?_)
      · rw [if_neg c247] at hE hp
        refine lv_aload_n hx hb dX11_reason_726 rfl (lv_at hl 0 rfl) ?_
        refine va_get (D := G) (ci := 8) (v := .ref (g 14)) (C := RX11) (T := TX11) (N := 42) hx hb hts iX11 hown hK hP 0 rfl rfl 14 (by decide) (hw (.fieldLink RX11 22 "MotionFloorModel$Hall" "kind" "[I") (List.mem_of_getElem? (i := 10) rfl)) (fun _ h9 => h9) rfl dX11_reason_727 ?_
        refine lv_aload_n hx hb dX11_reason_730 rfl (lv_at hl 0 rfl) ?_
        obtain ⟨hy248, hp⟩ := hp
        refine hGoi (va_runV (As := []) (rest := [.ref (g 14)]) ⟨hx, hb, hml, hown, hts⟩ (c_X11_top l G K h g S _) (cwV 0 hts (wGV t_ (mw (.methodLink RX11 155 yX11_top) (List.mem_of_getElem? (i := 11) rfl)) (mw (.instanceMethod yX11_top) (List.mem_of_getElem? (i := 12) rfl)) (mw (.selects RX11 yX11_top yX11_top) (List.mem_of_getElem? (i := 13) rfl)) (mw (.initialized RX11) (List.mem_of_getElem? (i := 3) rfl)) j_X11_top) rfl rfl rfl (by decide +kernel) ⟨Nat.le_of_ble_eq_true rfl, Nat.le_of_ble_eq_true rfl⟩) (hPV hK hTE hP hD hy248) rfl rfl hl.1 rfl (lv_room (Nat.le_of_ble_eq_true rfl)) dX11_reason_731 ⟨Nat.le_of_ble_eq_true rfl, Nat.le_of_ble_eq_true rfl⟩) hP hD hS hA (fun r250 u249 H locs hv hP hD hS => ?_)
        rw [← hv] at hE hp
        dsimp only at hE hp
        unfold b_X11_reason_a734 at hE
        unfold q_X11_reason_a734 at hp
        obtain ⟨hy251, hp⟩ := hp
        refine va_iald hx hb hK hP 4 0 rfl rfl hy251 dX11_reason_734 ?_
        refine lv_bipush (v := 9) hx hb dX11_reason_735 (by decide) ?_
        refine lv_icmp_eq (tgt := 753) hx hb dX11_reason_737 (by decide) (fun c252 => ?_) (fun c252 => ?_)
        · rw [if_pos c252] at hE hp
          exact B_753 u249 x1 x2 x3 x4 x5 _ _ _ hE hp hP hD hS (lv_sub hl [0, 1, 2, 3, 4, 5] rfl)
        · rw [if_neg c252] at hE hp
          refine lv_iload_n hx hb dX11_reason_740 rfl (lv_at hl 2 rfl) ?_
          refine lv_aload_n hx hb dX11_reason_741 rfl (lv_at hl 0 rfl) ?_
          refine va_get (D := G) (ci := 8) (v := .ref (g 15)) (C := RX11) (T := TX11) (N := 42) hx hb hts iX11 hown hK hP 0 rfl rfl 15 (by decide) (hw (.fieldLink RX11 25 "MotionFloorModel$Hall" "mover" "[I") (List.mem_of_getElem? (i := 36) rfl)) (fun _ h9 => h9) rfl dX11_reason_742 ?_
          refine lv_aload_n hx hb dX11_reason_745 rfl (lv_at hl 0 rfl) ?_
          obtain ⟨hy253, hp⟩ := hp
          refine hGoi (va_runV (As := []) (rest := [.ref (g 15), .int x2]) ⟨hx, hb, hml, hown, hts⟩ (c_X11_top l G K h g u249 _) (cwV 0 hts (wGV t_ (mw (.methodLink RX11 155 yX11_top) (List.mem_of_getElem? (i := 11) rfl)) (mw (.instanceMethod yX11_top) (List.mem_of_getElem? (i := 12) rfl)) (mw (.selects RX11 yX11_top yX11_top) (List.mem_of_getElem? (i := 13) rfl)) (mw (.initialized RX11) (List.mem_of_getElem? (i := 3) rfl)) j_X11_top) rfl rfl rfl (by decide +kernel) ⟨Nat.le_of_ble_eq_true rfl, Nat.le_of_ble_eq_true rfl⟩) (hPV hK hTE hP hD hy253) rfl rfl hl.1 rfl (lv_room (Nat.le_of_ble_eq_true rfl)) dX11_reason_746 ⟨Nat.le_of_ble_eq_true rfl, Nat.le_of_ble_eq_true rfl⟩) hP hD hS hA (fun r255 u254 H locs hv hP hD hS => ?_)
          rw [← hv] at hE hp
          dsimp only at hE hp
          unfold b_X11_reason_a749 at hE
          unfold q_X11_reason_a749 at hp
          obtain ⟨hy256, hp⟩ := hp
          refine va_iald hx hb hK hP 5 0 rfl rfl hy256 dX11_reason_749 ?_
          refine lv_icmp_eq (tgt := 755) hx hb dX11_reason_750 (by decide) (fun c257 => ?_) (fun c257 => ?_)
          · rw [if_pos c257] at hE hp
            refine lv_aload_n hx hb dX11_reason_755 rfl (lv_at hl 0 rfl) ?_
            refine lv_iload_n hx hb dX11_reason_756 rfl (lv_at hl 2 rfl) ?_
            obtain ⟨hy258, hp⟩ := hp
            refine hGoi (va_runV (As := [.int x2]) (rest := []) ⟨hx, hb, hml, hown, hts⟩ (c_X11_isHere l G K h g u254 x2 _) (cwV 1 hts (wGV t_ (mw (.methodLink RX11 178 yX11_isHere) (List.mem_of_getElem? (i := 37) rfl)) (mw (.instanceMethod yX11_isHere) (List.mem_of_getElem? (i := 38) rfl)) (mw (.selects RX11 yX11_isHere yX11_isHere) (List.mem_of_getElem? (i := 39) rfl)) (mw (.initialized RX11) (List.mem_of_getElem? (i := 3) rfl)) j_X11_isHere) rfl rfl rfl (by decide +kernel) ⟨Nat.le_of_ble_eq_true rfl, Nat.le_of_ble_eq_true rfl⟩) (hPV hK hTE hP hD hy258) rfl rfl hl.1 rfl (lv_room (Nat.le_of_ble_eq_true rfl)) dX11_reason_757 ⟨Nat.le_of_ble_eq_true rfl, Nat.le_of_ble_eq_true rfl⟩) hP hD hS hA (fun r260 u259 H locs hv hP hD hS => ?_)
            rw [← hv] at hE hp
            dsimp only at hE hp
            unfold b_X11_reason_a760 at hE
            unfold q_X11_reason_a760 at hp
            refine lv_if_eq (tgt := 767) hx hb dX11_reason_760 (by decide) (fun c261 => ?_) (fun c261 => ?_)
            · rw [if_pos c261] at hE hp
              refine lv_bipush (v := 8) hx hb dX11_reason_767 (by decide) ?_
              exact B_769 u259 x1 x2 x3 x4 x5 8 _ _ _ hE hp hP hD hS (lv_sub hl [0, 1, 2, 3, 4, 5] rfl)
            · rw [if_neg c261] at hE hp
              refine lv_iconst (v := 0) hx hb dX11_reason_763 (by decide) ?_
              refine lv_goto (tgt := 769) hx hb dX11_reason_764 (by decide) ?_
              exact B_769 u259 x1 x2 x3 x4 x5 0 _ _ _ hE hp hP hD hS (lv_sub hl [0, 1, 2, 3, 4, 5] rfl)
          · rw [if_neg c257] at hE hp
            exact B_753 u254 x1 x2 x3 x4 x5 _ _ _ hE hp hP hD hS (lv_sub hl [0, 1, 2, 3, 4, 5] rfl)
      · rw [if_pos c247] at hE hp
        refine lv_bipush (v := 7) hx hb dX11_reason_723 (by decide) ?_
        subst hQ
        exact W.iret (v := 7) hx hb hr (fun t ht hW => ⟨⟨7, S, rfl, hE.trans hX.symm, by rw [ht]; exact hP, hD⟩, hS.F ht⟩) hS.2.2 dX11_reason_725
    rw [if_neg s18] at hE hp
    have s18 := wNe (b := 18) rfl (by decide) s18
    by_cases s19 : x1 = 19
    · rw [if_pos s19] at hE hp
      refine lv_tableIn (off := 769) (tgt := 770) hx hb dX11_reason_1 (by rw [s19]; decide) (by rw [s19]; decide) (by rw [s19]; decide) (by decide) ?_
      refine lv_aload_n hx hb dX11_reason_770 rfl (lv_at hl 0 rfl) ?_
      refine lv_aload_n hx hb dX11_reason_771 rfl (lv_at hl 0 rfl) ?_
      refine va_get (D := G) (ci := 8) (v := .int (S.1 2)) (C := RX11) (T := TX11) (N := 42) hx hb hts iX11 hown hK hP 0 rfl rfl 2 (by decide) (hw (.fieldLink RX11 103 "MotionFloorModel$Hall" "chair" "I") (List.mem_of_getElem? (i := 8) rfl)) (fun _ h9 => h9) rfl dX11_reason_772 ?_
      obtain ⟨hy280, hp⟩ := hp
      refine hGoi (va_runV (As := [.int (S.1 2)]) (rest := []) ⟨hx, hb, hml, hown, hts⟩ (c_X11_isHere l G K h g S (S.1 2) _) (cwV 1 hts (wGV t_ (mw (.methodLink RX11 178 yX11_isHere) (List.mem_of_getElem? (i := 37) rfl)) (mw (.instanceMethod yX11_isHere) (List.mem_of_getElem? (i := 38) rfl)) (mw (.selects RX11 yX11_isHere yX11_isHere) (List.mem_of_getElem? (i := 39) rfl)) (mw (.initialized RX11) (List.mem_of_getElem? (i := 3) rfl)) j_X11_isHere) rfl rfl rfl (by decide +kernel) ⟨Nat.le_of_ble_eq_true rfl, Nat.le_of_ble_eq_true rfl⟩) (hPV hK hTE hP hD hy280) rfl rfl hl.1 rfl (lv_room (Nat.le_of_ble_eq_true rfl)) dX11_reason_775 ⟨Nat.le_of_ble_eq_true rfl, Nat.le_of_ble_eq_true rfl⟩) hP hD hS hA (fun r282 u281 H locs hv hP hD hS => ?_)
      rw [← hv] at hE hp
      dsimp only at hE hp
      unfold b_X11_reason_a778 at hE
      unfold q_X11_reason_a778 at hp
      refine lv_if_ne (tgt := 784) hx hb dX11_reason_778 (by decide) (fun c283 => ?_) (fun c283 => ?_)
      · rw [if_neg c283] at hE hp
        refine lv_aload_n hx hb dX11_reason_784 rfl (lv_at hl 0 rfl) ?_
        refine va_get (D := G) (ci := 8) (v := .int (u281.1 6)) (C := RX11) (T := TX11) (N := 42) hx hb hts iX11 hown hK hP 0 rfl rfl 6 (by decide) (hw (.fieldLink RX11 115 "MotionFloorModel$Hall" "pending" "I") (List.mem_of_getElem? (i := 7) rfl)) (fun _ h9 => h9) rfl dX11_reason_785 ?_
        refine lv_if_ne (tgt := 794) hx hb dX11_reason_788 (by decide) (fun c284 => ?_) (fun c284 => ?_)
        · rw [if_neg c284] at hE hp
          refine lv_aload_n hx hb dX11_reason_794 rfl (lv_at hl 0 rfl) ?_
          refine va_get (D := G) (ci := 8) (v := .ref (g 14)) (C := RX11) (T := TX11) (N := 42) hx hb hts iX11 hown hK hP 0 rfl rfl 14 (by decide) (hw (.fieldLink RX11 22 "MotionFloorModel$Hall" "kind" "[I") (List.mem_of_getElem? (i := 10) rfl)) (fun _ h9 => h9) rfl dX11_reason_795 ?_
          refine lv_aload_n hx hb dX11_reason_798 rfl (lv_at hl 0 rfl) ?_
          obtain ⟨hy285, hp⟩ := hp
          refine hGoi (va_runV (As := []) (rest := [.ref (g 14)]) ⟨hx, hb, hml, hown, hts⟩ (c_X11_top l G K h g u281 _) (cwV 0 hts (wGV t_ (mw (.methodLink RX11 155 yX11_top) (List.mem_of_getElem? (i := 11) rfl)) (mw (.instanceMethod yX11_top) (List.mem_of_getElem? (i := 12) rfl)) (mw (.selects RX11 yX11_top yX11_top) (List.mem_of_getElem? (i := 13) rfl)) (mw (.initialized RX11) (List.mem_of_getElem? (i := 3) rfl)) j_X11_top) rfl rfl rfl (by decide +kernel) ⟨Nat.le_of_ble_eq_true rfl, Nat.le_of_ble_eq_true rfl⟩) (hPV hK hTE hP hD hy285) rfl rfl hl.1 rfl (lv_room (Nat.le_of_ble_eq_true rfl)) dX11_reason_799 ⟨Nat.le_of_ble_eq_true rfl, Nat.le_of_ble_eq_true rfl⟩) hP hD hS hA (fun r287 u286 H locs hv hP hD hS => ?_)
          rw [← hv] at hE hp
          dsimp only at hE hp
          unfold b_X11_reason_a802 at hE
          unfold q_X11_reason_a802 at hp
          obtain ⟨hy288, hp⟩ := hp
          refine va_iald hx hb hK hP 4 0 rfl rfl hy288 dX11_reason_802 ?_
          refine lv_bipush (v := 9) hx hb dX11_reason_803 (by decide) ?_
          refine lv_icmp_ne (tgt := 811) hx hb dX11_reason_805 (by decide) (fun c289 => ?_) (fun c289 => ?_)
          · rw [if_neg c289] at hE hp
            refine lv_aload_n hx hb dX11_reason_811 rfl (lv_at hl 0 rfl) ?_
            refine va_get (D := G) (ci := 8) (v := .int (u286.1 6)) (C := RX11) (T := TX11) (N := 42) hx hb hts iX11 hown hK hP 0 rfl rfl 6 (by decide) (hw (.fieldLink RX11 115 "MotionFloorModel$Hall" "pending" "I") (List.mem_of_getElem? (i := 7) rfl)) (fun _ h9 => h9) rfl dX11_reason_812 ?_
            refine lv_bipush (v := 9) hx hb dX11_reason_815 (by decide) ?_
            refine lv_icmp_ne (tgt := 825) hx hb dX11_reason_817 (by decide) (fun c290 => ?_) (fun c290 => ?_)
            · rw [if_neg c290] at hE hp
              refine lv_iconst (v := 0) hx hb dX11_reason_825 (by decide) ?_
              exact B_826 u286 x1 x2 x3 x4 x5 0 _ _ _ hE hp hP hD hS (lv_sub hl [0, 1, 2, 3, 4, 5] rfl)
            · rw [if_pos c290] at hE hp
              refine lv_bipush (v := 10) hx hb dX11_reason_820 (by decide) ?_
              refine lv_goto (tgt := 826) hx hb dX11_reason_822 (by decide) ?_
              exact B_826 u286 x1 x2 x3 x4 x5 10 _ _ _ hE hp hP hD hS (lv_sub hl [0, 1, 2, 3, 4, 5] rfl)
          · rw [if_pos c289] at hE hp
            refine lv_bipush (v := 11) hx hb dX11_reason_808 (by decide) ?_
            subst hQ
            exact W.iret (v := 11) hx hb hr (fun t ht hW => ⟨⟨11, u286, rfl, hE.trans hX.symm, by rw [ht]; exact hP, hD⟩, hS.F ht⟩) hS.2.2 dX11_reason_810
        · rw [if_pos c284] at hE hp
          refine lv_bipush (v := 7) hx hb dX11_reason_791 (by decide) ?_
          subst hQ
          exact W.iret (v := 7) hx hb hr (fun t ht hW => ⟨⟨7, u281, rfl, hE.trans hX.symm, by rw [ht]; exact hP, hD⟩, hS.F ht⟩) hS.2.2 dX11_reason_793
      · rw [if_pos c283] at hE hp
        refine lv_bipush (v := 8) hx hb dX11_reason_781 (by decide) ?_
        subst hQ
        exact W.iret (v := 8) hx hb hr (fun t ht hW => ⟨⟨8, u281, rfl, hE.trans hX.symm, by rw [ht]; exact hP, hD⟩, hS.F ht⟩) hS.2.2 dX11_reason_783
    rw [if_neg s19] at hE hp
    have s19 := wNe (b := 19) rfl (by decide) s19
    by_cases s20 : x1 = 20
    · rw [if_pos s20] at hE hp
      refine lv_tableIn (off := 826) (tgt := 827) hx hb dX11_reason_1 (by rw [s20]; decide) (by rw [s20]; decide) (by rw [s20]; decide) (by decide) ?_
      refine lv_aload_n hx hb dX11_reason_827 rfl (lv_at hl 0 rfl) ?_
      refine va_get (D := G) (ci := 8) (v := .int (S.1 6)) (C := RX11) (T := TX11) (N := 42) hx hb hts iX11 hown hK hP 0 rfl rfl 6 (by decide) (hw (.fieldLink RX11 115 "MotionFloorModel$Hall" "pending" "I") (List.mem_of_getElem? (i := 7) rfl)) (fun _ h9 => h9) rfl dX11_reason_828 ?_
      refine lv_if_ne (tgt := 837) hx hb dX11_reason_831 (by decide) (fun c302 => ?_) (fun c302 => ?_)
      · rw [if_neg c302] at hE hp
        refine lv_aload_n hx hb dX11_reason_837 rfl (lv_at hl 0 rfl) ?_
        refine va_get (D := G) (ci := 8) (v := .ref (g 14)) (C := RX11) (T := TX11) (N := 42) hx hb hts iX11 hown hK hP 0 rfl rfl 14 (by decide) (hw (.fieldLink RX11 22 "MotionFloorModel$Hall" "kind" "[I") (List.mem_of_getElem? (i := 10) rfl)) (fun _ h9 => h9) rfl dX11_reason_838 ?_
        refine lv_aload_n hx hb dX11_reason_841 rfl (lv_at hl 0 rfl) ?_
        obtain ⟨hy303, hp⟩ := hp
        refine hGoi (va_runV (As := []) (rest := [.ref (g 14)]) ⟨hx, hb, hml, hown, hts⟩ (c_X11_top l G K h g S _) (cwV 0 hts (wGV t_ (mw (.methodLink RX11 155 yX11_top) (List.mem_of_getElem? (i := 11) rfl)) (mw (.instanceMethod yX11_top) (List.mem_of_getElem? (i := 12) rfl)) (mw (.selects RX11 yX11_top yX11_top) (List.mem_of_getElem? (i := 13) rfl)) (mw (.initialized RX11) (List.mem_of_getElem? (i := 3) rfl)) j_X11_top) rfl rfl rfl (by decide +kernel) ⟨Nat.le_of_ble_eq_true rfl, Nat.le_of_ble_eq_true rfl⟩) (hPV hK hTE hP hD hy303) rfl rfl hl.1 rfl (lv_room (Nat.le_of_ble_eq_true rfl)) dX11_reason_842 ⟨Nat.le_of_ble_eq_true rfl, Nat.le_of_ble_eq_true rfl⟩) hP hD hS hA (fun r305 u304 H locs hv hP hD hS => ?_)
        rw [← hv] at hE hp
        dsimp only at hE hp
        unfold b_X11_reason_a845 at hE
        unfold q_X11_reason_a845 at hp
        obtain ⟨hy306, hp⟩ := hp
        refine va_iald hx hb hK hP 4 0 rfl rfl hy306 dX11_reason_845 ?_
        refine lv_bipush (v := 9) hx hb dX11_reason_846 (by decide) ?_
        refine lv_icmp_ne (tgt := 858) hx hb dX11_reason_848 (by decide) (fun c307 => ?_) (fun c307 => ?_)
        · rw [if_neg c307] at hE hp
          exact B_858 u304 x1 x2 x3 x4 x5 _ _ _ hE hp hP hD hS (lv_sub hl [0, 1, 2, 3, 4, 5] rfl)
        · rw [if_pos c307] at hE hp
          refine lv_aload_n hx hb dX11_reason_851 rfl (lv_at hl 0 rfl) ?_
          obtain ⟨hy308, hp⟩ := hp
          refine hGoi (va_runV (As := []) (rest := []) ⟨hx, hb, hml, hown, hts⟩ (c_X11_hasSeconder l G K h g u304 _) (cwV 0 hts (wGV t_ (mw (.methodLink RX11 159 yX11_hasSeconder) (List.mem_of_getElem? (i := 17) rfl)) (mw (.instanceMethod yX11_hasSeconder) (List.mem_of_getElem? (i := 18) rfl)) (mw (.selects RX11 yX11_hasSeconder yX11_hasSeconder) (List.mem_of_getElem? (i := 19) rfl)) (mw (.initialized RX11) (List.mem_of_getElem? (i := 3) rfl)) j_X11_hasSeconder) rfl rfl rfl (by decide +kernel) ⟨Nat.le_of_ble_eq_true rfl, Nat.le_of_ble_eq_true rfl⟩) (hPV hK hTE hP hD hy308) rfl rfl hl.1 rfl (lv_room (Nat.le_of_ble_eq_true rfl)) dX11_reason_852 ⟨Nat.le_of_ble_eq_true rfl, Nat.le_of_ble_eq_true rfl⟩) hP hD hS hA (fun r310 u309 H locs hv hP hD hS => ?_)
          rw [← hv] at hE hp
          dsimp only at hE hp
          unfold b_X11_reason_a855 at hE
          unfold q_X11_reason_a855 at hp
          refine lv_if_eq (tgt := 861) hx hb dX11_reason_855 (by decide) (fun c311 => ?_) (fun c311 => ?_)
          · rw [if_pos c311] at hE hp
            refine lv_aload_n hx hb dX11_reason_861 rfl (lv_at hl 0 rfl) ?_
            refine lv_iload_n hx hb dX11_reason_862 rfl (lv_at hl 2 rfl) ?_
            obtain ⟨hy312, hp⟩ := hp
            refine hGoi (va_runV (As := [.int x2]) (rest := []) ⟨hx, hb, hml, hown, hts⟩ (c_X11_isSeat l G K h g u309 x2 _) (cwV 1 hts (wGV t_ (mw (.methodLink RX11 140 yX11_isSeat) (List.mem_of_getElem? (i := 0) rfl)) (mw (.instanceMethod yX11_isSeat) (List.mem_of_getElem? (i := 1) rfl)) (mw (.selects RX11 yX11_isSeat yX11_isSeat) (List.mem_of_getElem? (i := 2) rfl)) (mw (.initialized RX11) (List.mem_of_getElem? (i := 3) rfl)) j_X11_isSeat) rfl rfl rfl (by decide +kernel) ⟨Nat.le_of_ble_eq_true rfl, Nat.le_of_ble_eq_true rfl⟩) (hPV hK hTE hP hD hy312) rfl rfl hl.1 rfl (lv_room (Nat.le_of_ble_eq_true rfl)) dX11_reason_863 ⟨Nat.le_of_ble_eq_true rfl, Nat.le_of_ble_eq_true rfl⟩) hP hD hS hA (fun r314 u313 H locs hv hP hD hS => ?_)
            rw [← hv] at hE hp
            dsimp only at hE hp
            unfold b_X11_reason_a866 at hE
            unfold q_X11_reason_a866 at hp
            refine lv_if_ne (tgt := 872) hx hb dX11_reason_866 (by decide) (fun c315 => ?_) (fun c315 => ?_)
            · rw [if_neg c315] at hE hp
              refine lv_aload_n hx hb dX11_reason_872 rfl (lv_at hl 0 rfl) ?_
              refine va_get (D := G) (ci := 8) (v := .ref (g 11)) (C := RX11) (T := TX11) (N := 42) hx hb hts iX11 hown hK hP 0 rfl rfl 11 (by decide) (hw (.fieldLink RX11 9 "MotionFloorModel$Hall" "isThere" "[Z") (List.mem_of_getElem? (i := 4) rfl)) (fun _ h9 => h9) rfl dX11_reason_873 ?_
              refine lv_iload_n hx hb dX11_reason_876 rfl (lv_at hl 2 rfl) ?_
              obtain ⟨hy316, hp⟩ := hp
              refine va_zald hx hb hK hP 1 1 rfl rfl hy316 dX11_reason_877 ?_
              refine lv_if_ne (tgt := 884) hx hb dX11_reason_878 (by decide) (fun c317 => ?_) (fun c317 => ?_)
              · rw [if_neg c317] at hE hp
                refine lv_iload_n hx hb dX11_reason_884 rfl (lv_at hl 2 rfl) ?_
                refine lv_aload_n hx hb dX11_reason_885 rfl (lv_at hl 0 rfl) ?_
                refine va_get (D := G) (ci := 8) (v := .int (u313.1 2)) (C := RX11) (T := TX11) (N := 42) hx hb hts iX11 hown hK hP 0 rfl rfl 2 (by decide) (hw (.fieldLink RX11 103 "MotionFloorModel$Hall" "chair" "I") (List.mem_of_getElem? (i := 8) rfl)) (fun _ h9 => h9) rfl dX11_reason_886 ?_
                refine lv_icmp_ne (tgt := 896) hx hb dX11_reason_889 (by decide) (fun c318 => ?_) (fun c318 => ?_)
                · rw [if_neg c318] at hE hp
                  refine lv_iconst (v := 0) hx hb dX11_reason_896 (by decide) ?_
                  exact B_897 u313 x1 x2 x3 x4 x5 0 _ _ _ hE hp hP hD hS (lv_sub hl [0, 1, 2, 3, 4, 5] rfl)
                · rw [if_pos c318] at hE hp
                  refine lv_iconst (v := 2) hx hb dX11_reason_892 (by decide) ?_
                  refine lv_goto (tgt := 897) hx hb dX11_reason_893 (by decide) ?_
                  exact B_897 u313 x1 x2 x3 x4 x5 2 _ _ _ hE hp hP hD hS (lv_sub hl [0, 1, 2, 3, 4, 5] rfl)
              · rw [if_pos c317] at hE hp
                refine lv_bipush (v := 8) hx hb dX11_reason_881 (by decide) ?_
                subst hQ
                exact W.iret (v := 8) hx hb hr (fun t ht hW => ⟨⟨8, u313, rfl, hE.trans hX.symm, by rw [ht]; exact hP, hD⟩, hS.F ht⟩) hS.2.2 dX11_reason_883
            · rw [if_pos c315] at hE hp
              refine lv_bipush (v := 9) hx hb dX11_reason_869 (by decide) ?_
              subst hQ
              exact W.iret (v := 9) hx hb hr (fun t ht hW => ⟨⟨9, u313, rfl, hE.trans hX.symm, by rw [ht]; exact hP, hD⟩, hS.F ht⟩) hS.2.2 dX11_reason_871
          · rw [if_neg c311] at hE hp
            exact B_858 u309 x1 x2 x3 x4 x5 _ _ _ hE hp hP hD hS (lv_sub hl [0, 1, 2, 3, 4, 5] rfl)
      · rw [if_pos c302] at hE hp
        refine lv_bipush (v := 7) hx hb dX11_reason_834 (by decide) ?_
        subst hQ
        exact W.iret (v := 7) hx hb hr (fun t ht hW => ⟨⟨7, S, rfl, hE.trans hX.symm, by rw [ht]; exact hP, hD⟩, hS.F ht⟩) hS.2.2 dX11_reason_836
    rw [if_neg s20] at hE hp
    have s20 := wNe (b := 20) rfl (by decide) s20
    by_cases s21 : x1 = 21
    · rw [if_pos s21] at hE hp
      refine lv_tableIn (off := 897) (tgt := 898) hx hb dX11_reason_1 (by rw [s21]; decide) (by rw [s21]; decide) (by rw [s21]; decide) (by decide) ?_
      refine lv_aload_n hx hb dX11_reason_898 rfl (lv_at hl 0 rfl) ?_
      refine lv_aload_n hx hb dX11_reason_899 rfl (lv_at hl 0 rfl) ?_
      refine va_get (D := G) (ci := 8) (v := .int (S.1 2)) (C := RX11) (T := TX11) (N := 42) hx hb hts iX11 hown hK hP 0 rfl rfl 2 (by decide) (hw (.fieldLink RX11 103 "MotionFloorModel$Hall" "chair" "I") (List.mem_of_getElem? (i := 8) rfl)) (fun _ h9 => h9) rfl dX11_reason_900 ?_
      obtain ⟨hy344, hp⟩ := hp
      refine hGoi (va_runV (As := [.int (S.1 2)]) (rest := []) ⟨hx, hb, hml, hown, hts⟩ (c_X11_isHere l G K h g S (S.1 2) _) (cwV 1 hts (wGV t_ (mw (.methodLink RX11 178 yX11_isHere) (List.mem_of_getElem? (i := 37) rfl)) (mw (.instanceMethod yX11_isHere) (List.mem_of_getElem? (i := 38) rfl)) (mw (.selects RX11 yX11_isHere yX11_isHere) (List.mem_of_getElem? (i := 39) rfl)) (mw (.initialized RX11) (List.mem_of_getElem? (i := 3) rfl)) j_X11_isHere) rfl rfl rfl (by decide +kernel) ⟨Nat.le_of_ble_eq_true rfl, Nat.le_of_ble_eq_true rfl⟩) (hPV hK hTE hP hD hy344) rfl rfl hl.1 rfl (lv_room (Nat.le_of_ble_eq_true rfl)) dX11_reason_903 ⟨Nat.le_of_ble_eq_true rfl, Nat.le_of_ble_eq_true rfl⟩) hP hD hS hA (fun r346 u345 H locs hv hP hD hS => ?_)
      rw [← hv] at hE hp
      dsimp only at hE hp
      unfold b_X11_reason_a906 at hE
      unfold q_X11_reason_a906 at hp
      refine lv_if_ne (tgt := 914) hx hb dX11_reason_906 (by decide) (fun c347 => ?_) (fun c347 => ?_)
      · rw [if_neg c347] at hE hp
        refine lv_aload_n hx hb dX11_reason_914 rfl (lv_at hl 0 rfl) ?_
        refine va_get (D := G) (ci := 8) (v := .int (u345.1 6)) (C := RX11) (T := TX11) (N := 42) hx hb hts iX11 hown hK hP 0 rfl rfl 6 (by decide) (hw (.fieldLink RX11 115 "MotionFloorModel$Hall" "pending" "I") (List.mem_of_getElem? (i := 7) rfl)) (fun _ h9 => h9) rfl dX11_reason_915 ?_
        refine lv_if_ne (tgt := 926) hx hb dX11_reason_918 (by decide) (fun c348 => ?_) (fun c348 => ?_)
        · rw [if_neg c348] at hE hp
          refine lv_iconst (v := 0) hx hb dX11_reason_926 (by decide) ?_
          exact B_927 u345 x1 x2 x3 x4 x5 0 _ _ _ hE hp hP hD hS (lv_sub hl [0, 1, 2, 3, 4, 5] rfl)
        · rw [if_pos c348] at hE hp
          refine lv_bipush (v := 7) hx hb dX11_reason_921 (by decide) ?_
          refine lv_goto (tgt := 927) hx hb dX11_reason_923 (by decide) ?_
          exact B_927 u345 x1 x2 x3 x4 x5 7 _ _ _ hE hp hP hD hS (lv_sub hl [0, 1, 2, 3, 4, 5] rfl)
      · rw [if_pos c347] at hE hp
        refine lv_bipush (v := 8) hx hb dX11_reason_909 (by decide) ?_
        refine lv_goto (tgt := 927) hx hb dX11_reason_911 (by decide) ?_
        exact B_927 u345 x1 x2 x3 x4 x5 8 _ _ _ hE hp hP hD hS (lv_sub hl [0, 1, 2, 3, 4, 5] rfl)
    rw [if_neg s21] at hE hp
    have s21 := wNe (b := 21) rfl (by decide) s21
    refine lv_tableOut (tgt := 928) hx hb dX11_reason_1 (by omega) (by decide) ?_
    refine lv_aload_n hx hb dX11_reason_928 rfl (lv_at hl 0 rfl) ?_
    refine lv_aload_n hx hb dX11_reason_929 rfl (lv_at hl 0 rfl) ?_
    refine va_get (D := G) (ci := 8) (v := .int (S.1 2)) (C := RX11) (T := TX11) (N := 42) hx hb hts iX11 hown hK hP 0 rfl rfl 2 (by decide) (hw (.fieldLink RX11 103 "MotionFloorModel$Hall" "chair" "I") (List.mem_of_getElem? (i := 8) rfl)) (fun _ h9 => h9) rfl dX11_reason_930 ?_
    obtain ⟨hy351, hp⟩ := hp
    refine hGoi (va_runV (As := [.int (S.1 2)]) (rest := []) ⟨hx, hb, hml, hown, hts⟩ (c_X11_isHere l G K h g S (S.1 2) _) (cwV 1 hts (wGV t_ (mw (.methodLink RX11 178 yX11_isHere) (List.mem_of_getElem? (i := 37) rfl)) (mw (.instanceMethod yX11_isHere) (List.mem_of_getElem? (i := 38) rfl)) (mw (.selects RX11 yX11_isHere yX11_isHere) (List.mem_of_getElem? (i := 39) rfl)) (mw (.initialized RX11) (List.mem_of_getElem? (i := 3) rfl)) j_X11_isHere) rfl rfl rfl (by decide +kernel) ⟨Nat.le_of_ble_eq_true rfl, Nat.le_of_ble_eq_true rfl⟩) (hPV hK hTE hP hD hy351) rfl rfl hl.1 rfl (lv_room (Nat.le_of_ble_eq_true rfl)) dX11_reason_933 ⟨Nat.le_of_ble_eq_true rfl, Nat.le_of_ble_eq_true rfl⟩) hP hD hS hA (fun r353 u352 H locs hv hP hD hS => ?_)
    rw [← hv] at hE hp
    dsimp only at hE hp
    unfold b_X11_reason_a936 at hE
    unfold q_X11_reason_a936 at hp
    refine lv_if_ne (tgt := 944) hx hb dX11_reason_936 (by decide) (fun c354 => ?_) (fun c354 => ?_)
    · rw [if_neg c354] at hE hp
      refine lv_iconst (v := 0) hx hb dX11_reason_944 (by decide) ?_
      exact B_945 u352 x1 x2 x3 x4 x5 0 _ _ _ hE hp hP hD hS (lv_sub hl [0, 1, 2, 3, 4, 5] rfl)
    · rw [if_pos c354] at hE hp
      refine lv_bipush (v := 8) hx hb dX11_reason_939 (by decide) ?_
      refine lv_goto (tgt := 945) hx hb dX11_reason_941 (by decide) ?_
      exact B_945 u352 x1 x2 x3 x4 x5 8 _ _ _ hE hp hP hD hS (lv_sub hl [0, 1, 2, 3, 4, 5] rfl)
  exact B_M S0 a1 a2 a3 a4 a5 _ _ _ hX hp hP hD hS hl
