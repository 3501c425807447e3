def b_X11_does_152 (S : HS) (x1 x2 x3 x4 x5 : Int32) : Int32 × HS := ((S.1 1), S)
def q_X11_does_152 (S : HS) (x1 x2 x3 x4 x5 : Int32) : Prop := True
def b_X11_does_182 (S : HS) (x1 x2 x3 x4 x5 : Int32) : Int32 × HS := (x2, S)
def q_X11_does_182 (S : HS) (x1 x2 x3 x4 x5 : Int32) : Prop := True
def b_X11_does_a244 (S : HS) (x1 x2 x3 x4 x5 y0 : Int32) : Int32 × HS := ((S.2 17 y0.toNatClampNeg), S)
def q_X11_does_a244 (S : HS) (x1 x2 x3 x4 x5 y0 : Int32) : Prop := (vp_in y0 90) ∧ True
def b_X11_does_a231 (S : HS) (x1 x2 x3 x4 x5 y0 : Int32) : Int32 × HS := (b_X11_does_a244 (f_X11_top (sA S 17 y0.toNatClampNeg ((S.2 17 y0.toNatClampNeg) + 1)) ).2 x1 x2 x3 x4 x5 (f_X11_top (sA S 17 y0.toNatClampNeg ((S.2 17 y0.toNatClampNeg) + 1)) ).1)
def q_X11_does_a231 (S : HS) (x1 x2 x3 x4 x5 y0 : Int32) : Prop := (vp_in y0 90) ∧ (vp_in y0 90) ∧ (p_X11_top (sA S 17 y0.toNatClampNeg ((S.2 17 y0.toNatClampNeg) + 1)) ) ∧ (q_X11_does_a244 (f_X11_top (sA S 17 y0.toNatClampNeg ((S.2 17 y0.toNatClampNeg) + 1)) ).2 x1 x2 x3 x4 x5 (f_X11_top (sA S 17 y0.toNatClampNeg ((S.2 17 y0.toNatClampNeg) + 1)) ).1)
def b_X11_does_a281 (S : HS) (x1 x2 x3 x4 x5 y0 : Int32) : Int32 × HS := ((S.2 18 y0.toNatClampNeg), S)
def q_X11_does_a281 (S : HS) (x1 x2 x3 x4 x5 y0 : Int32) : Prop := (vp_in y0 90) ∧ True
def b_X11_does_a268 (S : HS) (x1 x2 x3 x4 x5 y0 : Int32) : Int32 × HS := (b_X11_does_a281 (f_X11_top (sA S 18 y0.toNatClampNeg ((S.2 18 y0.toNatClampNeg) + 1)) ).2 x1 x2 x3 x4 x5 (f_X11_top (sA S 18 y0.toNatClampNeg ((S.2 18 y0.toNatClampNeg) + 1)) ).1)
def q_X11_does_a268 (S : HS) (x1 x2 x3 x4 x5 y0 : Int32) : Prop := (vp_in y0 90) ∧ (vp_in y0 90) ∧ (p_X11_top (sA S 18 y0.toNatClampNeg ((S.2 18 y0.toNatClampNeg) + 1)) ) ∧ (q_X11_does_a281 (f_X11_top (sA S 18 y0.toNatClampNeg ((S.2 18 y0.toNatClampNeg) + 1)) ).2 x1 x2 x3 x4 x5 (f_X11_top (sA S 18 y0.toNatClampNeg ((S.2 18 y0.toNatClampNeg) + 1)) ).1)
def b_X11_does_a297 (S : HS) (x1 x2 x3 x4 x5 y0 y1 : Int32) : Int32 × HS := (x2, (sI (sI (sA S 32 y1.toNatClampNeg y0) 35 1) 36 0))
def q_X11_does_a297 (S : HS) (x1 x2 x3 x4 x5 y0 y1 : Int32) : Prop := (vp_in y1 9) ∧ True
def b_X11_does_a287 (S : HS) (x1 x2 x3 x4 x5 : Int32) : Int32 × HS := (b_X11_does_a297 (f_X11_newSlot S x2).2 x1 x2 x3 x4 x5 (f_X11_newSlot S x2).1 0)
def q_X11_does_a287 (S : HS) (x1 x2 x3 x4 x5 : Int32) : Prop := (p_X11_newSlot S x2) ∧ (q_X11_does_a297 (f_X11_newSlot S x2).2 x1 x2 x3 x4 x5 (f_X11_newSlot S x2).1 0)
def b_X11_does_a360 (S : HS) (x1 x2 x3 x4 x5 : Int32) : Int32 × HS := ((S.2 19 (S.2 32 (0 : Int32).toNatClampNeg).toNatClampNeg), S)
def q_X11_does_a360 (S : HS) (x1 x2 x3 x4 x5 : Int32) : Prop := (vp_in 0 9) ∧ (vp_in (S.2 32 (0 : Int32).toNatClampNeg) 90) ∧ True
def b_X11_does_a354 (S : HS) (x1 x2 x3 x4 x5 : Int32) : Int32 × HS := (b_X11_does_a360 (f_X11_addWord S x5).2 x1 x2 x3 x4 x5)
def q_X11_does_a354 (S : HS) (x1 x2 x3 x4 x5 : Int32) : Prop := (p_X11_addWord S x5) ∧ (q_X11_does_a360 (f_X11_addWord S x5).2 x1 x2 x3 x4 x5)
def b_X11_does_a348 (S : HS) (x1 x2 x3 x4 x5 : Int32) : Int32 × HS := (b_X11_does_a354 (f_X11_addWord S x4).2 x1 x2 x3 x4 x5)
def q_X11_does_a348 (S : HS) (x1 x2 x3 x4 x5 : Int32) : Prop := (p_X11_addWord S x4) ∧ (q_X11_does_a354 (f_X11_addWord S x4).2 x1 x2 x3 x4 x5)
def b_X11_does_a343 (S : HS) (x1 x2 x3 x4 x5 : Int32) : Int32 × HS := (b_X11_does_a348 (f_X11_addWord S x3).2 x1 x2 x3 x4 x5)
def q_X11_does_a343 (S : HS) (x1 x2 x3 x4 x5 : Int32) : Prop := (p_X11_addWord S x3) ∧ (q_X11_does_a348 (f_X11_addWord S x3).2 x1 x2 x3 x4 x5)
def b_X11_does_a377 (S : HS) (x1 x2 x3 x4 x5 y0 : Int32) : Int32 × HS := (y0, S)
def q_X11_does_a377 (S : HS) (x1 x2 x3 x4 x5 y0 : Int32) : Prop := True
def b_X11_does_a383 (S : HS) (x1 x2 x3 x4 x5 y0 : Int32) : Int32 × HS := (y0, S)
def q_X11_does_a383 (S : HS) (x1 x2 x3 x4 x5 y0 : Int32) : Prop := True
def b_X11_does_a389 (S : HS) (x1 x2 x3 x4 x5 y0 : Int32) : Int32 × HS := (y0, S)
def q_X11_does_a389 (S : HS) (x1 x2 x3 x4 x5 y0 : Int32) : Prop := True
def b_X11_does_a398 (S : HS) (x1 x2 x3 x4 x5 y0 : Int32) : Int32 × HS := (1, (sA S 16 y0.toNatClampNeg x2))
def q_X11_does_a398 (S : HS) (x1 x2 x3 x4 x5 y0 : Int32) : Prop := (vp_in y0 90) ∧ True
def b_X11_does_390 (S : HS) (x1 x2 x3 x4 x5 : Int32) : Int32 × HS := (b_X11_does_a398 (f_X11_top S ).2 x1 x2 x3 x4 x5 (f_X11_top S ).1)
def q_X11_does_390 (S : HS) (x1 x2 x3 x4 x5 : Int32) : Prop := (p_X11_top S ) ∧ (q_X11_does_a398 (f_X11_top S ).2 x1 x2 x3 x4 x5 (f_X11_top S ).1)
def b_X11_does_a427 (S : HS) (x1 x2 x3 x4 x5 y0 : Int32) : Int32 × HS := (y0, S)
def q_X11_does_a427 (S : HS) (x1 x2 x3 x4 x5 y0 : Int32) : Prop := True
def b_X11_does_a424 (S : HS) (x1 x2 x3 x4 x5 y0 : Int32) : Int32 × HS := (b_X11_does_a427 (f_X11_voters S y0).2 x1 x2 x3 x4 x5 (f_X11_voters S y0).1)
def q_X11_does_a424 (S : HS) (x1 x2 x3 x4 x5 y0 : Int32) : Prop := (p_X11_voters S y0) ∧ (q_X11_does_a427 (f_X11_voters S y0).2 x1 x2 x3 x4 x5 (f_X11_voters S y0).1)
def b_X11_does_a413 (S : HS) (x1 x2 x3 x4 x5 y0 y1 : Int32) : Int32 × HS := (b_X11_does_a424 (f_X11_top (sA S 29 ((y1 * y0) + x2).toNatClampNeg (vp_nar .byte (x3.toInt8.toInt32))) ).2 x1 x2 x3 x4 x5 (f_X11_top (sA S 29 ((y1 * y0) + x2).toNatClampNeg (vp_nar .byte (x3.toInt8.toInt32))) ).1)
def q_X11_does_a413 (S : HS) (x1 x2 x3 x4 x5 y0 y1 : Int32) : Prop := (vp_in ((y1 * y0) + x2) 18000) ∧ (p_X11_top (sA S 29 ((y1 * y0) + x2).toNatClampNeg (vp_nar .byte (x3.toInt8.toInt32))) ) ∧ (q_X11_does_a424 (f_X11_top (sA S 29 ((y1 * y0) + x2).toNatClampNeg (vp_nar .byte (x3.toInt8.toInt32))) ).2 x1 x2 x3 x4 x5 (f_X11_top (sA S 29 ((y1 * y0) + x2).toNatClampNeg (vp_nar .byte (x3.toInt8.toInt32))) ).1)
def b_X11_does_a432 (S : HS) (x1 x2 x3 x4 x5 : Int32) : Int32 × HS := ((S.1 6), S)
def q_X11_does_a432 (S : HS) (x1 x2 x3 x4 x5 : Int32) : Prop := True
def b_X11_does_a443 (S : HS) (x1 x2 x3 x4 x5 y0 : Int32) : Int32 × HS := (9, (sI (sA (sA S 15 y0.toNatClampNeg (S.1 2)) 31 ((sA S 15 y0.toNatClampNeg (S.1 2)).1 6).toNatClampNeg y0) 6 (((sA (sA S 15 y0.toNatClampNeg (S.1 2)) 31 ((sA S 15 y0.toNatClampNeg (S.1 2)).1 6).toNatClampNeg y0).1 6) + 1)))
def q_X11_does_a443 (S : HS) (x1 x2 x3 x4 x5 y0 : Int32) : Prop := (vp_in y0 90) ∧ (vp_in ((sA S 15 y0.toNatClampNeg (S.1 2)).1 6) 9) ∧ True
def b_X11_does_a484 (S : HS) (x1 x2 x3 x4 x5 y0 : Int32) : Int32 × HS := (y0, S)
def q_X11_does_a484 (S : HS) (x1 x2 x3 x4 x5 y0 : Int32) : Prop := True
def b_X11_does_a509 (S : HS) (x1 x2 x3 x4 x5 x6 : Int32) : Int32 × HS := (x6, (sI S 5 (-1)))
def q_X11_does_a509 (S : HS) (x1 x2 x3 x4 x5 x6 : Int32) : Prop := True
def b_X11_does_a502 (S : HS) (x1 x2 x3 x4 x5 x6 : Int32) : (Int32 × HS) ⊕ (HS × Int32 × Int32 × Int32 × Int32 × Int32 × Int32) := Sum.inr (S, x1, x2, x3, x4, x5, x6)
def q_X11_does_a502 (S : HS) (x1 x2 x3 x4 x5 x6 : Int32) : Prop := True
def st_X11_does_491 (S : HS) (x1 x2 x3 x4 x5 x6 : Int32) : (Int32 × HS) ⊕ (HS × Int32 × Int32 × Int32 × Int32 × Int32 × Int32) := if (S.1 6) ≤ 0 then Sum.inl ((b_X11_does_a509 (f_X11_dropDraft S ).2 x1 x2 x3 x4 x5 x6)) else (b_X11_does_a502 (f_X11_goes S ).2 x1 x2 x3 x4 x5 x6)
def ps_X11_does_491 (S : HS) (x1 x2 x3 x4 x5 x6 : Int32) : Prop := (if (S.1 6) ≤ 0 then (p_X11_dropDraft S ) ∧ (q_X11_does_a509 (f_X11_dropDraft S ).2 x1 x2 x3 x4 x5 x6) else (p_X11_goes S ) ∧ (q_X11_does_a502 (f_X11_goes S ).2 x1 x2 x3 x4 x5 x6))
def lp_X11_does_491 : Nat → HS → Int32 → Int32 → Int32 → Int32 → Int32 → Int32 → Int32 × HS
  | 0, S, _, _, _, _, _, _ => (0, S)
  | n + 1, S, x1, x2, x3, x4, x5, x6 => match st_X11_does_491 S x1 x2 x3 x4 x5 x6 with
    | Sum.inl r => r
    | Sum.inr q => lp_X11_does_491 n q.1 q.2.1 q.2.2.1 q.2.2.2.1 q.2.2.2.2.1 q.2.2.2.2.2.1 q.2.2.2.2.2.2
def lq_X11_does_491 : Nat → HS → Int32 → Int32 → Int32 → Int32 → Int32 → Int32 → Prop
  | 0, _, _, _, _, _, _, _ => False
  | n + 1, S, x1, x2, x3, x4, x5, x6 => ps_X11_does_491 S x1 x2 x3 x4 x5 x6 ∧ (match st_X11_does_491 S x1 x2 x3 x4 x5 x6 with
    | Sum.inl _ => True
    | Sum.inr q => lq_X11_does_491 n q.1 q.2.1 q.2.2.1 q.2.2.2.1 q.2.2.2.2.1 q.2.2.2.2.2.1 q.2.2.2.2.2.2)
def f_X11_does (S : HS) (x1 x2 x3 x4 x5 : Int32) : Int32 × HS := if x1 = 1 then (((sI (sA S 11 x2.toNatClampNeg (vp_nar .boolean 1)) 1 (((sA S 11 x2.toNatClampNeg (vp_nar .boolean 1)).1 1) + 1)).1 1), (sI (sA S 11 x2.toNatClampNeg (vp_nar .boolean 1)) 1 (((sA S 11 x2.toNatClampNeg (vp_nar .boolean 1)).1 1) + 1))) else if x1 = 2 then if ((sI (sA S 11 x2.toNatClampNeg (vp_nar .boolean 0)) 1 (((sA S 11 x2.toNatClampNeg (vp_nar .boolean 0)).1 1) - 1)).1 5) = x2 then (b_X11_does_152 (sI (sI (sA S 11 x2.toNatClampNeg (vp_nar .boolean 0)) 1 (((sA S 11 x2.toNatClampNeg (vp_nar .boolean 0)).1 1) - 1)) 5 (-1)) x1 x2 x3 x4 x5) else (b_X11_does_152 (sI (sA S 11 x2.toNatClampNeg (vp_nar .boolean 0)) 1 (((sA S 11 x2.toNatClampNeg (vp_nar .boolean 0)).1 1) - 1)) x1 x2 x3 x4 x5) else if x1 = 3 then (x2, (sI S 3 x2)) else if x1 = 4 then if ((sI S 2 x2).1 5) = x2 then (b_X11_does_182 (sI (sI S 2 x2) 5 (-1)) x1 x2 x3 x4 x5) else (b_X11_does_182 (sI S 2 x2) x1 x2 x3 x4 x5) else if x1 = 5 then ((S.2 12 x2.toNatClampNeg), (sA S 12 x2.toNatClampNeg x3)) else if x1 = 6 then (x2, (sI S 4 x2)) else if x1 = 7 then if ((sI S 5 x2).1 6) = 0 then (0, (sI S 5 x2)) else (b_X11_does_a231 (f_X11_top (sI S 5 x2) ).2 x1 x2 x3 x4 x5 (f_X11_top (sI S 5 x2) ).1) else if x1 = 8 then ((S.1 5), (sI S 5 (-1))) else if x1 = 9 then (b_X11_does_a268 (f_X11_top S ).2 x1 x2 x3 x4 x5 (f_X11_top S ).1) else if x1 = 10 then (b_X11_does_a287 (f_X11_dropDraft S ).2 x1 x2 x3 x4 x5) else if x1 = 11 then ((x3 - x2), (sA (sA S 20 (S.2 32 (0 : Int32).toNatClampNeg).toNatClampNeg x2) 21 ((sA S 20 (S.2 32 (0 : Int32).toNatClampNeg).toNatClampNeg x2).2 32 (0 : Int32).toNatClampNeg).toNatClampNeg x3)) else if x1 = 12 then (b_X11_does_a343 (f_X11_addWord S x2).2 x1 x2 x3 x4 x5) else if x1 = 13 then (b_X11_does_a377 (f_X11_lay S x2).2 x1 x2 x3 x4 x5 (f_X11_lay S x2).1) else if x1 = 14 then (b_X11_does_a383 (f_X11_take S x2).2 x1 x2 x3 x4 x5 (f_X11_take S x2).1) else if x1 = 15 then (b_X11_does_a389 (f_X11_move S x2).2 x1 x2 x3 x4 x5 (f_X11_move S x2).1) else if x1 = 16 then (b_X11_does_390 S x1 x2 x3 x4 x5) else if x1 = 17 then (b_X11_does_a413 (f_X11_top S ).2 x1 x2 x3 x4 x5 (f_X11_top S ).1 200) else if x1 = 18 then (b_X11_does_a432 (f_X11_goes S ).2 x1 x2 x3 x4 x5) else if x1 = 19 then (b_X11_does_a443 (f_X11_newSlot S 9).2 x1 x2 x3 x4 x5 (f_X11_newSlot S 9).1) else if x1 = 20 then (b_X11_does_390 S x1 x2 x3 x4 x5) else if x1 = 21 then (b_X11_does_a484 (f_X11_told S ).2 x1 x2 x3 x4 x5 (f_X11_told S ).1) else (lp_X11_does_491 100000 S x1 x2 x3 x4 x5 (S.1 6))
def p_X11_does (S : HS) (x1 x2 x3 x4 x5 : Int32) : Prop := (if x1 = 1 then (vp_in x2 200) ∧ True else (if x1 = 2 then (vp_in x2 200) ∧ (if ((sI (sA S 11 x2.toNatClampNeg (vp_nar .boolean 0)) 1 (((sA S 11 x2.toNatClampNeg (vp_nar .boolean 0)).1 1) - 1)).1 5) = x2 then (q_X11_does_152 (sI (sI (sA S 11 x2.toNatClampNeg (vp_nar .boolean 0)) 1 (((sA S 11 x2.toNatClampNeg (vp_nar .boolean 0)).1 1) - 1)) 5 (-1)) x1 x2 x3 x4 x5) else (q_X11_does_152 (sI (sA S 11 x2.toNatClampNeg (vp_nar .boolean 0)) 1 (((sA S 11 x2.toNatClampNeg (vp_nar .boolean 0)).1 1) - 1)) x1 x2 x3 x4 x5)) else (if x1 = 3 then True else (if x1 = 4 then (if ((sI S 2 x2).1 5) = x2 then (q_X11_does_182 (sI (sI S 2 x2) 5 (-1)) x1 x2 x3 x4 x5) else (q_X11_does_182 (sI S 2 x2) x1 x2 x3 x4 x5)) else (if x1 = 5 then (vp_in x2 9) ∧ (vp_in x2 9) ∧ True else (if x1 = 6 then True else (if x1 = 7 then (if ((sI S 5 x2).1 6) = 0 then True else (p_X11_top (sI S 5 x2) ) ∧ (q_X11_does_a231 (f_X11_top (sI S 5 x2) ).2 x1 x2 x3 x4 x5 (f_X11_top (sI S 5 x2) ).1)) else (if x1 = 8 then True else (if x1 = 9 then (p_X11_top S ) ∧ (q_X11_does_a268 (f_X11_top S ).2 x1 x2 x3 x4 x5 (f_X11_top S ).1) else (if x1 = 10 then (p_X11_dropDraft S ) ∧ (q_X11_does_a287 (f_X11_dropDraft S ).2 x1 x2 x3 x4 x5) else (if x1 = 11 then (vp_in 0 9) ∧ (vp_in (S.2 32 (0 : Int32).toNatClampNeg) 90) ∧ (vp_in 0 9) ∧ (vp_in ((sA S 20 (S.2 32 (0 : Int32).toNatClampNeg).toNatClampNeg x2).2 32 (0 : Int32).toNatClampNeg) 90) ∧ True else (if x1 = 12 then (p_X11_addWord S x2) ∧ (q_X11_does_a343 (f_X11_addWord S x2).2 x1 x2 x3 x4 x5) else (if x1 = 13 then (p_X11_lay S x2) ∧ (q_X11_does_a377 (f_X11_lay S x2).2 x1 x2 x3 x4 x5 (f_X11_lay S x2).1) else (if x1 = 14 then (p_X11_take S x2) ∧ (q_X11_does_a383 (f_X11_take S x2).2 x1 x2 x3 x4 x5 (f_X11_take S x2).1) else (if x1 = 15 then (p_X11_move S x2) ∧ (q_X11_does_a389 (f_X11_move S x2).2 x1 x2 x3 x4 x5 (f_X11_move S x2).1) else (if x1 = 16 then (q_X11_does_390 S x1 x2 x3 x4 x5) else (if x1 = 17 then (p_X11_top S ) ∧ (q_X11_does_a413 (f_X11_top S ).2 x1 x2 x3 x4 x5 (f_X11_top S ).1 200) else (if x1 = 18 then (p_X11_goes S ) ∧ (q_X11_does_a432 (f_X11_goes S ).2 x1 x2 x3 x4 x5) else (if x1 = 19 then (p_X11_newSlot S 9) ∧ (q_X11_does_a443 (f_X11_newSlot S 9).2 x1 x2 x3 x4 x5 (f_X11_newSlot S 9).1) else (if x1 = 20 then (q_X11_does_390 S x1 x2 x3 x4 x5) else (if x1 = 21 then (p_X11_told S ) ∧ (q_X11_does_a484 (f_X11_told S ).2 x1 x2 x3 x4 x5 (f_X11_told S ).1) else (lq_X11_does_491 100000 S x1 x2 x3 x4 x5 (S.1 6)))))))))))))))))))))))
def e_X11_does : List Cond := [.fieldLink RX11 9 "MotionFloorModel$Hall" "isThere" "[Z", .fieldLink RX11 100 "MotionFloorModel$Hall" "there" "I", .fieldLink RX11 112 "MotionFloorModel$Hall" "floor" "I", .fieldLink RX11 106 "MotionFloorModel$Hall" "quorum" "I", .fieldLink RX11 103 "MotionFloorModel$Hall" "chair" "I", .fieldLink RX11 15 "MotionFloorModel$Hall" "majority" "[I", .fieldLink RX11 109 "MotionFloorModel$Hall" "limit" "I", .fieldLink RX11 115 "MotionFloorModel$Hall" "pending" "I", .fieldLink RX11 31 "MotionFloorModel$Hall" "floors" "[I", .methodLink RX11 155 yX11_top, .instanceMethod yX11_top, .selects RX11 yX11_top yX11_top, .initialized RX11, .fieldLink RX11 34 "MotionFloorModel$Hall" "speeches" "[I", .methodLink RX11 206 yX11_dropDraft, .instanceMethod yX11_dropDraft, .selects RX11 yX11_dropDraft yX11_dropDraft, .fieldLink RX11 75 "MotionFloorModel$Hall" "draft" "[I", .methodLink RX11 209 yX11_newSlot, .instanceMethod yX11_newSlot, .selects RX11 yX11_newSlot yX11_newSlot, .fieldLink RX11 130 "MotionFloorModel$Hall" "drafted" "I", .fieldLink RX11 151 "MotionFloorModel$Hall" "draftTabled" "Z", .fieldLink RX11 40 "MotionFloorModel$Hall" "from" "[I", .fieldLink RX11 43 "MotionFloorModel$Hall" "to" "[I", .methodLink RX11 212 yX11_addWord, .instanceMethod yX11_addWord, .selects RX11 yX11_addWord yX11_addWord, .fieldLink RX11 37 "MotionFloorModel$Hall" "words" "[I", .methodLink RX11 215 yX11_lay, .instanceMethod yX11_lay, .selects RX11 yX11_lay yX11_lay, .methodLink RX11 218 yX11_take, .instanceMethod yX11_take, .selects RX11 yX11_take yX11_take, .methodLink RX11 221 yX11_move, .instanceMethod yX11_move, .selects RX11 yX11_move yX11_move, .fieldLink RX11 28 "MotionFloorModel$Hall" "seconder" "[I", .fieldLink RX11 68 "MotionFloorModel$Hall" "ballot" "[B", .methodLink RX11 224 yX11_voters, .instanceMethod yX11_voters, .selects RX11 yX11_voters yX11_voters, .methodLink RX11 227 yX11_goes, .instanceMethod yX11_goes, .selects RX11 yX11_goes yX11_goes, .fieldLink RX11 25 "MotionFloorModel$Hall" "mover" "[I", .fieldLink RX11 72 "MotionFloorModel$Hall" "row" "[I", .methodLink RX11 230 yX11_told, .instanceMethod yX11_told, .selects RX11 yX11_told yX11_told]
def v_X11_does : List Cond := .code yX11_does cX11_does 7 (some .int) :: (e_X11_does ++ (wsX110 ++ (v_X11_top ++ (v_X11_dropDraft ++ (v_X11_newSlot ++ (v_X11_addWord ++ (v_X11_lay ++ (v_X11_take ++ (v_X11_move ++ (v_X11_voters ++ (v_X11_goes ++ (v_X11_told ++ []))))))))))))
theorem te_X11_does : GoodIn lw_tbl e_X11_does := wGc z50 (wGc z117 (wGc z118 (wGc z116 (wGc z133 (wGc z170 (wGc z132 (wGc z56 (wGc z62 (wGc z91 (wGc z90 (wGc z89 (wGc z51 (wGc z61 (wGc z195 (wGc z194 (wGc z193 (wGc z84 (wGc z192 (wGc z191 (wGc z190 (wGc z86 (wGc z85 (wGc z75 (wGc z74 (wGc z189 (wGc z188 (wGc z187 (wGc z76 (wGc z186 (wGc z185 (wGc z184 (wGc z183 (wGc z182 (wGc z181 (wGc z180 (wGc z179 (wGc z178 (wGc z66 (wGc z59 (wGc z177 (wGc z176 (wGc z175 (wGc z157 (wGc z156 (wGc z155 (wGc z77 (wGc z57 (wGc z174 (wGc z173 (wGc z172 (wG0)))))))))))))))))))))))))))))))))))))))))))))))))))
theorem t_X11_does : GoodIn lw_tbl v_X11_does := wGc z196 (wGa te_X11_does (wGa zcX11 (wGa t_X11_top (wGa t_X11_dropDraft (wGa t_X11_newSlot (wGa t_X11_addWord (wGa t_X11_lay (wGa t_X11_take (wGa t_X11_move (wGa t_X11_voters (wGa t_X11_goes (wGa t_X11_told (wG0)))))))))))))
set_option maxHeartbeats 4000000 in
set_option maxRecDepth 100000 in
theorem c_X11_does (l : Launch) (G : va_G) (K : Nat → ClassId) (h : Nat) (g : Nat → Nat) (S0 : HS) (a1 a2 a3 a4 a5 : Int32) (sz : Nat) : Met l yX11_does v_X11_does ({ frames := 4, cells := 0, slots := 0, locals := 101 }) (va_Pc [.ref h, .int a1, .int a2, .int a3, .int a4, .int a5] (hS G K h g sz S0 (p_X11_does S0 a1 a2 a3 a4 a5))) (va_Qi (fun (r : Int32) (u : HS) => (r, u) = f_X11_does S0 a1 a2 a3 a4 a5) (hB G K h g (va_A (hW K h g S0) sz)) (va_A (hW K h g S0) sz)) 0 0 (va_A (hW K h g S0) sz) := by
  refine Met.ofW (cc := cX11_does) (maxL := 7) (ret := (some .int)) (by decide) rfl ?_
  intro p e s m args below meth c s₁ B hml hv
  obtain ⟨rfl, ⟨hsz, hP, hK, hD0, hTE⟩, hp⟩ := hv
  have hx := B.exec
  have hb := B.bytes
  have hr := B.returns
  have hts := atoms_spec (ws := v_X11_does) B.pre
  have t_ := t_X11_does
  have mw : ∀ w ∈ e_X11_does, w ∈ v_X11_does := fun w h => List.mem_cons_of_mem _ (List.mem_append_left _ h)
  have hw := fun w (h : w ∈ e_X11_does) => hts w (mw w h)
  have iX11 : ∀ w ∈ wsX110, w ∈ v_X11_does := fun w h => List.mem_cons_of_mem _ (List.mem_append_right _ (List.mem_append_left _ h))
  have j_X11_top : ∀ w ∈ v_X11_top, w ∈ v_X11_does := fun w h => List.mem_cons_of_mem _ (List.mem_append_right _ (List.mem_append_right _ (List.mem_append_left _ h)))
  have j_X11_dropDraft : ∀ w ∈ v_X11_dropDraft, w ∈ v_X11_does := fun w h => List.mem_cons_of_mem _ (List.mem_append_right _ (List.mem_append_right _ (List.mem_append_right _ (List.mem_append_left _ h))))
  have j_X11_newSlot : ∀ w ∈ v_X11_newSlot, w ∈ v_X11_does := fun w h => List.mem_cons_of_mem _ (List.mem_append_right _ (List.mem_append_right _ (List.mem_append_right _ (List.mem_append_right _ (List.mem_append_left _ h)))))
  have j_X11_addWord : ∀ w ∈ v_X11_addWord, w ∈ v_X11_does := fun w h => List.mem_cons_of_mem _ (List.mem_append_right _ (List.mem_append_right _ (List.mem_append_right _ (List.mem_append_right _ (List.mem_append_right _ (List.mem_append_left _ h))))))
  have j_X11_lay : ∀ w ∈ v_X11_lay, w ∈ v_X11_does := fun w h => List.mem_cons_of_mem _ (List.mem_append_right _ (List.mem_append_right _ (List.mem_append_right _ (List.mem_append_right _ (List.mem_append_right _ (List.mem_append_right _ (List.mem_append_left _ h)))))))
  have j_X11_take : ∀ w ∈ v_X11_take, w ∈ v_X11_does := fun w h => List.mem_cons_of_mem _ (List.mem_append_right _ (List.mem_append_right _ (List.mem_append_right _ (List.mem_append_right _ (List.mem_append_right _ (List.mem_append_right _ (List.mem_append_right _ (List.mem_append_left _ h))))))))
  have j_X11_move : ∀ w ∈ v_X11_move, w ∈ v_X11_does := fun w h => List.mem_cons_of_mem _ (List.mem_append_right _ (List.mem_append_right _ (List.mem_append_right _ (List.mem_append_right _ (List.mem_append_right _ (List.mem_append_right _ (List.mem_append_right _ (List.mem_append_right _ (List.mem_append_left _ h)))))))))
  have j_X11_voters : ∀ w ∈ v_X11_voters, w ∈ v_X11_does := fun w h => List.mem_cons_of_mem _ (List.mem_append_right _ (List.mem_append_right _ (List.mem_append_right _ (List.mem_append_right _ (List.mem_append_right _ (List.mem_append_right _ (List.mem_append_right _ (List.mem_append_right _ (List.mem_append_right _ (List.mem_append_left _ h))))))))))
  have j_X11_goes : ∀ w ∈ v_X11_goes, w ∈ v_X11_does := fun w h => List.mem_cons_of_mem _ (List.mem_append_right _ (List.mem_append_right _ (List.mem_append_right _ (List.mem_append_right _ (List.mem_append_right _ (List.mem_append_right _ (List.mem_append_right _ (List.mem_append_right _ (List.mem_append_right _ (List.mem_append_right _ (List.mem_append_left _ h)))))))))))
  have j_X11_told : ∀ w ∈ v_X11_told, w ∈ v_X11_does := fun w h => List.mem_cons_of_mem _ (List.mem_append_right _ (List.mem_append_right _ (List.mem_append_right _ (List.mem_append_right _ (List.mem_append_right _ (List.mem_append_right _ (List.mem_append_right _ (List.mem_append_right _ (List.mem_append_right _ (List.mem_append_right _ (List.mem_append_right _ (List.mem_append_left _ h))))))))))))
  have hown : s.vm.findClass RX11 = some m.cls := findClass_of_methodNamed B.named
  have hlocks := B.notSynchronized
  subst hsz
  have hD := hD0.self (sz := s.heap.size)
  generalize hAe : va_A (hW K h g S0) s.heap.size = A at hD ⊢
  have hA : ∀ q : Nat, s.heap.size ≤ q → A q := fun q h => by rw [← hAe]; exact Or.inr h
  have hS : va_S A s.heap s.heap [] := va_S.rf
  have hl := lv_entry ([.ref h, .int a1, .int a2, .int a3, .int a4, .int a5]) (n := 7) (Nat.le_of_ble_eq_true rfl)
  rw [lg_entry_eq]
  generalize (lg_sl ([.ref h, .int a1, .int a2, .int a3, .int a4, .int a5]) ++ List.replicate (7 - (lg_sl ([.ref h, .int a1, .int a2, .int a3, .int a4, .int a5])).length) Slot.unset).toArray = ls at hl ⊢
  have hl : lv_has ls 7 [(0, .ref h), (1, .int a1), (2, .int a2), (3, .int a3), (4, .int a4), (5, .int a5)] := hl
  refine wGen (fun Q hQ => ?_)
  obtain ⟨X, hX⟩ : ∃ X, f_X11_does S0 a1 a2 a3 a4 a5 = X := ⟨_, rfl⟩
  have B_152 : ∀ (S : HS) (x1 x2 x3 x4 x5 : Int32) (H : Heap) (locs : List Loc) (ls : Array Slot), b_X11_does_152 S x1 x2 x3 x4 x5 = X → q_X11_does_152 S x1 x2 x3 x4 x5 → va_P G vwCl (hW K h g S) H → va_D A (hW K h g S) → va_S A s.heap H locs → lv_has ls 7 [(0, .ref h), (1, .int x1), (2, .int x2), (3, .int x3), (4, .int x4), (5, .int x5)] → W p l e ({ frames := 4, cells := 0, slots := 0, locals := 101 } : Room) s m #[Value.ref h, Value.int a1, Value.int a2, Value.int a3, Value.int a4, Value.int a5] below meth c H locs 0 0 Q (F0 m 152 ls []) := by
    intro S x1 x2 x3 x4 x5 H locs ls hE hp hP hD hS hl
    unfold b_X11_does_152 at hE
    unfold q_X11_does_152 at hp
    refine lv_aload_n hx hb dX11_does_152 rfl (lv_at hl 0 rfl) ?_
    refine va_get (D := G) (ci := 8) (v := .int (S.1 1)) (C := RX11) (T := TX11) (N := 42) hx hb hts iX11 hown hK hP 0 rfl rfl 1 (by decide) (hw (.fieldLink RX11 100 "MotionFloorModel$Hall" "there" "I") (List.mem_of_getElem? (i := 1) rfl)) (fun _ h9 => h9) rfl dX11_does_153 ?_
    subst hQ
    exact W.iret (v := (S.1 1)) hx hb hr (fun t ht hW => ⟨⟨(S.1 1), S, rfl, hE.trans hX.symm, by rw [ht]; exact hP, hD⟩, hS.F ht⟩) hS.2.2 dX11_does_156
  have B_182 : ∀ (S : HS) (x1 x2 x3 x4 x5 : Int32) (H : Heap) (locs : List Loc) (ls : Array Slot), b_X11_does_182 S x1 x2 x3 x4 x5 = X → q_X11_does_182 S x1 x2 x3 x4 x5 → va_P G vwCl (hW K h g S) H → va_D A (hW K h g S) → va_S A s.heap H locs → lv_has ls 7 [(0, .ref h), (1, .int x1), (2, .int x2), (3, .int x3), (4, .int x4), (5, .int x5)] → W p l e ({ frames := 4, cells := 0, slots := 0, locals := 101 } : Room) s m #[Value.ref h, Value.int a1, Value.int a2, Value.int a3, Value.int a4, Value.int a5] below meth c H locs 0 0 Q (F0 m 182 ls []) := by
    intro S x1 x2 x3 x4 x5 H locs ls hE hp hP hD hS hl
    unfold b_X11_does_182 at hE
    unfold q_X11_does_182 at hp
    refine lv_iload_n hx hb dX11_does_182 rfl (lv_at hl 2 rfl) ?_
    subst hQ
    exact W.iret (v := x2) hx hb hr (fun t ht hW => ⟨⟨x2, S, rfl, hE.trans hX.symm, by rw [ht]; exact hP, hD⟩, hS.F ht⟩) hS.2.2 dX11_does_183
  have B_390 : ∀ (S : HS) (x1 x2 x3 x4 x5 : Int32) (H : Heap) (locs : List Loc) (ls : Array Slot), b_X11_does_390 S x1 x2 x3 x4 x5 = X → q_X11_does_390 S x1 x2 x3 x4 x5 → va_P G vwCl (hW K h g S) H → va_D A (hW K h g S) → va_S A s.heap H locs → lv_has ls 7 [(0, .ref h), (1, .int x1), (2, .int x2), (3, .int x3), (4, .int x4), (5, .int x5)] → W p l e ({ frames := 4, cells := 0, slots := 0, locals := 101 } : Room) s m #[Value.ref h, Value.int a1, Value.int a2, Value.int a3, Value.int a4, Value.int a5] below meth c H locs 0 0 Q (F0 m 390 ls []) := by
    intro S x1 x2 x3 x4 x5 H locs ls hE hp hP hD hS hl
    unfold b_X11_does_390 at hE
    unfold q_X11_does_390 at hp
    refine lv_aload_n hx hb dX11_does_390 rfl (lv_at hl 0 rfl) ?_
    refine va_get (D := G) (ci := 8) (v := .ref (g 16)) (C := RX11) (T := TX11) (N := 42) hx hb hts iX11 hown hK hP 0 rfl rfl 16 (by decide) (hw (.fieldLink RX11 28 "MotionFloorModel$Hall" "seconder" "[I") (List.mem_of_getElem? (i := 38) rfl)) (fun _ h9 => h9) rfl dX11_does_391 ?_
    refine lv_aload_n hx hb dX11_does_394 rfl (lv_at hl 0 rfl) ?_
    obtain ⟨hy105, hp⟩ := hp
    refine hGoi (va_runV (As := []) (rest := [.ref (g 16)]) ⟨hx, hb, hml, hown, hts⟩ (c_X11_top l G K h g S _) (cwV 0 hts (wGV t_ (mw (.methodLink RX11 155 yX11_top) (List.mem_of_getElem? (i := 9) rfl)) (mw (.instanceMethod yX11_top) (List.mem_of_getElem? (i := 10) rfl)) (mw (.selects RX11 yX11_top yX11_top) (List.mem_of_getElem? (i := 11) rfl)) (mw (.initialized RX11) (List.mem_of_getElem? (i := 12) rfl)) j_X11_top) rfl rfl rfl (by decide +kernel) ⟨Nat.le_of_ble_eq_true rfl, Nat.le_of_ble_eq_true rfl⟩) (hPV hK hTE hP hD hy105) rfl rfl hl.1 rfl (lv_room (Nat.le_of_ble_eq_true rfl)) dX11_does_395 ⟨Nat.le_of_ble_eq_true rfl, Nat.le_of_ble_eq_true rfl⟩) hP hD hS hA (fun r107 u106 H locs hv hP hD hS => ?_)
    rw [← hv] at hE hp
    dsimp only at hE hp
    unfold b_X11_does_a398 at hE
    unfold q_X11_does_a398 at hp
    refine lv_iload_n hx hb dX11_does_398 rfl (lv_at hl 2 rfl) ?_
    obtain ⟨hy108, hp⟩ := hp
    refine va_iast hx hb hK hP hD hS 6 0 rfl rfl hy108 dX11_does_399 (fun H locs hP hD hS => ?_)
    rw [sA_16] at hP hD
    refine lv_iconst (v := 1) hx hb dX11_does_400 (by decide) ?_
    subst hQ
    exact W.iret (v := 1) hx hb hr (fun t ht hW => ⟨⟨1, (sA u106 16 r107.toNatClampNeg x2), rfl, hE.trans hX.symm, by rw [ht]; exact hP, hD⟩, hS.F ht⟩) hS.2.2 dX11_does_401
  have L_491 : ∀ (n : Nat) (S : HS) (x1 x2 x3 x4 x5 x6 : Int32) (H : Heap) (locs : List Loc) (ls : Array Slot), lp_X11_does_491 n S x1 x2 x3 x4 x5 x6 = X → lq_X11_does_491 n S x1 x2 x3 x4 x5 x6 → va_P G vwCl (hW K h g S) H → va_D A (hW K h g S) → va_S A s.heap H locs → lv_has ls 7 [(0, .ref h), (1, .int x1), (2, .int x2), (3, .int x3), (4, .int x4), (5, .int x5), (6, .int x6)] → W p l e ({ frames := 4, cells := 0, slots := 0, locals := 101 } : Room) s m #[Value.ref h, Value.int a1, Value.int a2, Value.int a3, Value.int a4, Value.int a5] below meth c H locs 0 0 Q (F0 m 491 ls []) := by
    intro n1
    induction n1 with
    | zero => intro S x1 x2 x3 x4 x5 x6 H locs ls hE hp; exact False.elim hp
    | succ n1 ih1 =>
      intro S x1 x2 x3 x4 x5 x6 H locs ls hO1 hp hP hD hS hl
      rw [lp_X11_does_491] at hO1
      rw [lq_X11_does_491] at hp
      obtain ⟨hp, hq1⟩ := hp
      generalize hE : st_X11_does_491 S x1 x2 x3 x4 x5 x6 = Y1 at hO1 hq1
      unfold st_X11_does_491 at hE
      unfold ps_X11_does_491 at hp
      refine lv_aload_n hx hb dX11_does_491 rfl (lv_at hl 0 rfl) ?_
      refine va_get (D := G) (ci := 8) (v := .int (S.1 6)) (C := RX11) (T := TX11) (N := 42) hx hb hts iX11 hown hK hP 0 rfl rfl 6 (by decide) (hw (.fieldLink RX11 115 "MotionFloorModel$Hall" "pending" "I") (List.mem_of_getElem? (i := 7) rfl)) (fun _ h9 => h9) rfl dX11_does_492 ?_
      refine lv_if_le (tgt := 505) hx hb dX11_does_495 (by decide) (fun c143 => ?_) (fun c143 => ?_)
      · rw [if_pos c143] at hE hp
        subst hE
        have hE := hO1
        dsimp only at hE
        refine lv_aload_n hx hb dX11_does_505 rfl (lv_at hl 0 rfl) ?_
        obtain ⟨hy144, hp⟩ := hp
        refine hGov (va_runV (As := []) (rest := []) ⟨hx, hb, hml, hown, hts⟩ (c_X11_dropDraft l G K h g S _) (cwV 0 hts (wGV t_ (mw (.methodLink RX11 206 yX11_dropDraft) (List.mem_of_getElem? (i := 14) rfl)) (mw (.instanceMethod yX11_dropDraft) (List.mem_of_getElem? (i := 15) rfl)) (mw (.selects RX11 yX11_dropDraft yX11_dropDraft) (List.mem_of_getElem? (i := 16) rfl)) (mw (.initialized RX11) (List.mem_of_getElem? (i := 12) rfl)) j_X11_dropDraft) rfl rfl rfl (by decide +kernel) ⟨Nat.le_of_ble_eq_true rfl, Nat.le_of_ble_eq_true rfl⟩) (hPV hK hTE hP hD hy144) rfl rfl hl.1 rfl (lv_room (Nat.le_of_ble_eq_true rfl)) dX11_does_506 ⟨Nat.le_of_ble_eq_true rfl, Nat.le_of_ble_eq_true rfl⟩) hP hD hS hA (fun u145 H locs hv hP hD hS => ?_)
        rw [← hv] at hE hp
        dsimp only at hE hp
        unfold b_X11_does_a509 at hE
        unfold q_X11_does_a509 at hp
        refine lv_aload_n hx hb dX11_does_509 rfl (lv_at hl 0 rfl) ?_
        refine lv_iconst (v := (-1)) hx hb dX11_does_510 (by decide) ?_
        refine va_put (D := G) (ci := 8) (v := .int (-1)) (ty := .int) (C := RX11) (T := TX11) (N := 42) hx hb hts iX11 tyX11 tyX11_ok nmX11 hown hK hP hD hS 0 rfl rfl 5 (by decide) (hw (.fieldLink RX11 112 "MotionFloorModel$Hall" "floor" "I") (List.mem_of_getElem? (i := 2) rfl)) (fun _ h9 => h9) rfl (by decide +kernel) rfl rfl (Nat.le_of_ble_eq_true rfl) dX11_does_511 (fun H locs hP hD hS => ?_)
        rw [sI_5] at hP hD
        refine lv_iload hx hb dX11_does_514 (lv_at hl 6 rfl) ?_
        subst hQ
        exact W.iret (v := x6) hx hb hr (fun t ht hW => ⟨⟨x6, (sI u145 5 (-1)), rfl, hE.trans hX.symm, by rw [ht]; exact hP, hD⟩, hS.F ht⟩) hS.2.2 dX11_does_516
      · rw [if_neg c143] at hE hp
        refine lv_aload_n hx hb dX11_does_498 rfl (lv_at hl 0 rfl) ?_
        obtain ⟨hy147, hp⟩ := hp
        refine hGov (va_runV (As := []) (rest := []) ⟨hx, hb, hml, hown, hts⟩ (c_X11_goes l G K h g S _) (cwV 0 hts (wGV t_ (mw (.methodLink RX11 227 yX11_goes) (List.mem_of_getElem? (i := 43) rfl)) (mw (.instanceMethod yX11_goes) (List.mem_of_getElem? (i := 44) rfl)) (mw (.selects RX11 yX11_goes yX11_goes) (List.mem_of_getElem? (i := 45) rfl)) (mw (.initialized RX11) (List.mem_of_getElem? (i := 12) rfl)) j_X11_goes) rfl rfl rfl (by decide +kernel) ⟨Nat.le_of_ble_eq_true rfl, Nat.le_of_ble_eq_true rfl⟩) (hPV hK hTE hP hD hy147) rfl rfl hl.1 rfl (lv_room (Nat.le_of_ble_eq_true rfl)) dX11_does_499 ⟨Nat.le_of_ble_eq_true rfl, Nat.le_of_ble_eq_true rfl⟩) hP hD hS hA (fun u148 H locs hv hP hD hS => ?_)
        rw [← hv] at hE hp
        dsimp only at hE hp
        unfold b_X11_does_a502 at hE
        unfold q_X11_does_a502 at hp
        refine lv_goto (tgt := 491) hx hb dX11_does_502 (by decide) ?_
        subst hE
        dsimp only at hO1 hq1
        exact ih1 u148 x1 x2 x3 x4 x5 x6 _ _ _ hO1 hq1 hP hD hS (lv_sub hl [0, 1, 2, 3, 4, 5, 6] rfl)
  have B_M : ∀ (S : HS) (x1 x2 x3 x4 x5 : Int32) (H : Heap) (locs : List Loc) (ls : Array Slot), f_X11_does S x1 x2 x3 x4 x5 = X → p_X11_does S x1 x2 x3 x4 x5 → va_P G vwCl (hW K h g S) H → va_D A (hW K h g S) → va_S A s.heap H locs → lv_has ls 7 [(0, .ref h), (1, .int x1), (2, .int x2), (3, .int x3), (4, .int x4), (5, .int x5)] → W p l e ({ frames := 4, cells := 0, slots := 0, locals := 101 } : Room) s m #[Value.ref h, Value.int a1, Value.int a2, Value.int a3, Value.int a4, Value.int a5] below meth c H locs 0 0 Q (F0 m 0 ls []) := by
    intro S x1 x2 x3 x4 x5 H locs ls hE hp hP hD hS hl
    unfold f_X11_does at hE
    unfold p_X11_does at hp
    refine lv_iload_n hx hb dX11_does_0 rfl (lv_at hl 1 rfl) ?_
    by_cases s1 : x1 = 1
    · rw [if_pos s1] at hE hp
      refine lv_tableIn (off := 99) (tgt := 100) hx hb dX11_does_1 (by rw [s1]; decide) (by rw [s1]; decide) (by rw [s1]; decide) (by decide) ?_
      refine lv_aload_n hx hb dX11_does_100 rfl (lv_at hl 0 rfl) ?_
      refine va_get (D := G) (ci := 8) (v := .ref (g 11)) (C := RX11) (T := TX11) (N := 42) hx hb hts iX11 hown hK hP 0 rfl rfl 11 (by decide) (hw (.fieldLink RX11 9 "MotionFloorModel$Hall" "isThere" "[Z") (List.mem_of_getElem? (i := 0) rfl)) (fun _ h9 => h9) rfl dX11_does_101 ?_
      refine lv_iload_n hx hb dX11_does_104 rfl (lv_at hl 2 rfl) ?_
      refine lv_iconst (v := 1) hx hb dX11_does_105 (by decide) ?_
      obtain ⟨hy1, hp⟩ := hp
      refine va_zast hx hb hK hP hD hS 1 1 rfl rfl hy1 dX11_does_106 (fun H locs hP hD hS => ?_)
      rw [sA_11] at hP hD
      refine lv_aload_n hx hb dX11_does_107 rfl (lv_at hl 0 rfl) ?_
      refine lv_dup hx hb dX11_does_108 rfl ?_
      refine va_get (D := G) (ci := 8) (v := .int ((sA S 11 x2.toNatClampNeg (vp_nar .boolean 1)).1 1)) (C := RX11) (T := TX11) (N := 42) hx hb hts iX11 hown hK hP 0 rfl rfl 1 (by decide) (hw (.fieldLink RX11 100 "MotionFloorModel$Hall" "there" "I") (List.mem_of_getElem? (i := 1) rfl)) (fun _ h9 => h9) rfl dX11_does_109 ?_
      refine lv_iconst (v := 1) hx hb dX11_does_112 (by decide) ?_
      refine lv_iadd hx hb dX11_does_113 ?_
      refine va_put (D := G) (ci := 8) (v := .int (((sA S 11 x2.toNatClampNeg (vp_nar .boolean 1)).1 1) + 1)) (ty := .int) (C := RX11) (T := TX11) (N := 42) hx hb hts iX11 tyX11 tyX11_ok nmX11 hown hK hP hD hS 0 rfl rfl 1 (by decide) (hw (.fieldLink RX11 100 "MotionFloorModel$Hall" "there" "I") (List.mem_of_getElem? (i := 1) rfl)) (fun _ h9 => h9) rfl (by decide +kernel) rfl rfl (Nat.le_of_ble_eq_true rfl) dX11_does_114 (fun H locs hP hD hS => ?_)
      rw [sI_1] at hP hD
      refine lv_aload_n hx hb dX11_does_117 rfl (lv_at hl 0 rfl) ?_
      refine va_get (D := G) (ci := 8) (v := .int ((sI (sA S 11 x2.toNatClampNeg (vp_nar .boolean 1)) 1 (((sA S 11 x2.toNatClampNeg (vp_nar .boolean 1)).1 1) + 1)).1 1)) (C := RX11) (T := TX11) (N := 42) hx hb hts iX11 hown hK hP 0 rfl rfl 1 (by decide) (hw (.fieldLink RX11 100 "MotionFloorModel$Hall" "there" "I") (List.mem_of_getElem? (i := 1) rfl)) (fun _ h9 => h9) rfl dX11_does_118 ?_
      subst hQ
      exact W.iret (v := ((sI (sA S 11 x2.toNatClampNeg (vp_nar .boolean 1)) 1 (((sA S 11 x2.toNatClampNeg (vp_nar .boolean 1)).1 1) + 1)).1 1)) hx hb hr (fun t ht hW => ⟨⟨((sI (sA S 11 x2.toNatClampNeg (vp_nar .boolean 1)) 1 (((sA S 11 x2.toNatClampNeg (vp_nar .boolean 1)).1 1) + 1)).1 1), (sI (sA S 11 x2.toNatClampNeg (vp_nar .boolean 1)) 1 (((sA S 11 x2.toNatClampNeg (vp_nar .boolean 1)).1 1) + 1)), rfl, hE.trans hX.symm, by rw [ht]; exact hP, hD⟩, hS.F ht⟩) hS.2.2 dX11_does_121
    rw [if_neg s1] at hE hp
    have s1 := wNe (b := 1) rfl (by decide) s1
    by_cases s2 : x1 = 2
    · rw [if_pos s2] at hE hp
      refine lv_tableIn (off := 121) (tgt := 122) hx hb dX11_does_1 (by rw [s2]; decide) (by rw [s2]; decide) (by rw [s2]; decide) (by decide) ?_
      refine lv_aload_n hx hb dX11_does_122 rfl (lv_at hl 0 rfl) ?_
      refine va_get (D := G) (ci := 8) (v := .ref (g 11)) (C := RX11) (T := TX11) (N := 42) hx hb hts iX11 hown hK hP 0 rfl rfl 11 (by decide) (hw (.fieldLink RX11 9 "MotionFloorModel$Hall" "isThere" "[Z") (List.mem_of_getElem? (i := 0) rfl)) (fun _ h9 => h9) rfl dX11_does_123 ?_
      refine lv_iload_n hx hb dX11_does_126 rfl (lv_at hl 2 rfl) ?_
      refine lv_iconst (v := 0) hx hb dX11_does_127 (by decide) ?_
      obtain ⟨hy2, hp⟩ := hp
      refine va_zast hx hb hK hP hD hS 1 1 rfl rfl hy2 dX11_does_128 (fun H locs hP hD hS => ?_)
      rw [sA_11] at hP hD
      refine lv_aload_n hx hb dX11_does_129 rfl (lv_at hl 0 rfl) ?_
      refine lv_dup hx hb dX11_does_130 rfl ?_
      refine va_get (D := G) (ci := 8) (v := .int ((sA S 11 x2.toNatClampNeg (vp_nar .boolean 0)).1 1)) (C := RX11) (T := TX11) (N := 42) hx hb hts iX11 hown hK hP 0 rfl rfl 1 (by decide) (hw (.fieldLink RX11 100 "MotionFloorModel$Hall" "there" "I") (List.mem_of_getElem? (i := 1) rfl)) (fun _ h9 => h9) rfl dX11_does_131 ?_
      refine lv_iconst (v := 1) hx hb dX11_does_134 (by decide) ?_
      refine lv_isub hx hb dX11_does_135 ?_
      refine va_put (D := G) (ci := 8) (v := .int (((sA S 11 x2.toNatClampNeg (vp_nar .boolean 0)).1 1) - 1)) (ty := .int) (C := RX11) (T := TX11) (N := 42) hx hb hts iX11 tyX11 tyX11_ok nmX11 hown hK hP hD hS 0 rfl rfl 1 (by decide) (hw (.fieldLink RX11 100 "MotionFloorModel$Hall" "there" "I") (List.mem_of_getElem? (i := 1) rfl)) (fun _ h9 => h9) rfl (by decide +kernel) rfl rfl (Nat.le_of_ble_eq_true rfl) dX11_does_136 (fun H locs hP hD hS => ?_)
      rw [sI_1] at hP hD
      refine lv_aload_n hx hb dX11_does_139 rfl (lv_at hl 0 rfl) ?_
      refine va_get (D := G) (ci := 8) (v := .int ((sI (sA S 11 x2.toNatClampNeg (vp_nar .boolean 0)) 1 (((sA S 11 x2.toNatClampNeg (vp_nar .boolean 0)).1 1) - 1)).1 5)) (C := RX11) (T := TX11) (N := 42) hx hb hts iX11 hown hK hP 0 rfl rfl 5 (by decide) (hw (.fieldLink RX11 112 "MotionFloorModel$Hall" "floor" "I") (List.mem_of_getElem? (i := 2) rfl)) (fun _ h9 => h9) rfl dX11_does_140 ?_
      refine lv_iload_n hx hb dX11_does_143 rfl (lv_at hl 2 rfl) ?_
      refine lv_icmp_ne (tgt := 152) hx hb dX11_does_144 (by decide) (fun c3 => ?_) (fun c3 => ?_)
      · rw [if_neg c3] at hE hp
        exact B_152 (sI (sA S 11 x2.toNatClampNeg (vp_nar .boolean 0)) 1 (((sA S 11 x2.toNatClampNeg (vp_nar .boolean 0)).1 1) - 1)) x1 x2 x3 x4 x5 _ _ _ hE hp hP hD hS (lv_sub hl [0, 1, 2, 3, 4, 5] rfl)
      · rw [if_pos c3] at hE hp
        refine lv_aload_n hx hb dX11_does_147 rfl (lv_at hl 0 rfl) ?_
        refine lv_iconst (v := (-1)) hx hb dX11_does_148 (by decide) ?_
        refine va_put (D := G) (ci := 8) (v := .int (-1)) (ty := .int) (C := RX11) (T := TX11) (N := 42) hx hb hts iX11 tyX11 tyX11_ok nmX11 hown hK hP hD hS 0 rfl rfl 5 (by decide) (hw (.fieldLink RX11 112 "MotionFloorModel$Hall" "floor" "I") (List.mem_of_getElem? (i := 2) rfl)) (fun _ h9 => h9) rfl (by decide +kernel) rfl rfl (Nat.le_of_ble_eq_true rfl) dX11_does_149 (fun H locs hP hD hS => ?_)
        rw [sI_5] at hP hD
        exact B_152 (sI (sI (sA S 11 x2.toNatClampNeg (vp_nar .boolean 0)) 1 (((sA S 11 x2.toNatClampNeg (vp_nar .boolean 0)).1 1) - 1)) 5 (-1)) x1 x2 x3 x4 x5 _ _ _ hE hp hP hD hS (lv_sub hl [0, 1, 2, 3, 4, 5] rfl)
    rw [if_neg s2] at hE hp
    have s2 := wNe (b := 2) rfl (by decide) s2
    by_cases s3 : x1 = 3
    · rw [if_pos s3] at hE hp
      refine lv_tableIn (off := 156) (tgt := 157) hx hb dX11_does_1 (by rw [s3]; decide) (by rw [s3]; decide) (by rw [s3]; decide) (by decide) ?_
      refine lv_aload_n hx hb dX11_does_157 rfl (lv_at hl 0 rfl) ?_
      refine lv_iload_n hx hb dX11_does_158 rfl (lv_at hl 2 rfl) ?_
      refine va_put (D := G) (ci := 8) (v := .int x2) (ty := .int) (C := RX11) (T := TX11) (N := 42) hx hb hts iX11 tyX11 tyX11_ok nmX11 hown hK hP hD hS 0 rfl rfl 3 (by decide) (hw (.fieldLink RX11 106 "MotionFloorModel$Hall" "quorum" "I") (List.mem_of_getElem? (i := 3) rfl)) (fun _ h9 => h9) rfl (by decide +kernel) rfl rfl (Nat.le_of_ble_eq_true rfl) dX11_does_159 (fun H locs hP hD hS => ?_)
      rw [sI_3] at hP hD
      refine lv_iload_n hx hb dX11_does_162 rfl (lv_at hl 2 rfl) ?_
      subst hQ
      exact W.iret (v := x2) hx hb hr (fun t ht hW => ⟨⟨x2, (sI S 3 x2), rfl, hE.trans hX.symm, by rw [ht]; exact hP, hD⟩, hS.F ht⟩) hS.2.2 dX11_does_163
    rw [if_neg s3] at hE hp
    have s3 := wNe (b := 3) rfl (by decide) s3
    by_cases s4 : x1 = 4
    · rw [if_pos s4] at hE hp
      refine lv_tableIn (off := 163) (tgt := 164) hx hb dX11_does_1 (by rw [s4]; decide) (by rw [s4]; decide) (by rw [s4]; decide) (by decide) ?_
      refine lv_aload_n hx hb dX11_does_164 rfl (lv_at hl 0 rfl) ?_
      refine lv_iload_n hx hb dX11_does_165 rfl (lv_at hl 2 rfl) ?_
      refine va_put (D := G) (ci := 8) (v := .int x2) (ty := .int) (C := RX11) (T := TX11) (N := 42) hx hb hts iX11 tyX11 tyX11_ok nmX11 hown hK hP hD hS 0 rfl rfl 2 (by decide) (hw (.fieldLink RX11 103 "MotionFloorModel$Hall" "chair" "I") (List.mem_of_getElem? (i := 4) rfl)) (fun _ h9 => h9) rfl (by decide +kernel) rfl rfl (Nat.le_of_ble_eq_true rfl) dX11_does_166 (fun H locs hP hD hS => ?_)
      rw [sI_2] at hP hD
      refine lv_aload_n hx hb dX11_does_169 rfl (lv_at hl 0 rfl) ?_
      refine va_get (D := G) (ci := 8) (v := .int ((sI S 2 x2).1 5)) (C := RX11) (T := TX11) (N := 42) hx hb hts iX11 hown hK hP 0 rfl rfl 5 (by decide) (hw (.fieldLink RX11 112 "MotionFloorModel$Hall" "floor" "I") (List.mem_of_getElem? (i := 2) rfl)) (fun _ h9 => h9) rfl dX11_does_170 ?_
      refine lv_iload_n hx hb dX11_does_173 rfl (lv_at hl 2 rfl) ?_
      refine lv_icmp_ne (tgt := 182) hx hb dX11_does_174 (by decide) (fun c4 => ?_) (fun c4 => ?_)
      · rw [if_neg c4] at hE hp
        exact B_182 (sI S 2 x2) x1 x2 x3 x4 x5 _ _ _ hE hp hP hD hS (lv_sub hl [0, 1, 2, 3, 4, 5] rfl)
      · rw [if_pos c4] at hE hp
        refine lv_aload_n hx hb dX11_does_177 rfl (lv_at hl 0 rfl) ?_
        refine lv_iconst (v := (-1)) hx hb dX11_does_178 (by decide) ?_
        refine va_put (D := G) (ci := 8) (v := .int (-1)) (ty := .int) (C := RX11) (T := TX11) (N := 42) hx hb hts iX11 tyX11 tyX11_ok nmX11 hown hK hP hD hS 0 rfl rfl 5 (by decide) (hw (.fieldLink RX11 112 "MotionFloorModel$Hall" "floor" "I") (List.mem_of_getElem? (i := 2) rfl)) (fun _ h9 => h9) rfl (by decide +kernel) rfl rfl (Nat.le_of_ble_eq_true rfl) dX11_does_179 (fun H locs hP hD hS => ?_)
        rw [sI_5] at hP hD
        exact B_182 (sI (sI S 2 x2) 5 (-1)) x1 x2 x3 x4 x5 _ _ _ hE hp hP hD hS (lv_sub hl [0, 1, 2, 3, 4, 5] rfl)
    rw [if_neg s4] at hE hp
    have s4 := wNe (b := 4) rfl (by decide) s4
    by_cases s5 : x1 = 5
    · rw [if_pos s5] at hE hp
      refine lv_tableIn (off := 183) (tgt := 184) hx hb dX11_does_1 (by rw [s5]; decide) (by rw [s5]; decide) (by rw [s5]; decide) (by decide) ?_
      refine lv_aload_n hx hb dX11_does_184 rfl (lv_at hl 0 rfl) ?_
      refine va_get (D := G) (ci := 8) (v := .ref (g 12)) (C := RX11) (T := TX11) (N := 42) hx hb hts iX11 hown hK hP 0 rfl rfl 12 (by decide) (hw (.fieldLink RX11 15 "MotionFloorModel$Hall" "majority" "[I") (List.mem_of_getElem? (i := 5) rfl)) (fun _ h9 => h9) rfl dX11_does_185 ?_
      refine lv_iload_n hx hb dX11_does_188 rfl (lv_at hl 2 rfl) ?_
      obtain ⟨hy5, hp⟩ := hp
      refine va_iald hx hb hK hP 2 0 rfl rfl hy5 dX11_does_189 ?_
      refine lv_istore (lv' := [(6, .int (S.2 12 x2.toNatClampNeg)), (0, .ref h), (1, .int x1), (2, .int x2), (3, .int x3), (4, .int x4), (5, .int x5)]) hx hb dX11_does_190 hl (by decide) rfl (fun ls hl => ?_)
      refine lv_aload_n hx hb dX11_does_192 rfl (lv_at hl 1 rfl) ?_
      refine va_get (D := G) (ci := 8) (v := .ref (g 12)) (C := RX11) (T := TX11) (N := 42) hx hb hts iX11 hown hK hP 0 rfl rfl 12 (by decide) (hw (.fieldLink RX11 15 "MotionFloorModel$Hall" "majority" "[I") (List.mem_of_getElem? (i := 5) rfl)) (fun _ h9 => h9) rfl dX11_does_193 ?_
      refine lv_iload_n hx hb dX11_does_196 rfl (lv_at hl 3 rfl) ?_
      refine lv_iload_n hx hb dX11_does_197 rfl (lv_at hl 4 rfl) ?_
      obtain ⟨hy6, hp⟩ := hp
      refine va_iast hx hb hK hP hD hS 2 0 rfl rfl hy6 dX11_does_198 (fun H locs hP hD hS => ?_)
      rw [sA_12] at hP hD
      refine lv_iload hx hb dX11_does_199 (lv_at hl 0 rfl) ?_
      subst hQ
      exact W.iret (v := (S.2 12 x2.toNatClampNeg)) hx hb hr (fun t ht hW => ⟨⟨(S.2 12 x2.toNatClampNeg), (sA S 12 x2.toNatClampNeg x3), rfl, hE.trans hX.symm, by rw [ht]; exact hP, hD⟩, hS.F ht⟩) hS.2.2 dX11_does_201
    rw [if_neg s5] at hE hp
    have s5 := wNe (b := 5) rfl (by decide) s5
    by_cases s6 : x1 = 6
    · rw [if_pos s6] at hE hp
      refine lv_tableIn (off := 201) (tgt := 202) hx hb dX11_does_1 (by rw [s6]; decide) (by rw [s6]; decide) (by rw [s6]; decide) (by decide) ?_
      refine lv_aload_n hx hb dX11_does_202 rfl (lv_at hl 0 rfl) ?_
      refine lv_iload_n hx hb dX11_does_203 rfl (lv_at hl 2 rfl) ?_
      refine va_put (D := G) (ci := 8) (v := .int x2) (ty := .int) (C := RX11) (T := TX11) (N := 42) hx hb hts iX11 tyX11 tyX11_ok nmX11 hown hK hP hD hS 0 rfl rfl 4 (by decide) (hw (.fieldLink RX11 109 "MotionFloorModel$Hall" "limit" "I") (List.mem_of_getElem? (i := 6) rfl)) (fun _ h9 => h9) rfl (by decide +kernel) rfl rfl (Nat.le_of_ble_eq_true rfl) dX11_does_204 (fun H locs hP hD hS => ?_)
      rw [sI_4] at hP hD
      refine lv_iload_n hx hb dX11_does_207 rfl (lv_at hl 2 rfl) ?_
      subst hQ
      exact W.iret (v := x2) hx hb hr (fun t ht hW => ⟨⟨x2, (sI S 4 x2), rfl, hE.trans hX.symm, by rw [ht]; exact hP, hD⟩, hS.F ht⟩) hS.2.2 dX11_does_208
    rw [if_neg s6] at hE hp
    have s6 := wNe (b := 6) rfl (by decide) s6
    by_cases s7 : x1 = 7
    · rw [if_pos s7] at hE hp
      refine lv_tableIn (off := 208) (tgt := 209) hx hb dX11_does_1 (by rw [s7]; decide) (by rw [s7]; decide) (by rw [s7]; decide) (by decide) ?_
      refine lv_aload_n hx hb dX11_does_209 rfl (lv_at hl 0 rfl) ?_
      refine lv_iload_n hx hb dX11_does_210 rfl (lv_at hl 2 rfl) ?_
      refine va_put (D := G) (ci := 8) (v := .int x2) (ty := .int) (C := RX11) (T := TX11) (N := 42) hx hb hts iX11 tyX11 tyX11_ok nmX11 hown hK hP hD hS 0 rfl rfl 5 (by decide) (hw (.fieldLink RX11 112 "MotionFloorModel$Hall" "floor" "I") (List.mem_of_getElem? (i := 2) rfl)) (fun _ h9 => h9) rfl (by decide +kernel) rfl rfl (Nat.le_of_ble_eq_true rfl) dX11_does_211 (fun H locs hP hD hS => ?_)
      rw [sI_5] at hP hD
      refine lv_aload_n hx hb dX11_does_214 rfl (lv_at hl 0 rfl) ?_
      refine va_get (D := G) (ci := 8) (v := .int ((sI S 5 x2).1 6)) (C := RX11) (T := TX11) (N := 42) hx hb hts iX11 hown hK hP 0 rfl rfl 6 (by decide) (hw (.fieldLink RX11 115 "MotionFloorModel$Hall" "pending" "I") (List.mem_of_getElem? (i := 7) rfl)) (fun _ h9 => h9) rfl dX11_does_215 ?_
      refine lv_if_ne (tgt := 223) hx hb dX11_does_218 (by decide) (fun c7 => ?_) (fun c7 => ?_)
      · rw [if_neg c7] at hE hp
        refine lv_aload_n hx hb dX11_does_223 rfl (lv_at hl 0 rfl) ?_
        refine va_get (D := G) (ci := 8) (v := .ref (g 17)) (C := RX11) (T := TX11) (N := 42) hx hb hts iX11 hown hK hP 0 rfl rfl 17 (by decide) (hw (.fieldLink RX11 31 "MotionFloorModel$Hall" "floors" "[I") (List.mem_of_getElem? (i := 8) rfl)) (fun _ h9 => h9) rfl dX11_does_224 ?_
        refine lv_aload_n hx hb dX11_does_227 rfl (lv_at hl 0 rfl) ?_
        obtain ⟨hy8, hp⟩ := hp
        refine hGoi (va_runV (As := []) (rest := [.ref (g 17)]) ⟨hx, hb, hml, hown, hts⟩ (c_X11_top l G K h g (sI S 5 x2) _) (cwV 0 hts (wGV t_ (mw (.methodLink RX11 155 yX11_top) (List.mem_of_getElem? (i := 9) rfl)) (mw (.instanceMethod yX11_top) (List.mem_of_getElem? (i := 10) rfl)) (mw (.selects RX11 yX11_top yX11_top) (List.mem_of_getElem? (i := 11) rfl)) (mw (.initialized RX11) (List.mem_of_getElem? (i := 12) rfl)) j_X11_top) rfl rfl rfl (by decide +kernel) ⟨Nat.le_of_ble_eq_true rfl, Nat.le_of_ble_eq_true rfl⟩) (hPV hK hTE hP hD hy8) rfl rfl hl.1 rfl (lv_room (Nat.le_of_ble_eq_true rfl)) dX11_does_228 ⟨Nat.le_of_ble_eq_true rfl, Nat.le_of_ble_eq_true rfl⟩) hP hD hS hA (fun r10 u9 H locs hv hP hD hS => ?_)
        rw [← hv] at hE hp
        dsimp only at hE hp
        unfold b_X11_does_a231 at hE
        unfold q_X11_does_a231 at hp
        refine lv_dup2_11 hx hb dX11_does_231 rfl rfl ?_
        obtain ⟨hy11, hp⟩ := hp
        refine va_iald hx hb hK hP 7 0 rfl rfl hy11 dX11_does_232 ?_
        refine lv_iconst (v := 1) hx hb dX11_does_233 (by decide) ?_
        refine lv_iadd hx hb dX11_does_234 ?_
        obtain ⟨hy12, hp⟩ := hp
        refine va_iast hx hb hK hP hD hS 7 0 rfl rfl hy12 dX11_does_235 (fun H locs hP hD hS => ?_)
        rw [sA_17] at hP hD
        refine lv_aload_n hx hb dX11_does_236 rfl (lv_at hl 0 rfl) ?_
        refine va_get (D := G) (ci := 8) (v := .ref (g 17)) (C := RX11) (T := TX11) (N := 42) hx hb hts iX11 hown hK hP 0 rfl rfl 17 (by decide) (hw (.fieldLink RX11 31 "MotionFloorModel$Hall" "floors" "[I") (List.mem_of_getElem? (i := 8) rfl)) (fun _ h9 => h9) rfl dX11_does_237 ?_
        refine lv_aload_n hx hb dX11_does_240 rfl (lv_at hl 0 rfl) ?_
        obtain ⟨hy13, hp⟩ := hp
        refine hGoi (va_runV (As := []) (rest := [.ref (g 17)]) ⟨hx, hb, hml, hown, hts⟩ (c_X11_top l G K h g (sA u9 17 r10.toNatClampNeg ((u9.2 17 r10.toNatClampNeg) + 1)) _) (cwV 0 hts (wGV t_ (mw (.methodLink RX11 155 yX11_top) (List.mem_of_getElem? (i := 9) rfl)) (mw (.instanceMethod yX11_top) (List.mem_of_getElem? (i := 10) rfl)) (mw (.selects RX11 yX11_top yX11_top) (List.mem_of_getElem? (i := 11) rfl)) (mw (.initialized RX11) (List.mem_of_getElem? (i := 12) rfl)) j_X11_top) rfl rfl rfl (by decide +kernel) ⟨Nat.le_of_ble_eq_true rfl, Nat.le_of_ble_eq_true rfl⟩) (hPV hK hTE hP hD hy13) rfl rfl hl.1 rfl (lv_room (Nat.le_of_ble_eq_true rfl)) dX11_does_241 ⟨Nat.le_of_ble_eq_true rfl, Nat.le_of_ble_eq_true rfl⟩) hP hD hS hA (fun r15 u14 H locs hv hP hD hS => ?_)
        rw [← hv] at hE hp
        dsimp only at hE hp
        unfold b_X11_does_a244 at hE
        unfold q_X11_does_a244 at hp
        obtain ⟨hy16, hp⟩ := hp
        refine va_iald hx hb hK hP 7 0 rfl rfl hy16 dX11_does_244 ?_
        subst hQ
        exact W.iret (v := (u14.2 17 r15.toNatClampNeg)) hx hb hr (fun t ht hW => ⟨⟨(u14.2 17 r15.toNatClampNeg), u14, rfl, hE.trans hX.symm, by rw [ht]; exact hP, hD⟩, hS.F ht⟩) hS.2.2 dX11_does_245
      · rw [if_pos c7] at hE hp
        refine lv_iconst (v := 0) hx hb dX11_does_221 (by decide) ?_
        subst hQ
        exact W.iret (v := 0) hx hb hr (fun t ht hW => ⟨⟨0, (sI S 5 x2), rfl, hE.trans hX.symm, by rw [ht]; exact hP, hD⟩, hS.F ht⟩) hS.2.2 dX11_does_222
    rw [if_neg s7] at hE hp
    have s7 := wNe (b := 7) rfl (by decide) s7
    by_cases s8 : x1 = 8
    · rw [if_pos s8] at hE hp
      refine lv_tableIn (off := 245) (tgt := 246) hx hb dX11_does_1 (by rw [s8]; decide) (by rw [s8]; decide) (by rw [s8]; decide) (by decide) ?_
      refine lv_aload_n hx hb dX11_does_246 rfl (lv_at hl 0 rfl) ?_
      refine va_get (D := G) (ci := 8) (v := .int (S.1 5)) (C := RX11) (T := TX11) (N := 42) hx hb hts iX11 hown hK hP 0 rfl rfl 5 (by decide) (hw (.fieldLink RX11 112 "MotionFloorModel$Hall" "floor" "I") (List.mem_of_getElem? (i := 2) rfl)) (fun _ h9 => h9) rfl dX11_does_247 ?_
      refine lv_istore (lv' := [(6, .int (S.1 5)), (0, .ref h), (1, .int x1), (2, .int x2), (3, .int x3), (4, .int x4), (5, .int x5)]) hx hb dX11_does_250 hl (by decide) rfl (fun ls hl => ?_)
      refine lv_aload_n hx hb dX11_does_252 rfl (lv_at hl 1 rfl) ?_
      refine lv_iconst (v := (-1)) hx hb dX11_does_253 (by decide) ?_
      refine va_put (D := G) (ci := 8) (v := .int (-1)) (ty := .int) (C := RX11) (T := TX11) (N := 42) hx hb hts iX11 tyX11 tyX11_ok nmX11 hown hK hP hD hS 0 rfl rfl 5 (by decide) (hw (.fieldLink RX11 112 "MotionFloorModel$Hall" "floor" "I") (List.mem_of_getElem? (i := 2) rfl)) (fun _ h9 => h9) rfl (by decide +kernel) rfl rfl (Nat.le_of_ble_eq_true rfl) dX11_does_254 (fun H locs hP hD hS => ?_)
      rw [sI_5] at hP hD
      refine lv_iload hx hb dX11_does_257 (lv_at hl 0 rfl) ?_
      subst hQ
      exact W.iret (v := (S.1 5)) hx hb hr (fun t ht hW => ⟨⟨(S.1 5), (sI S 5 (-1)), rfl, hE.trans hX.symm, by rw [ht]; exact hP, hD⟩, hS.F ht⟩) hS.2.2 dX11_does_259
    rw [if_neg s8] at hE hp
    have s8 := wNe (b := 8) rfl (by decide) s8
    by_cases s9 : x1 = 9
    · rw [if_pos s9] at hE hp
      refine lv_tableIn (off := 259) (tgt := 260) hx hb dX11_does_1 (by rw [s9]; decide) (by rw [s9]; decide) (by rw [s9]; decide) (by decide) ?_
      refine lv_aload_n hx hb dX11_does_260 rfl (lv_at hl 0 rfl) ?_
      refine va_get (D := G) (ci := 8) (v := .ref (g 18)) (C := RX11) (T := TX11) (N := 42) hx hb hts iX11 hown hK hP 0 rfl rfl 18 (by decide) (hw (.fieldLink RX11 34 "MotionFloorModel$Hall" "speeches" "[I") (List.mem_of_getElem? (i := 13) rfl)) (fun _ h9 => h9) rfl dX11_does_261 ?_
      refine lv_aload_n hx hb dX11_does_264 rfl (lv_at hl 0 rfl) ?_
      obtain ⟨hy24, hp⟩ := hp
      refine hGoi (va_runV (As := []) (rest := [.ref (g 18)]) ⟨hx, hb, hml, hown, hts⟩ (c_X11_top l G K h g S _) (cwV 0 hts (wGV t_ (mw (.methodLink RX11 155 yX11_top) (List.mem_of_getElem? (i := 9) rfl)) (mw (.instanceMethod yX11_top) (List.mem_of_getElem? (i := 10) rfl)) (mw (.selects RX11 yX11_top yX11_top) (List.mem_of_getElem? (i := 11) rfl)) (mw (.initialized RX11) (List.mem_of_getElem? (i := 12) rfl)) j_X11_top) rfl rfl rfl (by decide +kernel) ⟨Nat.le_of_ble_eq_true rfl, Nat.le_of_ble_eq_true rfl⟩) (hPV hK hTE hP hD hy24) rfl rfl hl.1 rfl (lv_room (Nat.le_of_ble_eq_true rfl)) dX11_does_265 ⟨Nat.le_of_ble_eq_true rfl, Nat.le_of_ble_eq_true rfl⟩) hP hD hS hA (fun r26 u25 H locs hv hP hD hS => ?_)
      rw [← hv] at hE hp
      dsimp only at hE hp
      unfold b_X11_does_a268 at hE
      unfold q_X11_does_a268 at hp
      refine lv_dup2_11 hx hb dX11_does_268 rfl rfl ?_
      obtain ⟨hy27, hp⟩ := hp
      refine va_iald hx hb hK hP 8 0 rfl rfl hy27 dX11_does_269 ?_
      refine lv_iconst (v := 1) hx hb dX11_does_270 (by decide) ?_
      refine lv_iadd hx hb dX11_does_271 ?_
      obtain ⟨hy28, hp⟩ := hp
      refine va_iast hx hb hK hP hD hS 8 0 rfl rfl hy28 dX11_does_272 (fun H locs hP hD hS => ?_)
      rw [sA_18] at hP hD
      refine lv_aload_n hx hb dX11_does_273 rfl (lv_at hl 0 rfl) ?_
      refine va_get (D := G) (ci := 8) (v := .ref (g 18)) (C := RX11) (T := TX11) (N := 42) hx hb hts iX11 hown hK hP 0 rfl rfl 18 (by decide) (hw (.fieldLink RX11 34 "MotionFloorModel$Hall" "speeches" "[I") (List.mem_of_getElem? (i := 13) rfl)) (fun _ h9 => h9) rfl dX11_does_274 ?_
      refine lv_aload_n hx hb dX11_does_277 rfl (lv_at hl 0 rfl) ?_
      obtain ⟨hy29, hp⟩ := hp
      refine hGoi (va_runV (As := []) (rest := [.ref (g 18)]) ⟨hx, hb, hml, hown, hts⟩ (c_X11_top l G K h g (sA u25 18 r26.toNatClampNeg ((u25.2 18 r26.toNatClampNeg) + 1)) _) (cwV 0 hts (wGV t_ (mw (.methodLink RX11 155 yX11_top) (List.mem_of_getElem? (i := 9) rfl)) (mw (.instanceMethod yX11_top) (List.mem_of_getElem? (i := 10) rfl)) (mw (.selects RX11 yX11_top yX11_top) (List.mem_of_getElem? (i := 11) rfl)) (mw (.initialized RX11) (List.mem_of_getElem? (i := 12) rfl)) j_X11_top) rfl rfl rfl (by decide +kernel) ⟨Nat.le_of_ble_eq_true rfl, Nat.le_of_ble_eq_true rfl⟩) (hPV hK hTE hP hD hy29) rfl rfl hl.1 rfl (lv_room (Nat.le_of_ble_eq_true rfl)) dX11_does_278 ⟨Nat.le_of_ble_eq_true rfl, Nat.le_of_ble_eq_true rfl⟩) hP hD hS hA (fun r31 u30 H locs hv hP hD hS => ?_)
      rw [← hv] at hE hp
      dsimp only at hE hp
      unfold b_X11_does_a281 at hE
      unfold q_X11_does_a281 at hp
      obtain ⟨hy32, hp⟩ := hp
      refine va_iald hx hb hK hP 8 0 rfl rfl hy32 dX11_does_281 ?_
      subst hQ
      exact W.iret (v := (u30.2 18 r31.toNatClampNeg)) hx hb hr (fun t ht hW => ⟨⟨(u30.2 18 r31.toNatClampNeg), u30, rfl, hE.trans hX.symm, by rw [ht]; exact hP, hD⟩, hS.F ht⟩) hS.2.2 dX11_does_282
    rw [if_neg s9] at hE hp
    have s9 := wNe (b := 9) rfl (by decide) s9
    by_cases s10 : x1 = 10
    · rw [if_pos s10] at hE hp
      refine lv_tableIn (off := 282) (tgt := 283) hx hb dX11_does_1 (by rw [s10]; decide) (by rw [s10]; decide) (by rw [s10]; decide) (by decide) ?_
      refine lv_aload_n hx hb dX11_does_283 rfl (lv_at hl 0 rfl) ?_
      obtain ⟨hy40, hp⟩ := hp
      refine hGov (va_runV (As := []) (rest := []) ⟨hx, hb, hml, hown, hts⟩ (c_X11_dropDraft l G K h g S _) (cwV 0 hts (wGV t_ (mw (.methodLink RX11 206 yX11_dropDraft) (List.mem_of_getElem? (i := 14) rfl)) (mw (.instanceMethod yX11_dropDraft) (List.mem_of_getElem? (i := 15) rfl)) (mw (.selects RX11 yX11_dropDraft yX11_dropDraft) (List.mem_of_getElem? (i := 16) rfl)) (mw (.initialized RX11) (List.mem_of_getElem? (i := 12) rfl)) j_X11_dropDraft) rfl rfl rfl (by decide +kernel) ⟨Nat.le_of_ble_eq_true rfl, Nat.le_of_ble_eq_true rfl⟩) (hPV hK hTE hP hD hy40) rfl rfl hl.1 rfl (lv_room (Nat.le_of_ble_eq_true rfl)) dX11_does_284 ⟨Nat.le_of_ble_eq_true rfl, Nat.le_of_ble_eq_true rfl⟩) hP hD hS hA (fun u41 H locs hv hP hD hS => ?_)
      rw [← hv] at hE hp
      dsimp only at hE hp
      unfold b_X11_does_a287 at hE
      unfold q_X11_does_a287 at hp
      refine lv_aload_n hx hb dX11_does_287 rfl (lv_at hl 0 rfl) ?_
      refine va_get (D := G) (ci := 8) (v := .ref (g 32)) (C := RX11) (T := TX11) (N := 42) hx hb hts iX11 hown hK hP 0 rfl rfl 32 (by decide) (hw (.fieldLink RX11 75 "MotionFloorModel$Hall" "draft" "[I") (List.mem_of_getElem? (i := 17) rfl)) (fun _ h9 => h9) rfl dX11_does_288 ?_
      refine lv_iconst (v := 0) hx hb dX11_does_291 (by decide) ?_
      refine lv_aload_n hx hb dX11_does_292 rfl (lv_at hl 0 rfl) ?_
      refine lv_iload_n hx hb dX11_does_293 rfl (lv_at hl 2 rfl) ?_
      obtain ⟨hy43, hp⟩ := hp
      refine hGoi (va_runV (As := [.int x2]) (rest := [.int 0, .ref (g 32)]) ⟨hx, hb, hml, hown, hts⟩ (c_X11_newSlot l G K h g u41 x2 _) (cwV 1 hts (wGV t_ (mw (.methodLink RX11 209 yX11_newSlot) (List.mem_of_getElem? (i := 18) rfl)) (mw (.instanceMethod yX11_newSlot) (List.mem_of_getElem? (i := 19) rfl)) (mw (.selects RX11 yX11_newSlot yX11_newSlot) (List.mem_of_getElem? (i := 20) rfl)) (mw (.initialized RX11) (List.mem_of_getElem? (i := 12) rfl)) j_X11_newSlot) rfl rfl rfl (by decide +kernel) ⟨Nat.le_of_ble_eq_true rfl, Nat.le_of_ble_eq_true rfl⟩) (hPV hK hTE hP hD hy43) rfl rfl hl.1 rfl (lv_room (Nat.le_of_ble_eq_true rfl)) dX11_does_294 ⟨Nat.le_of_ble_eq_true rfl, Nat.le_of_ble_eq_true rfl⟩) hP hD hS hA (fun r45 u44 H locs hv hP hD hS => ?_)
      rw [← hv] at hE hp
      dsimp only at hE hp
      unfold b_X11_does_a297 at hE
      unfold q_X11_does_a297 at hp
      obtain ⟨hy46, hp⟩ := hp
      refine va_iast hx hb hK hP hD hS 21 0 rfl rfl hy46 dX11_does_297 (fun H locs hP hD hS => ?_)
      rw [sA_32] at hP hD
      refine lv_aload_n hx hb dX11_does_298 rfl (lv_at hl 0 rfl) ?_
      refine lv_iconst (v := 1) hx hb dX11_does_299 (by decide) ?_
      refine va_put (D := G) (ci := 8) (v := .int 1) (ty := .int) (C := RX11) (T := TX11) (N := 42) hx hb hts iX11 tyX11 tyX11_ok nmX11 hown hK hP hD hS 0 rfl rfl 35 (by decide) (hw (.fieldLink RX11 130 "MotionFloorModel$Hall" "drafted" "I") (List.mem_of_getElem? (i := 21) rfl)) (fun _ h9 => h9) rfl (by decide +kernel) rfl rfl (Nat.le_of_ble_eq_true rfl) dX11_does_300 (fun H locs hP hD hS => ?_)
      rw [sI_35] at hP hD
      refine lv_aload_n hx hb dX11_does_303 rfl (lv_at hl 0 rfl) ?_
      refine lv_iconst (v := 0) hx hb dX11_does_304 (by decide) ?_
      refine va_put (D := G) (ci := 8) (v := .int 0) (ty := .boolean) (C := RX11) (T := TX11) (N := 42) hx hb hts iX11 tyX11 tyX11_ok nmX11 hown hK hP hD hS 0 rfl rfl 36 (by decide) (hw (.fieldLink RX11 151 "MotionFloorModel$Hall" "draftTabled" "Z") (List.mem_of_getElem? (i := 22) rfl)) (fun _ h9 => h9) rfl (by decide +kernel) rfl rfl (Nat.le_of_ble_eq_true rfl) dX11_does_305 (fun H locs hP hD hS => ?_)
      rw [sI_36] at hP hD
      refine lv_iload_n hx hb dX11_does_308 rfl (lv_at hl 2 rfl) ?_
      subst hQ
      exact W.iret (v := x2) hx hb hr (fun t ht hW => ⟨⟨x2, (sI (sI (sA u44 32 (0 : Int32).toNatClampNeg r45) 35 1) 36 0), rfl, hE.trans hX.symm, by rw [ht]; exact hP, hD⟩, hS.F ht⟩) hS.2.2 dX11_does_309
    rw [if_neg s10] at hE hp
    have s10 := wNe (b := 10) rfl (by decide) s10
    by_cases s11 : x1 = 11
    · rw [if_pos s11] at hE hp
      refine lv_tableIn (off := 309) (tgt := 310) hx hb dX11_does_1 (by rw [s11]; decide) (by rw [s11]; decide) (by rw [s11]; decide) (by decide) ?_
      refine lv_aload_n hx hb dX11_does_310 rfl (lv_at hl 0 rfl) ?_
      refine va_get (D := G) (ci := 8) (v := .ref (g 20)) (C := RX11) (T := TX11) (N := 42) hx hb hts iX11 hown hK hP 0 rfl rfl 20 (by decide) (hw (.fieldLink RX11 40 "MotionFloorModel$Hall" "from" "[I") (List.mem_of_getElem? (i := 23) rfl)) (fun _ h9 => h9) rfl dX11_does_311 ?_
      refine lv_aload_n hx hb dX11_does_314 rfl (lv_at hl 0 rfl) ?_
      refine va_get (D := G) (ci := 8) (v := .ref (g 32)) (C := RX11) (T := TX11) (N := 42) hx hb hts iX11 hown hK hP 0 rfl rfl 32 (by decide) (hw (.fieldLink RX11 75 "MotionFloorModel$Hall" "draft" "[I") (List.mem_of_getElem? (i := 17) rfl)) (fun _ h9 => h9) rfl dX11_does_315 ?_
      refine lv_iconst (v := 0) hx hb dX11_does_318 (by decide) ?_
      obtain ⟨hy52, hp⟩ := hp
      refine va_iald hx hb hK hP 21 0 rfl rfl hy52 dX11_does_319 ?_
      refine lv_iload_n hx hb dX11_does_320 rfl (lv_at hl 2 rfl) ?_
      obtain ⟨hy53, hp⟩ := hp
      refine va_iast hx hb hK hP hD hS 10 0 rfl rfl hy53 dX11_does_321 (fun H locs hP hD hS => ?_)
      rw [sA_20] at hP hD
      refine lv_aload_n hx hb dX11_does_322 rfl (lv_at hl 0 rfl) ?_
      refine va_get (D := G) (ci := 8) (v := .ref (g 21)) (C := RX11) (T := TX11) (N := 42) hx hb hts iX11 hown hK hP 0 rfl rfl 21 (by decide) (hw (.fieldLink RX11 43 "MotionFloorModel$Hall" "to" "[I") (List.mem_of_getElem? (i := 24) rfl)) (fun _ h9 => h9) rfl dX11_does_323 ?_
      refine lv_aload_n hx hb dX11_does_326 rfl (lv_at hl 0 rfl) ?_
      refine va_get (D := G) (ci := 8) (v := .ref (g 32)) (C := RX11) (T := TX11) (N := 42) hx hb hts iX11 hown hK hP 0 rfl rfl 32 (by decide) (hw (.fieldLink RX11 75 "MotionFloorModel$Hall" "draft" "[I") (List.mem_of_getElem? (i := 17) rfl)) (fun _ h9 => h9) rfl dX11_does_327 ?_
      refine lv_iconst (v := 0) hx hb dX11_does_330 (by decide) ?_
      obtain ⟨hy54, hp⟩ := hp
      refine va_iald hx hb hK hP 21 0 rfl rfl hy54 dX11_does_331 ?_
      refine lv_iload_n hx hb dX11_does_332 rfl (lv_at hl 3 rfl) ?_
      obtain ⟨hy55, hp⟩ := hp
      refine va_iast hx hb hK hP hD hS 11 0 rfl rfl hy55 dX11_does_333 (fun H locs hP hD hS => ?_)
      rw [sA_21] at hP hD
      refine lv_iload_n hx hb dX11_does_334 rfl (lv_at hl 3 rfl) ?_
      refine lv_iload_n hx hb dX11_does_335 rfl (lv_at hl 2 rfl) ?_
      refine lv_isub hx hb dX11_does_336 ?_
      subst hQ
      exact W.iret (v := (x3 - x2)) hx hb hr (fun t ht hW => ⟨⟨(x3 - x2), (sA (sA S 20 (S.2 32 (0 : Int32).toNatClampNeg).toNatClampNeg x2) 21 ((sA S 20 (S.2 32 (0 : Int32).toNatClampNeg).toNatClampNeg x2).2 32 (0 : Int32).toNatClampNeg).toNatClampNeg x3), rfl, hE.trans hX.symm, by rw [ht]; exact hP, hD⟩, hS.F ht⟩) hS.2.2 dX11_does_337
    rw [if_neg s11] at hE hp
    have s11 := wNe (b := 11) rfl (by decide) s11
    by_cases s12 : x1 = 12
    · rw [if_pos s12] at hE hp
      refine lv_tableIn (off := 337) (tgt := 338) hx hb dX11_does_1 (by rw [s12]; decide) (by rw [s12]; decide) (by rw [s12]; decide) (by decide) ?_
      refine lv_aload_n hx hb dX11_does_338 rfl (lv_at hl 0 rfl) ?_
      refine lv_iload_n hx hb dX11_does_339 rfl (lv_at hl 2 rfl) ?_
      obtain ⟨hy56, hp⟩ := hp
      refine hGov (va_runV (As := [.int x2]) (rest := []) ⟨hx, hb, hml, hown, hts⟩ (c_X11_addWord l G K h g S x2 _) (cwV 1 hts (wGV t_ (mw (.methodLink RX11 212 yX11_addWord) (List.mem_of_getElem? (i := 25) rfl)) (mw (.instanceMethod yX11_addWord) (List.mem_of_getElem? (i := 26) rfl)) (mw (.selects RX11 yX11_addWord yX11_addWord) (List.mem_of_getElem? (i := 27) rfl)) (mw (.initialized RX11) (List.mem_of_getElem? (i := 12) rfl)) j_X11_addWord) rfl rfl rfl (by decide +kernel) ⟨Nat.le_of_ble_eq_true rfl, Nat.le_of_ble_eq_true rfl⟩) (hPV hK hTE hP hD hy56) rfl rfl hl.1 rfl (lv_room (Nat.le_of_ble_eq_true rfl)) dX11_does_340 ⟨Nat.le_of_ble_eq_true rfl, Nat.le_of_ble_eq_true rfl⟩) hP hD hS hA (fun u57 H locs hv hP hD hS => ?_)
      rw [← hv] at hE hp
      dsimp only at hE hp
      unfold b_X11_does_a343 at hE
      unfold q_X11_does_a343 at hp
      refine lv_aload_n hx hb dX11_does_343 rfl (lv_at hl 0 rfl) ?_
      refine lv_iload_n hx hb dX11_does_344 rfl (lv_at hl 3 rfl) ?_
      obtain ⟨hy59, hp⟩ := hp
      refine hGov (va_runV (As := [.int x3]) (rest := []) ⟨hx, hb, hml, hown, hts⟩ (c_X11_addWord l G K h g u57 x3 _) (cwV 1 hts (wGV t_ (mw (.methodLink RX11 212 yX11_addWord) (List.mem_of_getElem? (i := 25) rfl)) (mw (.instanceMethod yX11_addWord) (List.mem_of_getElem? (i := 26) rfl)) (mw (.selects RX11 yX11_addWord yX11_addWord) (List.mem_of_getElem? (i := 27) rfl)) (mw (.initialized RX11) (List.mem_of_getElem? (i := 12) rfl)) j_X11_addWord) rfl rfl rfl (by decide +kernel) ⟨Nat.le_of_ble_eq_true rfl, Nat.le_of_ble_eq_true rfl⟩) (hPV hK hTE hP hD hy59) rfl rfl hl.1 rfl (lv_room (Nat.le_of_ble_eq_true rfl)) dX11_does_345 ⟨Nat.le_of_ble_eq_true rfl, Nat.le_of_ble_eq_true rfl⟩) hP hD hS hA (fun u60 H locs hv hP hD hS => ?_)
      rw [← hv] at hE hp
      dsimp only at hE hp
      unfold b_X11_does_a348 at hE
      unfold q_X11_does_a348 at hp
      refine lv_aload_n hx hb dX11_does_348 rfl (lv_at hl 0 rfl) ?_
      refine lv_iload hx hb dX11_does_349 (lv_at hl 4 rfl) ?_
      obtain ⟨hy62, hp⟩ := hp
      refine hGov (va_runV (As := [.int x4]) (rest := []) ⟨hx, hb, hml, hown, hts⟩ (c_X11_addWord l G K h g u60 x4 _) (cwV 1 hts (wGV t_ (mw (.methodLink RX11 212 yX11_addWord) (List.mem_of_getElem? (i := 25) rfl)) (mw (.instanceMethod yX11_addWord) (List.mem_of_getElem? (i := 26) rfl)) (mw (.selects RX11 yX11_addWord yX11_addWord) (List.mem_of_getElem? (i := 27) rfl)) (mw (.initialized RX11) (List.mem_of_getElem? (i := 12) rfl)) j_X11_addWord) rfl rfl rfl (by decide +kernel) ⟨Nat.le_of_ble_eq_true rfl, Nat.le_of_ble_eq_true rfl⟩) (hPV hK hTE hP hD hy62) rfl rfl hl.1 rfl (lv_room (Nat.le_of_ble_eq_true rfl)) dX11_does_351 ⟨Nat.le_of_ble_eq_true rfl, Nat.le_of_ble_eq_true rfl⟩) hP hD hS hA (fun u63 H locs hv hP hD hS => ?_)
      rw [← hv] at hE hp
      dsimp only at hE hp
      unfold b_X11_does_a354 at hE
      unfold q_X11_does_a354 at hp
      refine lv_aload_n hx hb dX11_does_354 rfl (lv_at hl 0 rfl) ?_
      refine lv_iload hx hb dX11_does_355 (lv_at hl 5 rfl) ?_
      obtain ⟨hy65, hp⟩ := hp
      refine hGov (va_runV (As := [.int x5]) (rest := []) ⟨hx, hb, hml, hown, hts⟩ (c_X11_addWord l G K h g u63 x5 _) (cwV 1 hts (wGV t_ (mw (.methodLink RX11 212 yX11_addWord) (List.mem_of_getElem? (i := 25) rfl)) (mw (.instanceMethod yX11_addWord) (List.mem_of_getElem? (i := 26) rfl)) (mw (.selects RX11 yX11_addWord yX11_addWord) (List.mem_of_getElem? (i := 27) rfl)) (mw (.initialized RX11) (List.mem_of_getElem? (i := 12) rfl)) j_X11_addWord) rfl rfl rfl (by decide +kernel) ⟨Nat.le_of_ble_eq_true rfl, Nat.le_of_ble_eq_true rfl⟩) (hPV hK hTE hP hD hy65) rfl rfl hl.1 rfl (lv_room (Nat.le_of_ble_eq_true rfl)) dX11_does_357 ⟨Nat.le_of_ble_eq_true rfl, Nat.le_of_ble_eq_true rfl⟩) hP hD hS hA (fun u66 H locs hv hP hD hS => ?_)
      rw [← hv] at hE hp
      dsimp only at hE hp
      unfold b_X11_does_a360 at hE
      unfold q_X11_does_a360 at hp
      refine lv_aload_n hx hb dX11_does_360 rfl (lv_at hl 0 rfl) ?_
      refine va_get (D := G) (ci := 8) (v := .ref (g 19)) (C := RX11) (T := TX11) (N := 42) hx hb hts iX11 hown hK hP 0 rfl rfl 19 (by decide) (hw (.fieldLink RX11 37 "MotionFloorModel$Hall" "words" "[I") (List.mem_of_getElem? (i := 28) rfl)) (fun _ h9 => h9) rfl dX11_does_361 ?_
      refine lv_aload_n hx hb dX11_does_364 rfl (lv_at hl 0 rfl) ?_
      refine va_get (D := G) (ci := 8) (v := .ref (g 32)) (C := RX11) (T := TX11) (N := 42) hx hb hts iX11 hown hK hP 0 rfl rfl 32 (by decide) (hw (.fieldLink RX11 75 "MotionFloorModel$Hall" "draft" "[I") (List.mem_of_getElem? (i := 17) rfl)) (fun _ h9 => h9) rfl dX11_does_365 ?_
      refine lv_iconst (v := 0) hx hb dX11_does_368 (by decide) ?_
      obtain ⟨hy68, hp⟩ := hp
      refine va_iald hx hb hK hP 21 0 rfl rfl hy68 dX11_does_369 ?_
      obtain ⟨hy69, hp⟩ := hp
      refine va_iald hx hb hK hP 9 0 rfl rfl hy69 dX11_does_370 ?_
      subst hQ
      exact W.iret (v := (u66.2 19 (u66.2 32 (0 : Int32).toNatClampNeg).toNatClampNeg)) hx hb hr (fun t ht hW => ⟨⟨(u66.2 19 (u66.2 32 (0 : Int32).toNatClampNeg).toNatClampNeg), u66, rfl, hE.trans hX.symm, by rw [ht]; exact hP, hD⟩, hS.F ht⟩) hS.2.2 dX11_does_371
    rw [if_neg s12] at hE hp
    have s12 := wNe (b := 12) rfl (by decide) s12
    by_cases s13 : x1 = 13
    · rw [if_pos s13] at hE hp
      refine lv_tableIn (off := 371) (tgt := 372) hx hb dX11_does_1 (by rw [s13]; decide) (by rw [s13]; decide) (by rw [s13]; decide) (by decide) ?_
      refine lv_aload_n hx hb dX11_does_372 rfl (lv_at hl 0 rfl) ?_
      refine lv_iload_n hx hb dX11_does_373 rfl (lv_at hl 2 rfl) ?_
      obtain ⟨hy96, hp⟩ := hp
      refine hGoi (va_runV (As := [.int x2]) (rest := []) ⟨hx, hb, hml, hown, hts⟩ (c_X11_lay l G K h g S x2 _) (cwV 1 hts (wGV t_ (mw (.methodLink RX11 215 yX11_lay) (List.mem_of_getElem? (i := 29) rfl)) (mw (.instanceMethod yX11_lay) (List.mem_of_getElem? (i := 30) rfl)) (mw (.selects RX11 yX11_lay yX11_lay) (List.mem_of_getElem? (i := 31) rfl)) (mw (.initialized RX11) (List.mem_of_getElem? (i := 12) rfl)) j_X11_lay) rfl rfl rfl (by decide +kernel) ⟨Nat.le_of_ble_eq_true rfl, Nat.le_of_ble_eq_true rfl⟩) (hPV hK hTE hP hD hy96) rfl rfl hl.1 rfl (lv_room (Nat.le_of_ble_eq_true rfl)) dX11_does_374 ⟨Nat.le_of_ble_eq_true rfl, Nat.le_of_ble_eq_true rfl⟩) hP hD hS hA (fun r98 u97 H locs hv hP hD hS => ?_)
      rw [← hv] at hE hp
      dsimp only at hE hp
      unfold b_X11_does_a377 at hE
      unfold q_X11_does_a377 at hp
      subst hQ
      exact W.iret (v := r98) hx hb hr (fun t ht hW => ⟨⟨r98, u97, rfl, hE.trans hX.symm, by rw [ht]; exact hP, hD⟩, hS.F ht⟩) hS.2.2 dX11_does_377
    rw [if_neg s13] at hE hp
    have s13 := wNe (b := 13) rfl (by decide) s13
    by_cases s14 : x1 = 14
    · rw [if_pos s14] at hE hp
      refine lv_tableIn (off := 377) (tgt := 378) hx hb dX11_does_1 (by rw [s14]; decide) (by rw [s14]; decide) (by rw [s14]; decide) (by decide) ?_
      refine lv_aload_n hx hb dX11_does_378 rfl (lv_at hl 0 rfl) ?_
      refine lv_iload_n hx hb dX11_does_379 rfl (lv_at hl 2 rfl) ?_
      obtain ⟨hy99, hp⟩ := hp
      refine hGoi (va_runV (As := [.int x2]) (rest := []) ⟨hx, hb, hml, hown, hts⟩ (c_X11_take l G K h g S x2 _) (cwV 1 hts (wGV t_ (mw (.methodLink RX11 218 yX11_take) (List.mem_of_getElem? (i := 32) rfl)) (mw (.instanceMethod yX11_take) (List.mem_of_getElem? (i := 33) rfl)) (mw (.selects RX11 yX11_take yX11_take) (List.mem_of_getElem? (i := 34) rfl)) (mw (.initialized RX11) (List.mem_of_getElem? (i := 12) rfl)) j_X11_take) rfl rfl rfl (by decide +kernel) ⟨Nat.le_of_ble_eq_true rfl, Nat.le_of_ble_eq_true rfl⟩) (hPV hK hTE hP hD hy99) rfl rfl hl.1 rfl (lv_room (Nat.le_of_ble_eq_true rfl)) dX11_does_380 ⟨Nat.le_of_ble_eq_true rfl, Nat.le_of_ble_eq_true rfl⟩) hP hD hS hA (fun r101 u100 H locs hv hP hD hS => ?_)
      rw [← hv] at hE hp
      dsimp only at hE hp
      unfold b_X11_does_a383 at hE
      unfold q_X11_does_a383 at hp
      subst hQ
      exact W.iret (v := r101) hx hb hr (fun t ht hW => ⟨⟨r101, u100, rfl, hE.trans hX.symm, by rw [ht]; exact hP, hD⟩, hS.F ht⟩) hS.2.2 dX11_does_383
    rw [if_neg s14] at hE hp
    have s14 := wNe (b := 14) rfl (by decide) s14
    by_cases s15 : x1 = 15
    · rw [if_pos s15] at hE hp
      refine lv_tableIn (off := 383) (tgt := 384) hx hb dX11_does_1 (by rw [s15]; decide) (by rw [s15]; decide) (by rw [s15]; decide) (by decide) ?_
      refine lv_aload_n hx hb dX11_does_384 rfl (lv_at hl 0 rfl) ?_
      refine lv_iload_n hx hb dX11_does_385 rfl (lv_at hl 2 rfl) ?_
      obtain ⟨hy102, hp⟩ := hp
      refine hGoi (va_runV (As := [.int x2]) (rest := []) ⟨hx, hb, hml, hown, hts⟩ (c_X11_move l G K h g S x2 _) (cwV 1 hts (wGV t_ (mw (.methodLink RX11 221 yX11_move) (List.mem_of_getElem? (i := 35) rfl)) (mw (.instanceMethod yX11_move) (List.mem_of_getElem? (i := 36) rfl)) (mw (.selects RX11 yX11_move yX11_move) (List.mem_of_getElem? (i := 37) rfl)) (mw (.initialized RX11) (List.mem_of_getElem? (i := 12) rfl)) j_X11_move) rfl rfl rfl (by decide +kernel) ⟨Nat.le_of_ble_eq_true rfl, Nat.le_of_ble_eq_true rfl⟩) (hPV hK hTE hP hD hy102) rfl rfl hl.1 rfl (lv_room (Nat.le_of_ble_eq_true rfl)) dX11_does_386 ⟨Nat.le_of_ble_eq_true rfl, Nat.le_of_ble_eq_true rfl⟩) hP hD hS hA (fun r104 u103 H locs hv hP hD hS => ?_)
      rw [← hv] at hE hp
      dsimp only at hE hp
      unfold b_X11_does_a389 at hE
      unfold q_X11_does_a389 at hp
      subst hQ
      exact W.iret (v := r104) hx hb hr (fun t ht hW => ⟨⟨r104, u103, rfl, hE.trans hX.symm, by rw [ht]; exact hP, hD⟩, hS.F ht⟩) hS.2.2 dX11_does_389
    rw [if_neg s15] at hE hp
    have s15 := wNe (b := 15) rfl (by decide) s15
    by_cases s16 : x1 = 16
    · rw [if_pos s16] at hE hp
      refine lv_tableIn (off := 389) (tgt := 390) hx hb dX11_does_1 (by rw [s16]; decide) (by rw [s16]; decide) (by rw [s16]; decide) (by decide) ?_
      exact B_390 S x1 x2 x3 x4 x5 _ _ _ hE hp hP hD hS (lv_sub hl [0, 1, 2, 3, 4, 5] rfl)
    rw [if_neg s16] at hE hp
    have s16 := wNe (b := 16) rfl (by decide) s16
    by_cases s17 : x1 = 17
    · rw [if_pos s17] at hE hp
      refine lv_tableIn (off := 401) (tgt := 402) hx hb dX11_does_1 (by rw [s17]; decide) (by rw [s17]; decide) (by rw [s17]; decide) (by decide) ?_
      refine lv_aload_n hx hb dX11_does_402 rfl (lv_at hl 0 rfl) ?_
      refine va_get (D := G) (ci := 8) (v := .ref (g 29)) (C := RX11) (T := TX11) (N := 42) hx hb hts iX11 hown hK hP 0 rfl rfl 29 (by decide) (hw (.fieldLink RX11 68 "MotionFloorModel$Hall" "ballot" "[B") (List.mem_of_getElem? (i := 39) rfl)) (fun _ h9 => h9) rfl dX11_does_403 ?_
      refine lv_sipush (v := 200) hx hb dX11_does_406 (by decide) ?_
      refine lv_aload_n hx hb dX11_does_409 rfl (lv_at hl 0 rfl) ?_
      obtain ⟨hy110, hp⟩ := hp
      refine hGoi (va_runV (As := []) (rest := [.int 200, .ref (g 29)]) ⟨hx, hb, hml, hown, hts⟩ (c_X11_top l G K h g S _) (cwV 0 hts (wGV t_ (mw (.methodLink RX11 155 yX11_top) (List.mem_of_getElem? (i := 9) rfl)) (mw (.instanceMethod yX11_top) (List.mem_of_getElem? (i := 10) rfl)) (mw (.selects RX11 yX11_top yX11_top) (List.mem_of_getElem? (i := 11) rfl)) (mw (.initialized RX11) (List.mem_of_getElem? (i := 12) rfl)) j_X11_top) rfl rfl rfl (by decide +kernel) ⟨Nat.le_of_ble_eq_true rfl, Nat.le_of_ble_eq_true rfl⟩) (hPV hK hTE hP hD hy110) rfl rfl hl.1 rfl (lv_room (Nat.le_of_ble_eq_true rfl)) dX11_does_410 ⟨Nat.le_of_ble_eq_true rfl, Nat.le_of_ble_eq_true rfl⟩) hP hD hS hA (fun r112 u111 H locs hv hP hD hS => ?_)
      rw [← hv] at hE hp
      dsimp only at hE hp
      unfold b_X11_does_a413 at hE
      unfold q_X11_does_a413 at hp
      refine lv_imul hx hb dX11_does_413 ?_
      refine lv_iload_n hx hb dX11_does_414 rfl (lv_at hl 2 rfl) ?_
      refine lv_iadd hx hb dX11_does_415 ?_
      refine lv_iload_n hx hb dX11_does_416 rfl (lv_at hl 3 rfl) ?_
      refine lv_i2b (v := x3.toInt8.toInt32) hx hb dX11_does_417 rfl ?_
      obtain ⟨hy113, hp⟩ := hp
      refine va_bast hx hb hK hP hD hS 19 2 rfl rfl hy113 dX11_does_418 (fun H locs hP hD hS => ?_)
      rw [sA_29] at hP hD
      refine lv_aload_n hx hb dX11_does_419 rfl (lv_at hl 0 rfl) ?_
      refine lv_aload_n hx hb dX11_does_420 rfl (lv_at hl 0 rfl) ?_
      obtain ⟨hy114, hp⟩ := hp
      refine hGoi (va_runV (As := []) (rest := [.ref h]) ⟨hx, hb, hml, hown, hts⟩ (c_X11_top l G K h g (sA u111 29 ((200 * r112) + x2).toNatClampNeg (vp_nar .byte (x3.toInt8.toInt32))) _) (cwV 0 hts (wGV t_ (mw (.methodLink RX11 155 yX11_top) (List.mem_of_getElem? (i := 9) rfl)) (mw (.instanceMethod yX11_top) (List.mem_of_getElem? (i := 10) rfl)) (mw (.selects RX11 yX11_top yX11_top) (List.mem_of_getElem? (i := 11) rfl)) (mw (.initialized RX11) (List.mem_of_getElem? (i := 12) rfl)) j_X11_top) rfl rfl rfl (by decide +kernel) ⟨Nat.le_of_ble_eq_true rfl, Nat.le_of_ble_eq_true rfl⟩) (hPV hK hTE hP hD hy114) rfl rfl hl.1 rfl (lv_room (Nat.le_of_ble_eq_true rfl)) dX11_does_421 ⟨Nat.le_of_ble_eq_true rfl, Nat.le_of_ble_eq_true rfl⟩) hP hD hS hA (fun r116 u115 H locs hv hP hD hS => ?_)
      rw [← hv] at hE hp
      dsimp only at hE hp
      unfold b_X11_does_a424 at hE
      unfold q_X11_does_a424 at hp
      obtain ⟨hy117, hp⟩ := hp
      refine hGoi (va_runV (As := [.int r116]) (rest := []) ⟨hx, hb, hml, hown, hts⟩ (c_X11_voters l G K h g u115 r116 _) (cwV 1 hts (wGV t_ (mw (.methodLink RX11 224 yX11_voters) (List.mem_of_getElem? (i := 40) rfl)) (mw (.instanceMethod yX11_voters) (List.mem_of_getElem? (i := 41) rfl)) (mw (.selects RX11 yX11_voters yX11_voters) (List.mem_of_getElem? (i := 42) rfl)) (mw (.initialized RX11) (List.mem_of_getElem? (i := 12) rfl)) j_X11_voters) rfl rfl rfl (by decide +kernel) ⟨Nat.le_of_ble_eq_true rfl, Nat.le_of_ble_eq_true rfl⟩) (hPV hK hTE hP hD hy117) rfl rfl hl.1 rfl (lv_room (Nat.le_of_ble_eq_true rfl)) dX11_does_424 ⟨Nat.le_of_ble_eq_true rfl, Nat.le_of_ble_eq_true rfl⟩) hP hD hS hA (fun r119 u118 H locs hv hP hD hS => ?_)
      rw [← hv] at hE hp
      dsimp only at hE hp
      unfold b_X11_does_a427 at hE
      unfold q_X11_does_a427 at hp
      subst hQ
      exact W.iret (v := r119) hx hb hr (fun t ht hW => ⟨⟨r119, u118, rfl, hE.trans hX.symm, by rw [ht]; exact hP, hD⟩, hS.F ht⟩) hS.2.2 dX11_does_427
    rw [if_neg s17] at hE hp
    have s17 := wNe (b := 17) rfl (by decide) s17
    by_cases s18 : x1 = 18
    · rw [if_pos s18] at hE hp
      refine lv_tableIn (off := 427) (tgt := 428) hx hb dX11_does_1 (by rw [s18]; decide) (by rw [s18]; decide) (by rw [s18]; decide) (by decide) ?_
      refine lv_aload_n hx hb dX11_does_428 rfl (lv_at hl 0 rfl) ?_
      obtain ⟨hy130, hp⟩ := hp
      refine hGov (va_runV (As := []) (rest := []) ⟨hx, hb, hml, hown, hts⟩ (c_X11_goes l G K h g S _) (cwV 0 hts (wGV t_ (mw (.methodLink RX11 227 yX11_goes) (List.mem_of_getElem? (i := 43) rfl)) (mw (.instanceMethod yX11_goes) (List.mem_of_getElem? (i := 44) rfl)) (mw (.selects RX11 yX11_goes yX11_goes) (List.mem_of_getElem? (i := 45) rfl)) (mw (.initialized RX11) (List.mem_of_getElem? (i := 12) rfl)) j_X11_goes) rfl rfl rfl (by decide +kernel) ⟨Nat.le_of_ble_eq_true rfl, Nat.le_of_ble_eq_true rfl⟩) (hPV hK hTE hP hD hy130) rfl rfl hl.1 rfl (lv_room (Nat.le_of_ble_eq_true rfl)) dX11_does_429 ⟨Nat.le_of_ble_eq_true rfl, Nat.le_of_ble_eq_true rfl⟩) hP hD hS hA (fun u131 H locs hv hP hD hS => ?_)
      rw [← hv] at hE hp
      dsimp only at hE hp
      unfold b_X11_does_a432 at hE
      unfold q_X11_does_a432 at hp
      refine lv_aload_n hx hb dX11_does_432 rfl (lv_at hl 0 rfl) ?_
      refine va_get (D := G) (ci := 8) (v := .int (u131.1 6)) (C := RX11) (T := TX11) (N := 42) hx hb hts iX11 hown hK hP 0 rfl rfl 6 (by decide) (hw (.fieldLink RX11 115 "MotionFloorModel$Hall" "pending" "I") (List.mem_of_getElem? (i := 7) rfl)) (fun _ h9 => h9) rfl dX11_does_433 ?_
      subst hQ
      exact W.iret (v := (u131.1 6)) hx hb hr (fun t ht hW => ⟨⟨(u131.1 6), u131, rfl, hE.trans hX.symm, by rw [ht]; exact hP, hD⟩, hS.F ht⟩) hS.2.2 dX11_does_436
    rw [if_neg s18] at hE hp
    have s18 := wNe (b := 18) rfl (by decide) s18
    by_cases s19 : x1 = 19
    · rw [if_pos s19] at hE hp
      refine lv_tableIn (off := 436) (tgt := 437) hx hb dX11_does_1 (by rw [s19]; decide) (by rw [s19]; decide) (by rw [s19]; decide) (by decide) ?_
      refine lv_aload_n hx hb dX11_does_437 rfl (lv_at hl 0 rfl) ?_
      refine lv_bipush (v := 9) hx hb dX11_does_438 (by decide) ?_
      obtain ⟨hy133, hp⟩ := hp
      refine hGoi (va_runV (As := [.int 9]) (rest := []) ⟨hx, hb, hml, hown, hts⟩ (c_X11_newSlot l G K h g S 9 _) (cwV 1 hts (wGV t_ (mw (.methodLink RX11 209 yX11_newSlot) (List.mem_of_getElem? (i := 18) rfl)) (mw (.instanceMethod yX11_newSlot) (List.mem_of_getElem? (i := 19) rfl)) (mw (.selects RX11 yX11_newSlot yX11_newSlot) (List.mem_of_getElem? (i := 20) rfl)) (mw (.initialized RX11) (List.mem_of_getElem? (i := 12) rfl)) j_X11_newSlot) rfl rfl rfl (by decide +kernel) ⟨Nat.le_of_ble_eq_true rfl, Nat.le_of_ble_eq_true rfl⟩) (hPV hK hTE hP hD hy133) rfl rfl hl.1 rfl (lv_room (Nat.le_of_ble_eq_true rfl)) dX11_does_440 ⟨Nat.le_of_ble_eq_true rfl, Nat.le_of_ble_eq_true rfl⟩) hP hD hS hA (fun r135 u134 H locs hv hP hD hS => ?_)
      rw [← hv] at hE hp
      dsimp only at hE hp
      unfold b_X11_does_a443 at hE
      unfold q_X11_does_a443 at hp
      refine lv_istore (lv' := [(6, .int r135), (0, .ref h), (1, .int x1), (2, .int x2), (3, .int x3), (4, .int x4), (5, .int x5)]) hx hb dX11_does_443 hl (by decide) rfl (fun ls hl => ?_)
      refine lv_aload_n hx hb dX11_does_445 rfl (lv_at hl 1 rfl) ?_
      refine va_get (D := G) (ci := 8) (v := .ref (g 15)) (C := RX11) (T := TX11) (N := 42) hx hb hts iX11 hown hK hP 0 rfl rfl 15 (by decide) (hw (.fieldLink RX11 25 "MotionFloorModel$Hall" "mover" "[I") (List.mem_of_getElem? (i := 46) rfl)) (fun _ h9 => h9) rfl dX11_does_446 ?_
      refine lv_iload hx hb dX11_does_449 (lv_at hl 0 rfl) ?_
      refine lv_aload_n hx hb dX11_does_451 rfl (lv_at hl 1 rfl) ?_
      refine va_get (D := G) (ci := 8) (v := .int (u134.1 2)) (C := RX11) (T := TX11) (N := 42) hx hb hts iX11 hown hK hP 0 rfl rfl 2 (by decide) (hw (.fieldLink RX11 103 "MotionFloorModel$Hall" "chair" "I") (List.mem_of_getElem? (i := 4) rfl)) (fun _ h9 => h9) rfl dX11_does_452 ?_
      obtain ⟨hy136, hp⟩ := hp
      refine va_iast hx hb hK hP hD hS 5 0 rfl rfl hy136 dX11_does_455 (fun H locs hP hD hS => ?_)
      rw [sA_15] at hP hD
      refine lv_aload_n hx hb dX11_does_456 rfl (lv_at hl 1 rfl) ?_
      refine va_get (D := G) (ci := 8) (v := .ref (g 31)) (C := RX11) (T := TX11) (N := 42) hx hb hts iX11 hown hK hP 0 rfl rfl 31 (by decide) (hw (.fieldLink RX11 72 "MotionFloorModel$Hall" "row" "[I") (List.mem_of_getElem? (i := 47) rfl)) (fun _ h9 => h9) rfl dX11_does_457 ?_
      refine lv_aload_n hx hb dX11_does_460 rfl (lv_at hl 1 rfl) ?_
      refine va_get (D := G) (ci := 8) (v := .int ((sA u134 15 r135.toNatClampNeg (u134.1 2)).1 6)) (C := RX11) (T := TX11) (N := 42) hx hb hts iX11 hown hK hP 0 rfl rfl 6 (by decide) (hw (.fieldLink RX11 115 "MotionFloorModel$Hall" "pending" "I") (List.mem_of_getElem? (i := 7) rfl)) (fun _ h9 => h9) rfl dX11_does_461 ?_
      refine lv_iload hx hb dX11_does_464 (lv_at hl 0 rfl) ?_
      obtain ⟨hy137, hp⟩ := hp
      refine va_iast hx hb hK hP hD hS 20 0 rfl rfl hy137 dX11_does_466 (fun H locs hP hD hS => ?_)
      rw [sA_31] at hP hD
      refine lv_aload_n hx hb dX11_does_467 rfl (lv_at hl 1 rfl) ?_
      refine lv_dup hx hb dX11_does_468 rfl ?_
      refine va_get (D := G) (ci := 8) (v := .int ((sA (sA u134 15 r135.toNatClampNeg (u134.1 2)) 31 ((sA u134 15 r135.toNatClampNeg (u134.1 2)).1 6).toNatClampNeg r135).1 6)) (C := RX11) (T := TX11) (N := 42) hx hb hts iX11 hown hK hP 0 rfl rfl 6 (by decide) (hw (.fieldLink RX11 115 "MotionFloorModel$Hall" "pending" "I") (List.mem_of_getElem? (i := 7) rfl)) (fun _ h9 => h9) rfl dX11_does_469 ?_
      refine lv_iconst (v := 1) hx hb dX11_does_472 (by decide) ?_
      refine lv_iadd hx hb dX11_does_473 ?_
      refine va_put (D := G) (ci := 8) (v := .int (((sA (sA u134 15 r135.toNatClampNeg (u134.1 2)) 31 ((sA u134 15 r135.toNatClampNeg (u134.1 2)).1 6).toNatClampNeg r135).1 6) + 1)) (ty := .int) (C := RX11) (T := TX11) (N := 42) hx hb hts iX11 tyX11 tyX11_ok nmX11 hown hK hP hD hS 0 rfl rfl 6 (by decide) (hw (.fieldLink RX11 115 "MotionFloorModel$Hall" "pending" "I") (List.mem_of_getElem? (i := 7) rfl)) (fun _ h9 => h9) rfl (by decide +kernel) rfl rfl (Nat.le_of_ble_eq_true rfl) dX11_does_474 (fun H locs hP hD hS => ?_)
      rw [sI_6] at hP hD
      refine lv_bipush (v := 9) hx hb dX11_does_477 (by decide) ?_
      subst hQ
      exact W.iret (v := 9) hx hb hr (fun t ht hW => ⟨⟨9, (sI (sA (sA u134 15 r135.toNatClampNeg (u134.1 2)) 31 ((sA u134 15 r135.toNatClampNeg (u134.1 2)).1 6).toNatClampNeg r135) 6 (((sA (sA u134 15 r135.toNatClampNeg (u134.1 2)) 31 ((sA u134 15 r135.toNatClampNeg (u134.1 2)).1 6).toNatClampNeg r135).1 6) + 1)), rfl, hE.trans hX.symm, by rw [ht]; exact hP, hD⟩, hS.F ht⟩) hS.2.2 dX11_does_479
    rw [if_neg s19] at hE hp
    have s19 := wNe (b := 19) rfl (by decide) s19
    by_cases s20 : x1 = 20
    · rw [if_pos s20] at hE hp
      refine lv_tableIn (off := 389) (tgt := 390) hx hb dX11_does_1 (by rw [s20]; decide) (by rw [s20]; decide) (by rw [s20]; decide) (by decide) ?_
      exact B_390 S x1 x2 x3 x4 x5 _ _ _ hE hp hP hD hS (lv_sub hl [0, 1, 2, 3, 4, 5] rfl)
    rw [if_neg s20] at hE hp
    have s20 := wNe (b := 20) rfl (by decide) s20
    by_cases s21 : x1 = 21
    · rw [if_pos s21] at hE hp
      refine lv_tableIn (off := 479) (tgt := 480) hx hb dX11_does_1 (by rw [s21]; decide) (by rw [s21]; decide) (by rw [s21]; decide) (by decide) ?_
      refine lv_aload_n hx hb dX11_does_480 rfl (lv_at hl 0 rfl) ?_
      obtain ⟨hy140, hp⟩ := hp
      refine hGoi (va_runV (As := []) (rest := []) ⟨hx, hb, hml, hown, hts⟩ (c_X11_told l G K h g S _) (cwV 0 hts (wGV t_ (mw (.methodLink RX11 230 yX11_told) (List.mem_of_getElem? (i := 48) rfl)) (mw (.instanceMethod yX11_told) (List.mem_of_getElem? (i := 49) rfl)) (mw (.selects RX11 yX11_told yX11_told) (List.mem_of_getElem? (i := 50) rfl)) (mw (.initialized RX11) (List.mem_of_getElem? (i := 12) rfl)) j_X11_told) rfl rfl rfl (by decide +kernel) ⟨Nat.le_of_ble_eq_true rfl, Nat.le_of_ble_eq_true rfl⟩) (hPV hK hTE hP hD hy140) rfl rfl hl.1 rfl (lv_room (Nat.le_of_ble_eq_true rfl)) dX11_does_481 ⟨Nat.le_of_ble_eq_true rfl, Nat.le_of_ble_eq_true rfl⟩) hP hD hS hA (fun r142 u141 H locs hv hP hD hS => ?_)
      rw [← hv] at hE hp
      dsimp only at hE hp
      unfold b_X11_does_a484 at hE
      unfold q_X11_does_a484 at hp
      subst hQ
      exact W.iret (v := r142) hx hb hr (fun t ht hW => ⟨⟨r142, u141, rfl, hE.trans hX.symm, by rw [ht]; exact hP, hD⟩, hS.F ht⟩) hS.2.2 dX11_does_484
    rw [if_neg s21] at hE hp
    have s21 := wNe (b := 21) rfl (by decide) s21
    refine lv_tableOut (tgt := 485) hx hb dX11_does_1 (by omega) (by decide) ?_
    refine lv_aload_n hx hb dX11_does_485 rfl (lv_at hl 0 rfl) ?_
    refine va_get (D := G) (ci := 8) (v := .int (S.1 6)) (C := RX11) (T := TX11) (N := 42) hx hb hts iX11 hown hK hP 0 rfl rfl 6 (by decide) (hw (.fieldLink RX11 115 "MotionFloorModel$Hall" "pending" "I") (List.mem_of_getElem? (i := 7) rfl)) (fun _ h9 => h9) rfl dX11_does_486 ?_
    refine lv_istore (lv' := [(6, .int (S.1 6)), (0, .ref h), (1, .int x1), (2, .int x2), (3, .int x3), (4, .int x4), (5, .int x5)]) hx hb dX11_does_489 hl (by decide) rfl (fun ls hl => ?_)
    exact L_491 100000 S x1 x2 x3 x4 x5 (S.1 6) _ _ _ hE hp hP hD hS (lv_sub hl [1, 2, 3, 4, 5, 6, 0] rfl)
  exact B_M S0 a1 a2 a3 a4 a5 _ _ _ hX hp hP hD hS hl
def b_X11_act_163 (S : HS) (x1 x2 x3 x4 x5 x6 x7 x8 x9 y0 y1 : Int32) : Int32 × HS := (x7, (sI (sA (sA S 40 y1.toNatClampNeg y0) 40 (x8 + 5).toNatClampNeg x7) 7 (((sA (sA S 40 y1.toNatClampNeg y0) 40 (x8 + 5).toNatClampNeg x7).1 7) + 1)))
def q_X11_act_163 (S : HS) (x1 x2 x3 x4 x5 x6 x7 x8 x9 y0 y1 : Int32) : Prop := (vp_in y1 3600) ∧ (vp_in (x8 + 5) 3600) ∧ True
def b_X11_act_142 (S : HS) (x1 x2 x3 x4 x5 x6 x7 x8 x9 y0 y1 : Int32) : Int32 × HS := if x9 ≤ 3 then (b_X11_act_163 (sA S 40 y1.toNatClampNeg y0) x1 x2 x3 x4 x5 x6 x7 x8 x9 0 (x8 + 4)) else (b_X11_act_163 (sA S 40 y1.toNatClampNeg y0) x1 x2 x3 x4 x5 x6 x7 x8 x9 x5 (x8 + 4))
def q_X11_act_142 (S : HS) (x1 x2 x3 x4 x5 x6 x7 x8 x9 y0 y1 : Int32) : Prop := (vp_in y1 3600) ∧ (if x9 ≤ 3 then (q_X11_act_163 (sA S 40 y1.toNatClampNeg y0) x1 x2 x3 x4 x5 x6 x7 x8 x9 0 (x8 + 4)) else (q_X11_act_163 (sA S 40 y1.toNatClampNeg y0) x1 x2 x3 x4 x5 x6 x7 x8 x9 x5 (x8 + 4)))
def b_X11_act_121 (S : HS) (x1 x2 x3 x4 x5 x6 x7 x8 x9 y0 y1 : Int32) : Int32 × HS := if x9 ≤ 2 then (b_X11_act_142 (sA S 40 y1.toNatClampNeg y0) x1 x2 x3 x4 x5 x6 x7 x8 x9 0 (x8 + 3)) else (b_X11_act_142 (sA S 40 y1.toNatClampNeg y0) x1 x2 x3 x4 x5 x6 x7 x8 x9 x4 (x8 + 3))
def q_X11_act_121 (S : HS) (x1 x2 x3 x4 x5 x6 x7 x8 x9 y0 y1 : Int32) : Prop := (vp_in y1 3600) ∧ (if x9 ≤ 2 then (q_X11_act_142 (sA S 40 y1.toNatClampNeg y0) x1 x2 x3 x4 x5 x6 x7 x8 x9 0 (x8 + 3)) else (q_X11_act_142 (sA S 40 y1.toNatClampNeg y0) x1 x2 x3 x4 x5 x6 x7 x8 x9 x4 (x8 + 3)))
def b_X11_act_101 (S : HS) (x1 x2 x3 x4 x5 x6 x7 x8 x9 y0 y1 : Int32) : Int32 × HS := if x9 ≤ 1 then (b_X11_act_121 (sA S 40 y1.toNatClampNeg y0) x1 x2 x3 x4 x5 x6 x7 x8 x9 0 (x8 + 2)) else (b_X11_act_121 (sA S 40 y1.toNatClampNeg y0) x1 x2 x3 x4 x5 x6 x7 x8 x9 x3 (x8 + 2))
def q_X11_act_101 (S : HS) (x1 x2 x3 x4 x5 x6 x7 x8 x9 y0 y1 : Int32) : Prop := (vp_in y1 3600) ∧ (if x9 ≤ 1 then (q_X11_act_121 (sA S 40 y1.toNatClampNeg y0) x1 x2 x3 x4 x5 x6 x7 x8 x9 0 (x8 + 2)) else (q_X11_act_121 (sA S 40 y1.toNatClampNeg y0) x1 x2 x3 x4 x5 x6 x7 x8 x9 x3 (x8 + 2)))
def b_X11_act_a58 (S : HS) (x1 x2 x3 x4 x5 x6 y0 : Int32) : Int32 × HS := if (f_X12_numbers x1) ≤ 0 then (b_X11_act_101 (sA S 40 (6 * (S.1 7)).toNatClampNeg x1) x1 x2 x3 x4 x5 x6 y0 (6 * (S.1 7)) (f_X12_numbers x1) 0 ((6 * (S.1 7)) + 1)) else (b_X11_act_101 (sA S 40 (6 * (S.1 7)).toNatClampNeg x1) x1 x2 x3 x4 x5 x6 y0 (6 * (S.1 7)) (f_X12_numbers x1) x2 ((6 * (S.1 7)) + 1))
def q_X11_act_a58 (S : HS) (x1 x2 x3 x4 x5 x6 y0 : Int32) : Prop := (p_X12_numbers x1) ∧ (vp_in (6 * (S.1 7)) 3600) ∧ (if (f_X12_numbers x1) ≤ 0 then (q_X11_act_101 (sA S 40 (6 * (S.1 7)).toNatClampNeg x1) x1 x2 x3 x4 x5 x6 y0 (6 * (S.1 7)) (f_X12_numbers x1) 0 ((6 * (S.1 7)) + 1)) else (q_X11_act_101 (sA S 40 (6 * (S.1 7)).toNatClampNeg x1) x1 x2 x3 x4 x5 x6 y0 (6 * (S.1 7)) (f_X12_numbers x1) x2 ((6 * (S.1 7)) + 1)))
def b_X11_act_32 (S : HS) (x1 x2 x3 x4 x5 x6 : Int32) : Int32 × HS := if x6 ≤ 0 then (b_X11_act_a58 (f_X11_does (sI S 10 x6) x1 x2 x3 x4 x5).2 x1 x2 x3 x4 x5 x6 (f_X11_does (sI S 10 x6) x1 x2 x3 x4 x5).1) else ((-x6), (sI S 10 x6))
def q_X11_act_32 (S : HS) (x1 x2 x3 x4 x5 x6 : Int32) : Prop := (if x6 ≤ 0 then (p_X11_does (sI S 10 x6) x1 x2 x3 x4 x5) ∧ (q_X11_act_a58 (f_X11_does (sI S 10 x6) x1 x2 x3 x4 x5).2 x1 x2 x3 x4 x5 x6 (f_X11_does (sI S 10 x6) x1 x2 x3 x4 x5).1) else True)
def b_X11_act_a11 (S : HS) (x1 x2 x3 x4 x5 y0 : Int32) : Int32 × HS := if y0 = 0 then if (S.1 7) = 600 then (b_X11_act_32 S x1 x2 x3 x4 x5 10) else (b_X11_act_32 S x1 x2 x3 x4 x5 y0) else (b_X11_act_32 S x1 x2 x3 x4 x5 y0)
def q_X11_act_a11 (S : HS) (x1 x2 x3 x4 x5 y0 : Int32) : Prop := (if y0 = 0 then (if (S.1 7) = 600 then (q_X11_act_32 S x1 x2 x3 x4 x5 10) else (q_X11_act_32 S x1 x2 x3 x4 x5 y0)) else (q_X11_act_32 S x1 x2 x3 x4 x5 y0))
def f_X11_act (S : HS) (x1 x2 x3 x4 x5 : Int32) : Int32 × HS := (b_X11_act_a11 (f_X11_reason S x1 x2 x3 x4 x5).2 x1 x2 x3 x4 x5 (f_X11_reason S x1 x2 x3 x4 x5).1)
def p_X11_act (S : HS) (x1 x2 x3 x4 x5 : Int32) : Prop := (p_X11_reason S x1 x2 x3 x4 x5) ∧ (q_X11_act_a11 (f_X11_reason S x1 x2 x3 x4 x5).2 x1 x2 x3 x4 x5 (f_X11_reason S x1 x2 x3 x4 x5).1)
def e_X11_act : List Cond := [.methodLink RX11 196 yX11_reason, .instanceMethod yX11_reason, .selects RX11 yX11_reason yX11_reason, .initialized RX11, .fieldLink RX11 127 "MotionFloorModel$Hall" "why" "I", .methodLink RX11 200 yX11_does, .instanceMethod yX11_does, .selects RX11 yX11_does yX11_does, .fieldLink RX11 118 "MotionFloorModel$Hall" "entries" "I", .initialized RX12, .static yX12_numbers, .fieldLink RX11 90 "MotionFloorModel$Hall" "minutes" "[I"]
def v_X11_act : List Cond := .code yX11_act cX11_act 10 (some .int) :: (e_X11_act ++ (wsX110 ++ (v_X11_reason ++ (v_X11_does ++ (v_X12_numbers ++ [])))))
theorem te_X11_act : GoodIn lw_tbl e_X11_act := wGc z205 (wGc z204 (wGc z203 (wGc z51 (wGc z202 (wGc z201 (wGc z200 (wGc z199 (wGc z164 (wGc z1 (wGc z198 (wGc z197 (wG0))))))))))))
theorem t_X11_act : GoodIn lw_tbl v_X11_act := wGc z206 (wGa te_X11_act (wGa zcX11 (wGa t_X11_reason (wGa t_X11_does (wGa t_X12_numbers (wG0))))))
set_option maxHeartbeats 4000000 in
set_option maxRecDepth 100000 in
theorem c_X11_act (l : Launch) (G : va_G) (K : Nat → ClassId) (h : Nat) (g : Nat → Nat) (S0 : HS) (a1 a2 a3 a4 a5 : Int32) (sz : Nat) : Met l yX11_act v_X11_act ({ frames := 5, cells := 0, slots := 0, locals := 127 }) (va_Pc [.ref h, .int a1, .int a2, .int a3, .int a4, .int a5] (hS G K h g sz S0 (p_X11_act S0 a1 a2 a3 a4 a5))) (va_Qi (fun (r : Int32) (u : HS) => (r, u) = f_X11_act S0 a1 a2 a3 a4 a5) (hB G K h g (va_A (hW K h g S0) sz)) (va_A (hW K h g S0) sz)) 0 0 (va_A (hW K h g S0) sz) := by
  refine Met.ofW (cc := cX11_act) (maxL := 10) (ret := (some .int)) (by decide) rfl ?_
  intro p e s m args below meth c s₁ B hml hv
  obtain ⟨rfl, ⟨hsz, hP, hK, hD0, hTE⟩, hp⟩ := hv
  have hx := B.exec
  have hb := B.bytes
  have hr := B.returns
  have hts := atoms_spec (ws := v_X11_act) B.pre
  have t_ := t_X11_act
  have mw : ∀ w ∈ e_X11_act, w ∈ v_X11_act := fun w h => List.mem_cons_of_mem _ (List.mem_append_left _ h)
  have hw := fun w (h : w ∈ e_X11_act) => hts w (mw w h)
  have iX11 : ∀ w ∈ wsX110, w ∈ v_X11_act := fun w h => List.mem_cons_of_mem _ (List.mem_append_right _ (List.mem_append_left _ h))
  have j_X11_reason : ∀ w ∈ v_X11_reason, w ∈ v_X11_act := fun w h => List.mem_cons_of_mem _ (List.mem_append_right _ (List.mem_append_right _ (List.mem_append_left _ h)))
  have j_X11_does : ∀ w ∈ v_X11_does, w ∈ v_X11_act := fun w h => List.mem_cons_of_mem _ (List.mem_append_right _ (List.mem_append_right _ (List.mem_append_right _ (List.mem_append_left _ h))))
  have j_X12_numbers : ∀ w ∈ v_X12_numbers, w ∈ v_X11_act := fun w h => List.mem_cons_of_mem _ (List.mem_append_right _ (List.mem_append_right _ (List.mem_append_right _ (List.mem_append_right _ (List.mem_append_left _ h)))))
  have hown : s.vm.findClass RX11 = some m.cls := findClass_of_methodNamed B.named
  have hlocks := B.notSynchronized
  subst hsz
  have hD := hD0.self (sz := s.heap.size)
  generalize hAe : va_A (hW K h g S0) s.heap.size = A at hD ⊢
  have hA : ∀ q : Nat, s.heap.size ≤ q → A q := fun q h => by rw [← hAe]; exact Or.inr h
  have hS : va_S A s.heap s.heap [] := va_S.rf
  have hl := lv_entry ([.ref h, .int a1, .int a2, .int a3, .int a4, .int a5]) (n := 10) (Nat.le_of_ble_eq_true rfl)
  rw [lg_entry_eq]
  generalize (lg_sl ([.ref h, .int a1, .int a2, .int a3, .int a4, .int a5]) ++ List.replicate (10 - (lg_sl ([.ref h, .int a1, .int a2, .int a3, .int a4, .int a5])).length) Slot.unset).toArray = ls at hl ⊢
  have hl : lv_has ls 10 [(0, .ref h), (1, .int a1), (2, .int a2), (3, .int a3), (4, .int a4), (5, .int a5)] := hl
  refine wGen (fun Q hQ => ?_)
  obtain ⟨X, hX⟩ : ∃ X, f_X11_act S0 a1 a2 a3 a4 a5 = X := ⟨_, rfl⟩
  have B_163 : ∀ (S : HS) (x1 x2 x3 x4 x5 x6 x7 x8 x9 y0 y1 : Int32) (H : Heap) (locs : List Loc) (ls : Array Slot), b_X11_act_163 S x1 x2 x3 x4 x5 x6 x7 x8 x9 y0 y1 = X → q_X11_act_163 S x1 x2 x3 x4 x5 x6 x7 x8 x9 y0 y1 → va_P G vwCl (hW K h g S) H → va_D A (hW K h g S) → va_S A s.heap H locs → lv_has ls 10 [(0, .ref h), (1, .int x1), (2, .int x2), (3, .int x3), (4, .int x4), (5, .int x5), (6, .int x6), (7, .int x7), (8, .int x8), (9, .int x9)] → W p l e ({ frames := 5, cells := 0, slots := 0, locals := 127 } : Room) s m #[Value.ref h, Value.int a1, Value.int a2, Value.int a3, Value.int a4, Value.int a5] below meth c H locs 0 0 Q (F0 m 163 ls [.int y0, .int y1, .ref (g 40)]) := by
    intro S x1 x2 x3 x4 x5 x6 x7 x8 x9 y0 y1 H locs ls hE hp hP hD hS hl
    unfold b_X11_act_163 at hE
    unfold q_X11_act_163 at hp
    obtain ⟨hy18, hp⟩ := hp
    refine va_iast hx hb hK hP hD hS 26 0 rfl rfl hy18 dX11_act_163 (fun H locs hP hD hS => ?_)
    rw [sA_40] at hP hD
    refine lv_aload_n hx hb dX11_act_164 rfl (lv_at hl 0 rfl) ?_
    refine va_get (D := G) (ci := 8) (v := .ref (g 40)) (C := RX11) (T := TX11) (N := 42) hx hb hts iX11 hown hK hP 0 rfl rfl 40 (by decide) (hw (.fieldLink RX11 90 "MotionFloorModel$Hall" "minutes" "[I") (List.mem_of_getElem? (i := 11) rfl)) (fun _ h9 => h9) rfl dX11_act_165 ?_
    refine lv_iload hx hb dX11_act_168 (lv_at hl 8 rfl) ?_
    refine lv_iconst (v := 5) hx hb dX11_act_170 (by decide) ?_
    refine lv_iadd hx hb dX11_act_171 ?_
    refine lv_iload hx hb dX11_act_172 (lv_at hl 7 rfl) ?_
    obtain ⟨hy19, hp⟩ := hp
    refine va_iast hx hb hK hP hD hS 26 0 rfl rfl hy19 dX11_act_174 (fun H locs hP hD hS => ?_)
    rw [sA_40] at hP hD
    refine lv_aload_n hx hb dX11_act_175 rfl (lv_at hl 0 rfl) ?_
    refine lv_dup hx hb dX11_act_176 rfl ?_
    refine va_get (D := G) (ci := 8) (v := .int ((sA (sA S 40 y1.toNatClampNeg y0) 40 (x8 + 5).toNatClampNeg x7).1 7)) (C := RX11) (T := TX11) (N := 42) hx hb hts iX11 hown hK hP 0 rfl rfl 7 (by decide) (hw (.fieldLink RX11 118 "MotionFloorModel$Hall" "entries" "I") (List.mem_of_getElem? (i := 8) rfl)) (fun _ h9 => h9) rfl dX11_act_177 ?_
    refine lv_iconst (v := 1) hx hb dX11_act_180 (by decide) ?_
    refine lv_iadd hx hb dX11_act_181 ?_
    refine va_put (D := G) (ci := 8) (v := .int (((sA (sA S 40 y1.toNatClampNeg y0) 40 (x8 + 5).toNatClampNeg x7).1 7) + 1)) (ty := .int) (C := RX11) (T := TX11) (N := 42) hx hb hts iX11 tyX11 tyX11_ok nmX11 hown hK hP hD hS 0 rfl rfl 7 (by decide) (hw (.fieldLink RX11 118 "MotionFloorModel$Hall" "entries" "I") (List.mem_of_getElem? (i := 8) rfl)) (fun _ h9 => h9) rfl (by decide +kernel) rfl rfl (Nat.le_of_ble_eq_true rfl) dX11_act_182 (fun H locs hP hD hS => ?_)
    rw [sI_7] at hP hD
    refine lv_iload hx hb dX11_act_185 (lv_at hl 7 rfl) ?_
    subst hQ
    exact W.iret (v := x7) hx hb hr (fun t ht hW => ⟨⟨x7, (sI (sA (sA S 40 y1.toNatClampNeg y0) 40 (x8 + 5).toNatClampNeg x7) 7 (((sA (sA S 40 y1.toNatClampNeg y0) 40 (x8 + 5).toNatClampNeg x7).1 7) + 1)), rfl, hE.trans hX.symm, by rw [ht]; exact hP, hD⟩, hS.F ht⟩) hS.2.2 dX11_act_187
  have B_142 : ∀ (S : HS) (x1 x2 x3 x4 x5 x6 x7 x8 x9 y0 y1 : Int32) (H : Heap) (locs : List Loc) (ls : Array Slot), b_X11_act_142 S x1 x2 x3 x4 x5 x6 x7 x8 x9 y0 y1 = X → q_X11_act_142 S x1 x2 x3 x4 x5 x6 x7 x8 x9 y0 y1 → va_P G vwCl (hW K h g S) H → va_D A (hW K h g S) → va_S A s.heap H locs → lv_has ls 10 [(0, .ref h), (1, .int x1), (2, .int x2), (3, .int x3), (4, .int x4), (5, .int x5), (6, .int x6), (7, .int x7), (8, .int x8), (9, .int x9)] → W p l e ({ frames := 5, cells := 0, slots := 0, locals := 127 } : Room) s m #[Value.ref h, Value.int a1, Value.int a2, Value.int a3, Value.int a4, Value.int a5] below meth c H locs 0 0 Q (F0 m 142 ls [.int y0, .int y1, .ref (g 40)]) := by
    intro S x1 x2 x3 x4 x5 x6 x7 x8 x9 y0 y1 H locs ls hE hp hP hD hS hl
    unfold b_X11_act_142 at hE
    unfold q_X11_act_142 at hp
    obtain ⟨hy16, hp⟩ := hp
    refine va_iast hx hb hK hP hD hS 26 0 rfl rfl hy16 dX11_act_142 (fun H locs hP hD hS => ?_)
    rw [sA_40] at hP hD
    refine lv_aload_n hx hb dX11_act_143 rfl (lv_at hl 0 rfl) ?_
    refine va_get (D := G) (ci := 8) (v := .ref (g 40)) (C := RX11) (T := TX11) (N := 42) hx hb hts iX11 hown hK hP 0 rfl rfl 40 (by decide) (hw (.fieldLink RX11 90 "MotionFloorModel$Hall" "minutes" "[I") (List.mem_of_getElem? (i := 11) rfl)) (fun _ h9 => h9) rfl dX11_act_144 ?_
    refine lv_iload hx hb dX11_act_147 (lv_at hl 8 rfl) ?_
    refine lv_iconst (v := 4) hx hb dX11_act_149 (by decide) ?_
    refine lv_iadd hx hb dX11_act_150 ?_
    refine lv_iload hx hb dX11_act_151 (lv_at hl 9 rfl) ?_
    refine lv_iconst (v := 3) hx hb dX11_act_153 (by decide) ?_
    refine lv_icmp_le (tgt := 162) hx hb dX11_act_154 (by decide) (fun c17 => ?_) (fun c17 => ?_)
    · rw [if_pos c17] at hE hp
      refine lv_iconst (v := 0) hx hb dX11_act_162 (by decide) ?_
      exact B_163 (sA S 40 y1.toNatClampNeg y0) x1 x2 x3 x4 x5 x6 x7 x8 x9 0 (x8 + 4) _ _ _ hE hp hP hD hS (lv_sub hl [0, 1, 2, 3, 4, 5, 6, 7, 8, 9] rfl)
    · rw [if_neg c17] at hE hp
      refine lv_iload hx hb dX11_act_157 (lv_at hl 5 rfl) ?_
      refine lv_goto (tgt := 163) hx hb dX11_act_159 (by decide) ?_
      exact B_163 (sA S 40 y1.toNatClampNeg y0) x1 x2 x3 x4 x5 x6 x7 x8 x9 x5 (x8 + 4) _ _ _ hE hp hP hD hS (lv_sub hl [0, 1, 2, 3, 4, 5, 6, 7, 8, 9] rfl)
  have B_121 : ∀ (S : HS) (x1 x2 x3 x4 x5 x6 x7 x8 x9 y0 y1 : Int32) (H : Heap) (locs : List Loc) (ls : Array Slot), b_X11_act_121 S x1 x2 x3 x4 x5 x6 x7 x8 x9 y0 y1 = X → q_X11_act_121 S x1 x2 x3 x4 x5 x6 x7 x8 x9 y0 y1 → va_P G vwCl (hW K h g S) H → va_D A (hW K h g S) → va_S A s.heap H locs → lv_has ls 10 [(0, .ref h), (1, .int x1), (2, .int x2), (3, .int x3), (4, .int x4), (5, .int x5), (6, .int x6), (7, .int x7), (8, .int x8), (9, .int x9)] → W p l e ({ frames := 5, cells := 0, slots := 0, locals := 127 } : Room) s m #[Value.ref h, Value.int a1, Value.int a2, Value.int a3, Value.int a4, Value.int a5] below meth c H locs 0 0 Q (F0 m 121 ls [.int y0, .int y1, .ref (g 40)]) := by
    intro S x1 x2 x3 x4 x5 x6 x7 x8 x9 y0 y1 H locs ls hE hp hP hD hS hl
    unfold b_X11_act_121 at hE
    unfold q_X11_act_121 at hp
    obtain ⟨hy14, hp⟩ := hp
    refine va_iast hx hb hK hP hD hS 26 0 rfl rfl hy14 dX11_act_121 (fun H locs hP hD hS => ?_)
    rw [sA_40] at hP hD
    refine lv_aload_n hx hb dX11_act_122 rfl (lv_at hl 0 rfl) ?_
    refine va_get (D := G) (ci := 8) (v := .ref (g 40)) (C := RX11) (T := TX11) (N := 42) hx hb hts iX11 hown hK hP 0 rfl rfl 40 (by decide) (hw (.fieldLink RX11 90 "MotionFloorModel$Hall" "minutes" "[I") (List.mem_of_getElem? (i := 11) rfl)) (fun _ h9 => h9) rfl dX11_act_123 ?_
    refine lv_iload hx hb dX11_act_126 (lv_at hl 8 rfl) ?_
    refine lv_iconst (v := 3) hx hb dX11_act_128 (by decide) ?_
    refine lv_iadd hx hb dX11_act_129 ?_
    refine lv_iload hx hb dX11_act_130 (lv_at hl 9 rfl) ?_
    refine lv_iconst (v := 2) hx hb dX11_act_132 (by decide) ?_
    refine lv_icmp_le (tgt := 141) hx hb dX11_act_133 (by decide) (fun c15 => ?_) (fun c15 => ?_)
    · rw [if_pos c15] at hE hp
      refine lv_iconst (v := 0) hx hb dX11_act_141 (by decide) ?_
      exact B_142 (sA S 40 y1.toNatClampNeg y0) x1 x2 x3 x4 x5 x6 x7 x8 x9 0 (x8 + 3) _ _ _ hE hp hP hD hS (lv_sub hl [0, 1, 2, 3, 4, 5, 6, 7, 8, 9] rfl)
    · rw [if_neg c15] at hE hp
      refine lv_iload hx hb dX11_act_136 (lv_at hl 4 rfl) ?_
      refine lv_goto (tgt := 142) hx hb dX11_act_138 (by decide) ?_
      exact B_142 (sA S 40 y1.toNatClampNeg y0) x1 x2 x3 x4 x5 x6 x7 x8 x9 x4 (x8 + 3) _ _ _ hE hp hP hD hS (lv_sub hl [0, 1, 2, 3, 4, 5, 6, 7, 8, 9] rfl)
  have B_101 : ∀ (S : HS) (x1 x2 x3 x4 x5 x6 x7 x8 x9 y0 y1 : Int32) (H : Heap) (locs : List Loc) (ls : Array Slot), b_X11_act_101 S x1 x2 x3 x4 x5 x6 x7 x8 x9 y0 y1 = X → q_X11_act_101 S x1 x2 x3 x4 x5 x6 x7 x8 x9 y0 y1 → va_P G vwCl (hW K h g S) H → va_D A (hW K h g S) → va_S A s.heap H locs → lv_has ls 10 [(0, .ref h), (1, .int x1), (2, .int x2), (3, .int x3), (4, .int x4), (5, .int x5), (6, .int x6), (7, .int x7), (8, .int x8), (9, .int x9)] → W p l e ({ frames := 5, cells := 0, slots := 0, locals := 127 } : Room) s m #[Value.ref h, Value.int a1, Value.int a2, Value.int a3, Value.int a4, Value.int a5] below meth c H locs 0 0 Q (F0 m 101 ls [.int y0, .int y1, .ref (g 40)]) := by
    intro S x1 x2 x3 x4 x5 x6 x7 x8 x9 y0 y1 H locs ls hE hp hP hD hS hl
    unfold b_X11_act_101 at hE
    unfold q_X11_act_101 at hp
    obtain ⟨hy12, hp⟩ := hp
    refine va_iast hx hb hK hP hD hS 26 0 rfl rfl hy12 dX11_act_101 (fun H locs hP hD hS => ?_)
    rw [sA_40] at hP hD
    refine lv_aload_n hx hb dX11_act_102 rfl (lv_at hl 0 rfl) ?_
    refine va_get (D := G) (ci := 8) (v := .ref (g 40)) (C := RX11) (T := TX11) (N := 42) hx hb hts iX11 hown hK hP 0 rfl rfl 40 (by decide) (hw (.fieldLink RX11 90 "MotionFloorModel$Hall" "minutes" "[I") (List.mem_of_getElem? (i := 11) rfl)) (fun _ h9 => h9) rfl dX11_act_103 ?_
    refine lv_iload hx hb dX11_act_106 (lv_at hl 8 rfl) ?_
    refine lv_iconst (v := 2) hx hb dX11_act_108 (by decide) ?_
    refine lv_iadd hx hb dX11_act_109 ?_
    refine lv_iload hx hb dX11_act_110 (lv_at hl 9 rfl) ?_
    refine lv_iconst (v := 1) hx hb dX11_act_112 (by decide) ?_
    refine lv_icmp_le (tgt := 120) hx hb dX11_act_113 (by decide) (fun c13 => ?_) (fun c13 => ?_)
    · rw [if_pos c13] at hE hp
      refine lv_iconst (v := 0) hx hb dX11_act_120 (by decide) ?_
      exact B_121 (sA S 40 y1.toNatClampNeg y0) x1 x2 x3 x4 x5 x6 x7 x8 x9 0 (x8 + 2) _ _ _ hE hp hP hD hS (lv_sub hl [0, 1, 2, 3, 4, 5, 6, 7, 8, 9] rfl)
    · rw [if_neg c13] at hE hp
      refine lv_iload_n hx hb dX11_act_116 rfl (lv_at hl 3 rfl) ?_
      refine lv_goto (tgt := 121) hx hb dX11_act_117 (by decide) ?_
      exact B_121 (sA S 40 y1.toNatClampNeg y0) x1 x2 x3 x4 x5 x6 x7 x8 x9 x3 (x8 + 2) _ _ _ hE hp hP hD hS (lv_sub hl [0, 1, 2, 3, 4, 5, 6, 7, 8, 9] rfl)
  have B_32 : ∀ (S : HS) (x1 x2 x3 x4 x5 x6 : Int32) (H : Heap) (locs : List Loc) (ls : Array Slot), b_X11_act_32 S x1 x2 x3 x4 x5 x6 = X → q_X11_act_32 S x1 x2 x3 x4 x5 x6 → va_P G vwCl (hW K h g S) H → va_D A (hW K h g S) → va_S A s.heap H locs → lv_has ls 10 [(0, .ref h), (1, .int x1), (2, .int x2), (3, .int x3), (4, .int x4), (5, .int x5), (6, .int x6)] → W p l e ({ frames := 5, cells := 0, slots := 0, locals := 127 } : Room) s m #[Value.ref h, Value.int a1, Value.int a2, Value.int a3, Value.int a4, Value.int a5] below meth c H locs 0 0 Q (F0 m 32 ls []) := by
    intro S x1 x2 x3 x4 x5 x6 H locs ls hE hp hP hD hS hl
    unfold b_X11_act_32 at hE
    unfold q_X11_act_32 at hp
    refine lv_aload_n hx hb dX11_act_32 rfl (lv_at hl 0 rfl) ?_
    refine lv_iload hx hb dX11_act_33 (lv_at hl 6 rfl) ?_
    refine va_put (D := G) (ci := 8) (v := .int x6) (ty := .int) (C := RX11) (T := TX11) (N := 42) hx hb hts iX11 tyX11 tyX11_ok nmX11 hown hK hP hD hS 0 rfl rfl 10 (by decide) (hw (.fieldLink RX11 127 "MotionFloorModel$Hall" "why" "I") (List.mem_of_getElem? (i := 4) rfl)) (fun _ h9 => h9) rfl (by decide +kernel) rfl rfl (Nat.le_of_ble_eq_true rfl) dX11_act_35 (fun H locs hP hD hS => ?_)
    rw [sI_10] at hP hD
    refine lv_iload hx hb dX11_act_38 (lv_at hl 6 rfl) ?_
    refine lv_if_le (tgt := 47) hx hb dX11_act_40 (by decide) (fun c5 => ?_) (fun c5 => ?_)
    · rw [if_pos c5] at hE hp
      refine lv_aload_n hx hb dX11_act_47 rfl (lv_at hl 0 rfl) ?_
      refine lv_iload_n hx hb dX11_act_48 rfl (lv_at hl 1 rfl) ?_
      refine lv_iload_n hx hb dX11_act_49 rfl (lv_at hl 2 rfl) ?_
      refine lv_iload_n hx hb dX11_act_50 rfl (lv_at hl 3 rfl) ?_
      refine lv_iload hx hb dX11_act_51 (lv_at hl 4 rfl) ?_
      refine lv_iload hx hb dX11_act_53 (lv_at hl 5 rfl) ?_
      obtain ⟨hy6, hp⟩ := hp
      refine hGoi (va_runV (As := [.int x1, .int x2, .int x3, .int x4, .int x5]) (rest := []) ⟨hx, hb, hml, hown, hts⟩ (c_X11_does l G K h g (sI S 10 x6) x1 x2 x3 x4 x5 _) (cwV 5 hts (wGV t_ (mw (.methodLink RX11 200 yX11_does) (List.mem_of_getElem? (i := 5) rfl)) (mw (.instanceMethod yX11_does) (List.mem_of_getElem? (i := 6) rfl)) (mw (.selects RX11 yX11_does yX11_does) (List.mem_of_getElem? (i := 7) rfl)) (mw (.initialized RX11) (List.mem_of_getElem? (i := 3) rfl)) j_X11_does) rfl rfl rfl (by decide +kernel) ⟨Nat.le_of_ble_eq_true rfl, Nat.le_of_ble_eq_true rfl⟩) (hPV hK hTE hP hD hy6) rfl rfl hl.1 rfl (lv_room (Nat.le_of_ble_eq_true rfl)) dX11_act_55 ⟨Nat.le_of_ble_eq_true rfl, Nat.le_of_ble_eq_true rfl⟩) hP hD hS hA (fun r8 u7 H locs hv hP hD hS => ?_)
      rw [← hv] at hE hp
      dsimp only at hE hp
      unfold b_X11_act_a58 at hE
      unfold q_X11_act_a58 at hp
      refine lv_istore (lv' := [(7, .int r8), (0, .ref h), (1, .int x1), (2, .int x2), (3, .int x3), (4, .int x4), (5, .int x5), (6, .int x6)]) hx hb dX11_act_58 hl (by decide) rfl (fun ls hl => ?_)
      refine lv_bipush (v := 6) hx hb dX11_act_60 (by decide) ?_
      refine lv_aload_n hx hb dX11_act_62 rfl (lv_at hl 1 rfl) ?_
      refine va_get (D := G) (ci := 8) (v := .int (u7.1 7)) (C := RX11) (T := TX11) (N := 42) hx hb hts iX11 hown hK hP 0 rfl rfl 7 (by decide) (hw (.fieldLink RX11 118 "MotionFloorModel$Hall" "entries" "I") (List.mem_of_getElem? (i := 8) rfl)) (fun _ h9 => h9) rfl dX11_act_63 ?_
      refine lv_imul hx hb dX11_act_66 ?_
      refine lv_istore (lv' := [(8, .int (6 * (u7.1 7))), (7, .int r8), (0, .ref h), (1, .int x1), (2, .int x2), (3, .int x3), (4, .int x4), (5, .int x5), (6, .int x6)]) hx hb dX11_act_67 hl (by decide) rfl (fun ls hl => ?_)
      refine lv_iload_n hx hb dX11_act_69 rfl (lv_at hl 3 rfl) ?_
      obtain ⟨hy9, hp⟩ := hp
      refine nGoi (va_runSN (As := [.int x1]) (rest := []) ⟨hx, hb, hml, hown, hts⟩ (c_X12_numbers l G K x1 _) ⟨va_cnB (host := "MotionFloorModel") 1 hts (wGP t_ j_X12_numbers) rfl rfl rfl hTE.2.2.2.2.2.2.2.2.2.2 (hw (.initialized RX12) (List.mem_of_getElem? (i := 9) rfl)) (by decide +kernel) ⟨Nat.le_of_ble_eq_true rfl, Nat.le_of_ble_eq_true rfl⟩, (hw (.static yX12_numbers) (List.mem_of_getElem? (i := 10) rfl)), trivial⟩ (nPS hK hTE hy9) rfl rfl hl.1 rfl (lv_room (Nat.le_of_ble_eq_true rfl)) dX11_act_70 ⟨Nat.le_of_ble_eq_true rfl, Nat.le_of_ble_eq_true rfl⟩) hP hS hA (fun r H locs hv hP hS => ?_)
      subst hv
      refine lv_istore (lv' := [(9, .int (f_X12_numbers x1)), (8, .int (6 * (u7.1 7))), (7, .int r8), (0, .ref h), (1, .int x1), (2, .int x2), (3, .int x3), (4, .int x4), (5, .int x5), (6, .int x6)]) hx hb dX11_act_73 hl (by decide) rfl (fun ls hl => ?_)
      refine lv_aload_n hx hb dX11_act_75 rfl (lv_at hl 3 rfl) ?_
      refine va_get (D := G) (ci := 8) (v := .ref (g 40)) (C := RX11) (T := TX11) (N := 42) hx hb hts iX11 hown hK hP 0 rfl rfl 40 (by decide) (hw (.fieldLink RX11 90 "MotionFloorModel$Hall" "minutes" "[I") (List.mem_of_getElem? (i := 11) rfl)) (fun _ h9 => h9) rfl dX11_act_76 ?_
      refine lv_iload hx hb dX11_act_79 (lv_at hl 1 rfl) ?_
      refine lv_iload_n hx hb dX11_act_81 rfl (lv_at hl 4 rfl) ?_
      obtain ⟨hy10, hp⟩ := hp
      refine va_iast hx hb hK hP hD hS 26 0 rfl rfl hy10 dX11_act_82 (fun H locs hP hD hS => ?_)
      rw [sA_40] at hP hD
      refine lv_aload_n hx hb dX11_act_83 rfl (lv_at hl 3 rfl) ?_
      refine va_get (D := G) (ci := 8) (v := .ref (g 40)) (C := RX11) (T := TX11) (N := 42) hx hb hts iX11 hown hK hP 0 rfl rfl 40 (by decide) (hw (.fieldLink RX11 90 "MotionFloorModel$Hall" "minutes" "[I") (List.mem_of_getElem? (i := 11) rfl)) (fun _ h9 => h9) rfl dX11_act_84 ?_
      refine lv_iload hx hb dX11_act_87 (lv_at hl 1 rfl) ?_
      refine lv_iconst (v := 1) hx hb dX11_act_89 (by decide) ?_
      refine lv_iadd hx hb dX11_act_90 ?_
      refine lv_iload hx hb dX11_act_91 (lv_at hl 0 rfl) ?_
      refine lv_if_le (tgt := 100) hx hb dX11_act_93 (by decide) (fun c11 => ?_) (fun c11 => ?_)
      · rw [if_pos c11] at hE hp
        refine lv_iconst (v := 0) hx hb dX11_act_100 (by decide) ?_
        exact B_101 (sA u7 40 (6 * (u7.1 7)).toNatClampNeg x1) x1 x2 x3 x4 x5 x6 r8 (6 * (u7.1 7)) (f_X12_numbers x1) 0 ((6 * (u7.1 7)) + 1) _ _ _ hE hp hP hD hS (lv_sub hl [3, 4, 5, 6, 7, 8, 9, 2, 1, 0] rfl)
      · rw [if_neg c11] at hE hp
        refine lv_iload_n hx hb dX11_act_96 rfl (lv_at hl 5 rfl) ?_
        refine lv_goto (tgt := 101) hx hb dX11_act_97 (by decide) ?_
        exact B_101 (sA u7 40 (6 * (u7.1 7)).toNatClampNeg x1) x1 x2 x3 x4 x5 x6 r8 (6 * (u7.1 7)) (f_X12_numbers x1) x2 ((6 * (u7.1 7)) + 1) _ _ _ hE hp hP hD hS (lv_sub hl [3, 4, 5, 6, 7, 8, 9, 2, 1, 0] rfl)
    · rw [if_neg c5] at hE hp
      refine lv_iload hx hb dX11_act_43 (lv_at hl 6 rfl) ?_
      refine lv_ineg hx hb dX11_act_45 ?_
      subst hQ
      exact W.iret (v := (-x6)) hx hb hr (fun t ht hW => ⟨⟨(-x6), (sI S 10 x6), rfl, hE.trans hX.symm, by rw [ht]; exact hP, hD⟩, hS.F ht⟩) hS.2.2 dX11_act_46
  have B_M : ∀ (S : HS) (x1 x2 x3 x4 x5 : Int32) (H : Heap) (locs : List Loc) (ls : Array Slot), f_X11_act S x1 x2 x3 x4 x5 = X → p_X11_act S x1 x2 x3 x4 x5 → va_P G vwCl (hW K h g S) H → va_D A (hW K h g S) → va_S A s.heap H locs → lv_has ls 10 [(0, .ref h), (1, .int x1), (2, .int x2), (3, .int x3), (4, .int x4), (5, .int x5)] → W p l e ({ frames := 5, cells := 0, slots := 0, locals := 127 } : Room) s m #[Value.ref h, Value.int a1, Value.int a2, Value.int a3, Value.int a4, Value.int a5] below meth c H locs 0 0 Q (F0 m 0 ls []) := by
    intro S x1 x2 x3 x4 x5 H locs ls hE hp hP hD hS hl
    unfold f_X11_act at hE
    unfold p_X11_act at hp
    refine lv_aload_n hx hb dX11_act_0 rfl (lv_at hl 0 rfl) ?_
    refine lv_iload_n hx hb dX11_act_1 rfl (lv_at hl 1 rfl) ?_
    refine lv_iload_n hx hb dX11_act_2 rfl (lv_at hl 2 rfl) ?_
    refine lv_iload_n hx hb dX11_act_3 rfl (lv_at hl 3 rfl) ?_
    refine lv_iload hx hb dX11_act_4 (lv_at hl 4 rfl) ?_
    refine lv_iload hx hb dX11_act_6 (lv_at hl 5 rfl) ?_
    obtain ⟨hy1, hp⟩ := hp
    refine hGoi (va_runV (As := [.int x1, .int x2, .int x3, .int x4, .int x5]) (rest := []) ⟨hx, hb, hml, hown, hts⟩ (c_X11_reason l G K h g S x1 x2 x3 x4 x5 _) (cwV 5 hts (wGV t_ (mw (.methodLink RX11 196 yX11_reason) (List.mem_of_getElem? (i := 0) rfl)) (mw (.instanceMethod yX11_reason) (List.mem_of_getElem? (i := 1) rfl)) (mw (.selects RX11 yX11_reason yX11_reason) (List.mem_of_getElem? (i := 2) rfl)) (mw (.initialized RX11) (List.mem_of_getElem? (i := 3) rfl)) j_X11_reason) rfl rfl rfl (by decide +kernel) ⟨Nat.le_of_ble_eq_true rfl, Nat.le_of_ble_eq_true rfl⟩) (hPV hK hTE hP hD hy1) rfl rfl hl.1 rfl (lv_room (Nat.le_of_ble_eq_true rfl)) dX11_act_8 ⟨Nat.le_of_ble_eq_true rfl, Nat.le_of_ble_eq_true rfl⟩) hP hD hS hA (fun r3 u2 H locs hv hP hD hS => ?_)
    rw [← hv] at hE hp
    dsimp only at hE hp
    unfold b_X11_act_a11 at hE
    unfold q_X11_act_a11 at hp
    refine lv_istore (lv' := [(6, .int r3), (0, .ref h), (1, .int x1), (2, .int x2), (3, .int x3), (4, .int x4), (5, .int x5)]) hx hb dX11_act_11 hl (by decide) rfl (fun ls hl => ?_)
    refine lv_iload hx hb dX11_act_13 (lv_at hl 0 rfl) ?_
    refine lv_if_ne (tgt := 32) hx hb dX11_act_15 (by decide) (fun c4 => ?_) (fun c4 => ?_)
    · rw [if_neg c4] at hE hp
      exact B_32 u2 x1 x2 x3 x4 x5 r3 _ _ _ hE hp hP hD hS (lv_sub hl [1, 2, 3, 4, 5, 6, 0] rfl)
    · rw [if_pos c4] at hE hp
      refine lv_aload_n hx hb dX11_act_18 rfl (lv_at hl 1 rfl) ?_
      refine va_get (D := G) (ci := 8) (v := .int (u2.1 7)) (C := RX11) (T := TX11) (N := 42) hx hb hts iX11 hown hK hP 0 rfl rfl 7 (by decide) (hw (.fieldLink RX11 118 "MotionFloorModel$Hall" "entries" "I") (List.mem_of_getElem? (i := 8) rfl)) (fun _ h9 => h9) rfl dX11_act_19 ?_
      refine lv_sipush (v := 600) hx hb dX11_act_22 (by decide) ?_
      refine lv_icmp_ne (tgt := 32) hx hb dX11_act_25 (by decide) (fun c23 => ?_) (fun c23 => ?_)
      · rw [if_neg c23] at hE hp
        exact B_32 u2 x1 x2 x3 x4 x5 r3 _ _ _ hE hp hP hD hS (lv_sub hl [1, 2, 3, 4, 5, 6, 0] rfl)
      · rw [if_pos c23] at hE hp
        refine lv_bipush (v := 10) hx hb dX11_act_28 (by decide) ?_
        refine lv_istore (lv' := [(6, .int 10), (0, .ref h), (1, .int x1), (2, .int x2), (3, .int x3), (4, .int x4), (5, .int x5)]) hx hb dX11_act_30 hl (by decide) rfl (fun ls hl => ?_)
        exact B_32 u2 x1 x2 x3 x4 x5 10 _ _ _ hE hp hP hD hS (lv_sub hl [1, 2, 3, 4, 5, 6, 0] rfl)
  exact B_M S0 a1 a2 a3 a4 a5 _ _ _ hX hp hP hD hS hl
def b_X11_text_125 (S : HS) (x1 x2 x3 y0 : Int32) : Int32 × HS := (y0, S)
def q_X11_text_125 (S : HS) (x1 x2 x3 y0 : Int32) : Prop := True
def b_X11_text_124 (S : HS) (x1 x2 x3 : Int32) : Int32 × HS := (b_X11_text_125 S x1 x2 x3 (-1))
def q_X11_text_124 (S : HS) (x1 x2 x3 : Int32) : Prop := (q_X11_text_125 S x1 x2 x3 (-1))
def b_X11_text_87 (S : HS) (x1 x2 y0 : Int32) : Int32 × HS := if y0 = (-1) then (b_X11_text_124 S x1 x2 y0) else if (f_X12_in x2 0 ((S.2 19 y0.toNatClampNeg) - 1)) = 0 then (b_X11_text_124 S x1 x2 y0) else (b_X11_text_125 S x1 x2 y0 (S.2 28 ((400 * y0) + x2).toNatClampNeg))
def q_X11_text_87 (S : HS) (x1 x2 y0 : Int32) : Prop := (if y0 = (-1) then (q_X11_text_124 S x1 x2 y0) else (vp_in y0 90) ∧ (p_X12_in x2 0 ((S.2 19 y0.toNatClampNeg) - 1)) ∧ (if (f_X12_in x2 0 ((S.2 19 y0.toNatClampNeg) - 1)) = 0 then (q_X11_text_124 S x1 x2 y0) else (vp_in ((400 * y0) + x2) 36000) ∧ (q_X11_text_125 S x1 x2 y0 (S.2 28 ((400 * y0) + x2).toNatClampNeg))))
def b_X11_text_59 (S : HS) (x1 x2 : Int32) : Int32 × HS := (b_X11_text_87 S x1 x2 (-1))
def q_X11_text_59 (S : HS) (x1 x2 : Int32) : Prop := (q_X11_text_87 S x1 x2 (-1))
def b_X11_text_29 (S : HS) (x1 x2 y0 : Int32) : Int32 × HS := (y0, S)
def q_X11_text_29 (S : HS) (x1 x2 y0 : Int32) : Prop := True
def f_X11_text (S : HS) (x1 x2 : Int32) : Int32 × HS := if x1 = (-1) then if (f_X12_in x2 0 ((S.1 39) - 1)) = 0 then (b_X11_text_29 S x1 x2 (-1)) else (b_X11_text_29 S x1 x2 (S.2 38 x2.toNatClampNeg)) else if x1 = 9 then if (S.1 35) ≤ 0 then (b_X11_text_59 S x1 x2) else if (S.1 36) = 0 then (b_X11_text_87 S x1 x2 (S.2 32 (0 : Int32).toNatClampNeg)) else (b_X11_text_59 S x1 x2) else if (f_X12_in x1 0 ((S.1 6) - 1)) = 0 then (b_X11_text_87 S x1 x2 (-1)) else (b_X11_text_87 S x1 x2 (S.2 31 x1.toNatClampNeg))
def p_X11_text (S : HS) (x1 x2 : Int32) : Prop := (if x1 = (-1) then (p_X12_in x2 0 ((S.1 39) - 1)) ∧ (if (f_X12_in x2 0 ((S.1 39) - 1)) = 0 then (q_X11_text_29 S x1 x2 (-1)) else (vp_in x2 400) ∧ (q_X11_text_29 S x1 x2 (S.2 38 x2.toNatClampNeg))) else (if x1 = 9 then (if (S.1 35) ≤ 0 then (q_X11_text_59 S x1 x2) else (if (S.1 36) = 0 then (vp_in 0 9) ∧ (q_X11_text_87 S x1 x2 (S.2 32 (0 : Int32).toNatClampNeg)) else (q_X11_text_59 S x1 x2))) else (p_X12_in x1 0 ((S.1 6) - 1)) ∧ (if (f_X12_in x1 0 ((S.1 6) - 1)) = 0 then (q_X11_text_87 S x1 x2 (-1)) else (vp_in x1 9) ∧ (q_X11_text_87 S x1 x2 (S.2 31 x1.toNatClampNeg)))))
def e_X11_text : List Cond := [.fieldLink RX11 115 "MotionFloorModel$Hall" "pending" "I", .initialized RX12, .static yX12_in, .fieldLink RX11 37 "MotionFloorModel$Hall" "words" "[I", .fieldLink RX11 65 "MotionFloorModel$Hall" "text" "[I", .fieldLink RX11 72 "MotionFloorModel$Hall" "row" "[I", .fieldLink RX11 130 "MotionFloorModel$Hall" "drafted" "I", .fieldLink RX11 151 "MotionFloorModel$Hall" "draftTabled" "Z", .fieldLink RX11 75 "MotionFloorModel$Hall" "draft" "[I", .fieldLink RX11 133 "MotionFloorModel$Hall" "lastWords" "I", .fieldLink RX11 87 "MotionFloorModel$Hall" "last" "[I"]
def v_X11_text : List Cond := .code yX11_text cX11_text 4 (some .int) :: (e_X11_text ++ (wsX110 ++ (v_X12_in ++ [])))
theorem te_X11_text : GoodIn lw_tbl e_X11_text := wGc z56 (wGc z1 (wGc z2 (wGc z76 (wGc z137 (wGc z57 (wGc z86 (wGc z85 (wGc z84 (wGc z158 (wGc z154 (wG0)))))))))))
theorem t_X11_text : GoodIn lw_tbl v_X11_text := wGc z207 (wGa te_X11_text (wGa zcX11 (wGa t_X12_in (wG0))))
set_option maxHeartbeats 4000000 in
set_option maxRecDepth 100000 in
theorem c_X11_text (l : Launch) (G : va_G) (K : Nat → ClassId) (h : Nat) (g : Nat → Nat) (S0 : HS) (a1 a2 : Int32) (sz : Nat) : Met l yX11_text v_X11_text ({ frames := 1, cells := 0, slots := 0, locals := 22 }) (va_Pc [.ref h, .int a1, .int a2] (hS G K h g sz S0 (p_X11_text S0 a1 a2))) (va_Qi (fun (r : Int32) (u : HS) => (r, u) = f_X11_text S0 a1 a2) (hB G K h g (va_A (hW K h g S0) sz)) (va_A (hW K h g S0) sz)) 0 0 (va_A (hW K h g S0) sz) := by
  refine Met.ofW (cc := cX11_text) (maxL := 4) (ret := (some .int)) (by decide) rfl ?_
  intro p e s m args below meth c s₁ B hml hv
  obtain ⟨rfl, ⟨hsz, hP, hK, hD0, hTE⟩, hp⟩ := hv
  have hx := B.exec
  have hb := B.bytes
  have hr := B.returns
  have hts := atoms_spec (ws := v_X11_text) B.pre
  have t_ := t_X11_text
  have mw : ∀ w ∈ e_X11_text, w ∈ v_X11_text := fun w h => List.mem_cons_of_mem _ (List.mem_append_left _ h)
  have hw := fun w (h : w ∈ e_X11_text) => hts w (mw w h)
  have iX11 : ∀ w ∈ wsX110, w ∈ v_X11_text := fun w h => List.mem_cons_of_mem _ (List.mem_append_right _ (List.mem_append_left _ h))
  have j_X12_in : ∀ w ∈ v_X12_in, w ∈ v_X11_text := fun w h => List.mem_cons_of_mem _ (List.mem_append_right _ (List.mem_append_right _ (List.mem_append_left _ h)))
  have hown : s.vm.findClass RX11 = some m.cls := findClass_of_methodNamed B.named
  have hlocks := B.notSynchronized
  subst hsz
  have hD := hD0.self (sz := s.heap.size)
  generalize hAe : va_A (hW K h g S0) s.heap.size = A at hD ⊢
  have hA : ∀ q : Nat, s.heap.size ≤ q → A q := fun q h => by rw [← hAe]; exact Or.inr h
  have hS : va_S A s.heap s.heap [] := va_S.rf
  have hl := lv_entry ([.ref h, .int a1, .int a2]) (n := 4) (Nat.le_of_ble_eq_true rfl)
  rw [lg_entry_eq]
  generalize (lg_sl ([.ref h, .int a1, .int a2]) ++ List.replicate (4 - (lg_sl ([.ref h, .int a1, .int a2])).length) Slot.unset).toArray = ls at hl ⊢
  have hl : lv_has ls 4 [(0, .ref h), (1, .int a1), (2, .int a2)] := hl
  refine wGen (fun Q hQ => ?_)
  obtain ⟨X, hX⟩ : ∃ X, f_X11_text S0 a1 a2 = X := ⟨_, rfl⟩
  have B_125 : ∀ (S : HS) (x1 x2 x3 y0 : Int32) (H : Heap) (locs : List Loc) (ls : Array Slot), b_X11_text_125 S x1 x2 x3 y0 = X → q_X11_text_125 S x1 x2 x3 y0 → va_P G vwCl (hW K h g S) H → va_D A (hW K h g S) → va_S A s.heap H locs → lv_has ls 4 [(0, .ref h), (1, .int x1), (2, .int x2), (3, .int x3)] → W p l e ({ frames := 1, cells := 0, slots := 0, locals := 22 } : Room) s m #[Value.ref h, Value.int a1, Value.int a2] below meth c H locs 0 0 Q (F0 m 125 ls [.int y0]) := by
    intro S x1 x2 x3 y0 H locs ls hE hp hP hD hS hl
    unfold b_X11_text_125 at hE
    unfold q_X11_text_125 at hp
    subst hQ
    exact W.iret (v := y0) hx hb hr (fun t ht hW => ⟨⟨y0, S, rfl, hE.trans hX.symm, by rw [ht]; exact hP, hD⟩, hS.F ht⟩) hS.2.2 dX11_text_125
  have B_124 : ∀ (S : HS) (x1 x2 x3 : Int32) (H : Heap) (locs : List Loc) (ls : Array Slot), b_X11_text_124 S x1 x2 x3 = X → q_X11_text_124 S x1 x2 x3 → va_P G vwCl (hW K h g S) H → va_D A (hW K h g S) → va_S A s.heap H locs → lv_has ls 4 [(0, .ref h), (1, .int x1), (2, .int x2), (3, .int x3)] → W p l e ({ frames := 1, cells := 0, slots := 0, locals := 22 } : Room) s m #[Value.ref h, Value.int a1, Value.int a2] below meth c H locs 0 0 Q (F0 m 124 ls []) := by
    intro S x1 x2 x3 H locs ls hE hp hP hD hS hl
    unfold b_X11_text_124 at hE
    unfold q_X11_text_124 at hp
    refine lv_iconst (v := (-1)) hx hb dX11_text_124 (by decide) ?_
    exact B_125 S x1 x2 x3 (-1) _ _ _ hE hp hP hD hS (lv_sub hl [0, 1, 2, 3] rfl)
  have B_87 : ∀ (S : HS) (x1 x2 y0 : Int32) (H : Heap) (locs : List Loc) (ls : Array Slot), b_X11_text_87 S x1 x2 y0 = X → q_X11_text_87 S x1 x2 y0 → va_P G vwCl (hW K h g S) H → va_D A (hW K h g S) → va_S A s.heap H locs → lv_has ls 4 [(0, .ref h), (1, .int x1), (2, .int x2)] → W p l e ({ frames := 1, cells := 0, slots := 0, locals := 22 } : Room) s m #[Value.ref h, Value.int a1, Value.int a2] below meth c H locs 0 0 Q (F0 m 87 ls [.int y0]) := by
    intro S x1 x2 y0 H locs ls hE hp hP hD hS hl
    unfold b_X11_text_87 at hE
    unfold q_X11_text_87 at hp
    refine lv_istore_n (lv' := [(3, .int y0), (0, .ref h), (1, .int x1), (2, .int x2)]) hx hb dX11_text_87 rfl hl (by decide) rfl (fun ls hl => ?_)
    refine lv_iload_n hx hb dX11_text_88 rfl (lv_at hl 0 rfl) ?_
    refine lv_iconst (v := (-1)) hx hb dX11_text_89 (by decide) ?_
    refine lv_icmp_eq (tgt := 124) hx hb dX11_text_90 (by decide) (fun c5 => ?_) (fun c5 => ?_)
    · rw [if_pos c5] at hE hp
      exact B_124 S x1 x2 y0 _ _ _ hE hp hP hD hS (lv_sub hl [1, 2, 3, 0] rfl)
    · rw [if_neg c5] at hE hp
      refine lv_iload_n hx hb dX11_text_93 rfl (lv_at hl 3 rfl) ?_
      refine lv_iconst (v := 0) hx hb dX11_text_94 (by decide) ?_
      refine lv_aload_n hx hb dX11_text_95 rfl (lv_at hl 1 rfl) ?_
      refine va_get (D := G) (ci := 8) (v := .ref (g 19)) (C := RX11) (T := TX11) (N := 42) hx hb hts iX11 hown hK hP 0 rfl rfl 19 (by decide) (hw (.fieldLink RX11 37 "MotionFloorModel$Hall" "words" "[I") (List.mem_of_getElem? (i := 3) rfl)) (fun _ h9 => h9) rfl dX11_text_96 ?_
      refine lv_iload_n hx hb dX11_text_99 rfl (lv_at hl 0 rfl) ?_
      obtain ⟨hy6, hp⟩ := hp
      refine va_iald hx hb hK hP 9 0 rfl rfl hy6 dX11_text_100 ?_
      refine lv_iconst (v := 1) hx hb dX11_text_101 (by decide) ?_
      refine lv_isub hx hb dX11_text_102 ?_
      obtain ⟨hy7, hp⟩ := hp
      refine nGoi (va_runSN (As := [.int x2, .int 0, .int ((S.2 19 y0.toNatClampNeg) - 1)]) (rest := []) ⟨hx, hb, hml, hown, hts⟩ (c_X12_in l G K x2 0 ((S.2 19 y0.toNatClampNeg) - 1) _) ⟨va_cnB (host := "MotionFloorModel") 3 hts (wGP t_ j_X12_in) rfl rfl rfl hTE.2.2.2.2.2.2.2.2.2.1 (hw (.initialized RX12) (List.mem_of_getElem? (i := 1) rfl)) (by decide +kernel) ⟨Nat.le_of_ble_eq_true rfl, Nat.le_of_ble_eq_true rfl⟩, (hw (.static yX12_in) (List.mem_of_getElem? (i := 2) rfl)), trivial⟩ (nPS hK hTE hy7) rfl rfl hl.1 rfl (lv_room (Nat.le_of_ble_eq_true rfl)) dX11_text_103 ⟨Nat.le_of_ble_eq_true rfl, Nat.le_of_ble_eq_true rfl⟩) hP hS hA (fun r H locs hv hP hS => ?_)
      subst hv
      refine lv_if_eq (tgt := 124) hx hb dX11_text_106 (by decide) (fun c8 => ?_) (fun c8 => ?_)
      · rw [if_pos c8] at hE hp
        exact B_124 S x1 x2 y0 _ _ _ hE hp hP hD hS (lv_sub hl [1, 2, 3, 0] rfl)
      · rw [if_neg c8] at hE hp
        refine lv_aload_n hx hb dX11_text_109 rfl (lv_at hl 1 rfl) ?_
        refine va_get (D := G) (ci := 8) (v := .ref (g 28)) (C := RX11) (T := TX11) (N := 42) hx hb hts iX11 hown hK hP 0 rfl rfl 28 (by decide) (hw (.fieldLink RX11 65 "MotionFloorModel$Hall" "text" "[I") (List.mem_of_getElem? (i := 4) rfl)) (fun _ h9 => h9) rfl dX11_text_110 ?_
        refine lv_sipush (v := 400) hx hb dX11_text_113 (by decide) ?_
        refine lv_iload_n hx hb dX11_text_116 rfl (lv_at hl 0 rfl) ?_
        refine lv_imul hx hb dX11_text_117 ?_
        refine lv_iload_n hx hb dX11_text_118 rfl (lv_at hl 3 rfl) ?_
        refine lv_iadd hx hb dX11_text_119 ?_
        obtain ⟨hy9, hp⟩ := hp
        refine va_iald hx hb hK hP 18 0 rfl rfl hy9 dX11_text_120 ?_
        refine lv_goto (tgt := 125) hx hb dX11_text_121 (by decide) ?_
        exact B_125 S x1 x2 y0 (S.2 28 ((400 * y0) + x2).toNatClampNeg) _ _ _ hE hp hP hD hS (lv_sub hl [1, 2, 3, 0] rfl)
  have B_59 : ∀ (S : HS) (x1 x2 : Int32) (H : Heap) (locs : List Loc) (ls : Array Slot), b_X11_text_59 S x1 x2 = X → q_X11_text_59 S x1 x2 → va_P G vwCl (hW K h g S) H → va_D A (hW K h g S) → va_S A s.heap H locs → lv_has ls 4 [(0, .ref h), (1, .int x1), (2, .int x2)] → W p l e ({ frames := 1, cells := 0, slots := 0, locals := 22 } : Room) s m #[Value.ref h, Value.int a1, Value.int a2] below meth c H locs 0 0 Q (F0 m 59 ls []) := by
    intro S x1 x2 H locs ls hE hp hP hD hS hl
    unfold b_X11_text_59 at hE
    unfold q_X11_text_59 at hp
    refine lv_iconst (v := (-1)) hx hb dX11_text_59 (by decide) ?_
    refine lv_goto (tgt := 87) hx hb dX11_text_60 (by decide) ?_
    exact B_87 S x1 x2 (-1) _ _ _ hE hp hP hD hS (lv_sub hl [0, 1, 2] rfl)
  have B_29 : ∀ (S : HS) (x1 x2 y0 : Int32) (H : Heap) (locs : List Loc) (ls : Array Slot), b_X11_text_29 S x1 x2 y0 = X → q_X11_text_29 S x1 x2 y0 → va_P G vwCl (hW K h g S) H → va_D A (hW K h g S) → va_S A s.heap H locs → lv_has ls 4 [(0, .ref h), (1, .int x1), (2, .int x2)] → W p l e ({ frames := 1, cells := 0, slots := 0, locals := 22 } : Room) s m #[Value.ref h, Value.int a1, Value.int a2] below meth c H locs 0 0 Q (F0 m 29 ls [.int y0]) := by
    intro S x1 x2 y0 H locs ls hE hp hP hD hS hl
    unfold b_X11_text_29 at hE
    unfold q_X11_text_29 at hp
    subst hQ
    exact W.iret (v := y0) hx hb hr (fun t ht hW => ⟨⟨y0, S, rfl, hE.trans hX.symm, by rw [ht]; exact hP, hD⟩, hS.F ht⟩) hS.2.2 dX11_text_29
  have B_M : ∀ (S : HS) (x1 x2 : Int32) (H : Heap) (locs : List Loc) (ls : Array Slot), f_X11_text S x1 x2 = X → p_X11_text S x1 x2 → va_P G vwCl (hW K h g S) H → va_D A (hW K h g S) → va_S A s.heap H locs → lv_has ls 4 [(0, .ref h), (1, .int x1), (2, .int x2)] → W p l e ({ frames := 1, cells := 0, slots := 0, locals := 22 } : Room) s m #[Value.ref h, Value.int a1, Value.int a2] below meth c H locs 0 0 Q (F0 m 0 ls []) := by
    intro S x1 x2 H locs ls hE hp hP hD hS hl
    unfold f_X11_text at hE
    unfold p_X11_text at hp
    refine lv_iload_n hx hb dX11_text_0 rfl (lv_at hl 1 rfl) ?_
    refine lv_iconst (v := (-1)) hx hb dX11_text_1 (by decide) ?_
    refine lv_icmp_ne (tgt := 30) hx hb dX11_text_2 (by decide) (fun c1 => ?_) (fun c1 => ?_)
    · rw [if_neg c1] at hE hp
      refine lv_iload_n hx hb dX11_text_30 rfl (lv_at hl 1 rfl) ?_
      refine lv_bipush (v := 9) hx hb dX11_text_31 (by decide) ?_
      refine lv_icmp_ne (tgt := 63) hx hb dX11_text_33 (by decide) (fun c2 => ?_) (fun c2 => ?_)
      · rw [if_neg c2] at hE hp
        refine lv_iload_n hx hb dX11_text_63 rfl (lv_at hl 1 rfl) ?_
        refine lv_iconst (v := 0) hx hb dX11_text_64 (by decide) ?_
        refine lv_aload_n hx hb dX11_text_65 rfl (lv_at hl 0 rfl) ?_
        refine va_get (D := G) (ci := 8) (v := .int (S.1 6)) (C := RX11) (T := TX11) (N := 42) hx hb hts iX11 hown hK hP 0 rfl rfl 6 (by decide) (hw (.fieldLink RX11 115 "MotionFloorModel$Hall" "pending" "I") (List.mem_of_getElem? (i := 0) rfl)) (fun _ h9 => h9) rfl dX11_text_66 ?_
        refine lv_iconst (v := 1) hx hb dX11_text_69 (by decide) ?_
        refine lv_isub hx hb dX11_text_70 ?_
        obtain ⟨hy3, hp⟩ := hp
        refine nGoi (va_runSN (As := [.int x1, .int 0, .int ((S.1 6) - 1)]) (rest := []) ⟨hx, hb, hml, hown, hts⟩ (c_X12_in l G K x1 0 ((S.1 6) - 1) _) ⟨va_cnB (host := "MotionFloorModel") 3 hts (wGP t_ j_X12_in) rfl rfl rfl hTE.2.2.2.2.2.2.2.2.2.1 (hw (.initialized RX12) (List.mem_of_getElem? (i := 1) rfl)) (by decide +kernel) ⟨Nat.le_of_ble_eq_true rfl, Nat.le_of_ble_eq_true rfl⟩, (hw (.static yX12_in) (List.mem_of_getElem? (i := 2) rfl)), trivial⟩ (nPS hK hTE hy3) rfl rfl hl.1 rfl (lv_room (Nat.le_of_ble_eq_true rfl)) dX11_text_71 ⟨Nat.le_of_ble_eq_true rfl, Nat.le_of_ble_eq_true rfl⟩) hP hS hA (fun r H locs hv hP hS => ?_)
        subst hv
        refine lv_if_eq (tgt := 86) hx hb dX11_text_74 (by decide) (fun c4 => ?_) (fun c4 => ?_)
        · rw [if_pos c4] at hE hp
          refine lv_iconst (v := (-1)) hx hb dX11_text_86 (by decide) ?_
          exact B_87 S x1 x2 (-1) _ _ _ hE hp hP hD hS (lv_sub hl [0, 1, 2] rfl)
        · rw [if_neg c4] at hE hp
          refine lv_aload_n hx hb dX11_text_77 rfl (lv_at hl 0 rfl) ?_
          refine va_get (D := G) (ci := 8) (v := .ref (g 31)) (C := RX11) (T := TX11) (N := 42) hx hb hts iX11 hown hK hP 0 rfl rfl 31 (by decide) (hw (.fieldLink RX11 72 "MotionFloorModel$Hall" "row" "[I") (List.mem_of_getElem? (i := 5) rfl)) (fun _ h9 => h9) rfl dX11_text_78 ?_
          refine lv_iload_n hx hb dX11_text_81 rfl (lv_at hl 1 rfl) ?_
          obtain ⟨hy10, hp⟩ := hp
          refine va_iald hx hb hK hP 20 0 rfl rfl hy10 dX11_text_82 ?_
          refine lv_goto (tgt := 87) hx hb dX11_text_83 (by decide) ?_
          exact B_87 S x1 x2 (S.2 31 x1.toNatClampNeg) _ _ _ hE hp hP hD hS (lv_sub hl [0, 1, 2] rfl)
      · rw [if_pos c2] at hE hp
        refine lv_aload_n hx hb dX11_text_36 rfl (lv_at hl 0 rfl) ?_
        refine va_get (D := G) (ci := 8) (v := .int (S.1 35)) (C := RX11) (T := TX11) (N := 42) hx hb hts iX11 hown hK hP 0 rfl rfl 35 (by decide) (hw (.fieldLink RX11 130 "MotionFloorModel$Hall" "drafted" "I") (List.mem_of_getElem? (i := 6) rfl)) (fun _ h9 => h9) rfl dX11_text_37 ?_
        refine lv_if_le (tgt := 59) hx hb dX11_text_40 (by decide) (fun c11 => ?_) (fun c11 => ?_)
        · rw [if_pos c11] at hE hp
          exact B_59 S x1 x2 _ _ _ hE hp hP hD hS (lv_sub hl [0, 1, 2] rfl)
        · rw [if_neg c11] at hE hp
          refine lv_aload_n hx hb dX11_text_43 rfl (lv_at hl 0 rfl) ?_
          refine va_get (D := G) (ci := 8) (v := .int (S.1 36)) (C := RX11) (T := TX11) (N := 42) hx hb hts iX11 hown hK hP 0 rfl rfl 36 (by decide) (hw (.fieldLink RX11 151 "MotionFloorModel$Hall" "draftTabled" "Z") (List.mem_of_getElem? (i := 7) rfl)) (fun _ h9 => h9) rfl dX11_text_44 ?_
          refine lv_if_ne (tgt := 59) hx hb dX11_text_47 (by decide) (fun c12 => ?_) (fun c12 => ?_)
          · rw [if_neg c12] at hE hp
            exact B_59 S x1 x2 _ _ _ hE hp hP hD hS (lv_sub hl [0, 1, 2] rfl)
          · rw [if_pos c12] at hE hp
            refine lv_aload_n hx hb dX11_text_50 rfl (lv_at hl 0 rfl) ?_
            refine va_get (D := G) (ci := 8) (v := .ref (g 32)) (C := RX11) (T := TX11) (N := 42) hx hb hts iX11 hown hK hP 0 rfl rfl 32 (by decide) (hw (.fieldLink RX11 75 "MotionFloorModel$Hall" "draft" "[I") (List.mem_of_getElem? (i := 8) rfl)) (fun _ h9 => h9) rfl dX11_text_51 ?_
            refine lv_iconst (v := 0) hx hb dX11_text_54 (by decide) ?_
            obtain ⟨hy13, hp⟩ := hp
            refine va_iald hx hb hK hP 21 0 rfl rfl hy13 dX11_text_55 ?_
            refine lv_goto (tgt := 87) hx hb dX11_text_56 (by decide) ?_
            exact B_87 S x1 x2 (S.2 32 (0 : Int32).toNatClampNeg) _ _ _ hE hp hP hD hS (lv_sub hl [0, 1, 2] rfl)
    · rw [if_pos c1] at hE hp
      refine lv_iload_n hx hb dX11_text_5 rfl (lv_at hl 2 rfl) ?_
      refine lv_iconst (v := 0) hx hb dX11_text_6 (by decide) ?_
      refine lv_aload_n hx hb dX11_text_7 rfl (lv_at hl 0 rfl) ?_
      refine va_get (D := G) (ci := 8) (v := .int (S.1 39)) (C := RX11) (T := TX11) (N := 42) hx hb hts iX11 hown hK hP 0 rfl rfl 39 (by decide) (hw (.fieldLink RX11 133 "MotionFloorModel$Hall" "lastWords" "I") (List.mem_of_getElem? (i := 9) rfl)) (fun _ h9 => h9) rfl dX11_text_8 ?_
      refine lv_iconst (v := 1) hx hb dX11_text_11 (by decide) ?_
      refine lv_isub hx hb dX11_text_12 ?_
      obtain ⟨hy14, hp⟩ := hp
      refine nGoi (va_runSN (As := [.int x2, .int 0, .int ((S.1 39) - 1)]) (rest := []) ⟨hx, hb, hml, hown, hts⟩ (c_X12_in l G K x2 0 ((S.1 39) - 1) _) ⟨va_cnB (host := "MotionFloorModel") 3 hts (wGP t_ j_X12_in) rfl rfl rfl hTE.2.2.2.2.2.2.2.2.2.1 (hw (.initialized RX12) (List.mem_of_getElem? (i := 1) rfl)) (by decide +kernel) ⟨Nat.le_of_ble_eq_true rfl, Nat.le_of_ble_eq_true rfl⟩, (hw (.static yX12_in) (List.mem_of_getElem? (i := 2) rfl)), trivial⟩ (nPS hK hTE hy14) rfl rfl hl.1 rfl (lv_room (Nat.le_of_ble_eq_true rfl)) dX11_text_13 ⟨Nat.le_of_ble_eq_true rfl, Nat.le_of_ble_eq_true rfl⟩) hP hS hA (fun r H locs hv hP hS => ?_)
      subst hv
      refine lv_if_eq (tgt := 28) hx hb dX11_text_16 (by decide) (fun c15 => ?_) (fun c15 => ?_)
      · rw [if_pos c15] at hE hp
        refine lv_iconst (v := (-1)) hx hb dX11_text_28 (by decide) ?_
        exact B_29 S x1 x2 (-1) _ _ _ hE hp hP hD hS (lv_sub hl [0, 1, 2] rfl)
      · rw [if_neg c15] at hE hp
        refine lv_aload_n hx hb dX11_text_19 rfl (lv_at hl 0 rfl) ?_
        refine va_get (D := G) (ci := 8) (v := .ref (g 38)) (C := RX11) (T := TX11) (N := 42) hx hb hts iX11 hown hK hP 0 rfl rfl 38 (by decide) (hw (.fieldLink RX11 87 "MotionFloorModel$Hall" "last" "[I") (List.mem_of_getElem? (i := 10) rfl)) (fun _ h9 => h9) rfl dX11_text_20 ?_
        refine lv_iload_n hx hb dX11_text_23 rfl (lv_at hl 2 rfl) ?_
        obtain ⟨hy16, hp⟩ := hp
        refine va_iald hx hb hK hP 25 0 rfl rfl hy16 dX11_text_24 ?_
        refine lv_goto (tgt := 29) hx hb dX11_text_25 (by decide) ?_
        exact B_29 S x1 x2 (S.2 38 x2.toNatClampNeg) _ _ _ hE hp hP hD hS (lv_sub hl [0, 1, 2] rfl)
  exact B_M S0 a1 a2 _ _ _ hX hp hP hD hS hl
