/-! ===== the reasons are not negative ===== -/
def NN (r : Int32 × HS) : Prop := (0 : Int32) ≤ r.1
theorem nn {k : Int32} (q : (0 : Int32) ≤ k) (S : HS) : NN (k, S) := q
theorem ite_n {c : Prop} [Decidable c] {x y : Int32 × HS} (h1 : NN x) (h2 : NN y) : NN (if c then x else y) := by
  split
  · exact h1
  · exact h2
theorem nb_X11_reasonOfWord_23 (S : HS) (x1 x2 x3 x4 : Int32) : NN (b_X11_reasonOfWord_23 S x1 x2 x3 x4) := by
  unfold b_X11_reasonOfWord_23
  (repeat' (with_reducible refine ite_n ?_ ?_)) <;> first | (with_reducible refine nn ?_ _; decide)
theorem nb_X11_reasonOfWord_68 (S : HS) (x1 x2 x3 x4 : Int32) : NN (b_X11_reasonOfWord_68 S x1 x2 x3 x4) := by
  unfold b_X11_reasonOfWord_68
  (repeat' (with_reducible refine ite_n ?_ ?_)) <;> first | (with_reducible refine nn ?_ _; decide)
theorem nb_X11_reasonOfWord_102 (S : HS) (x1 x2 x3 x4 y0 y1 : Int32) : NN (b_X11_reasonOfWord_102 S x1 x2 x3 x4 y0 y1) := by
  unfold b_X11_reasonOfWord_102 b_X11_reasonOfWord_131
  (repeat' (with_reducible refine ite_n ?_ ?_)) <;> first | (with_reducible refine nn ?_ _; decide)
theorem nb_X11_reasonOfWord_91 (S : HS) (x1 x2 x3 x4 y0 y1 : Int32) : NN (b_X11_reasonOfWord_91 S x1 x2 x3 x4 y0 y1) := by
  unfold b_X11_reasonOfWord_91
  (repeat' (with_reducible refine ite_n ?_ ?_)) <;> first | with_reducible exact nb_X11_reasonOfWord_102 _ _ _ _ _ _ _ | (with_reducible refine nn ?_ _; decide)
theorem nb_X11_reasonOfWord_81 (S : HS) (x1 x2 x3 x4 y0 y1 : Int32) : NN (b_X11_reasonOfWord_81 S x1 x2 x3 x4 y0 y1) := by
  unfold b_X11_reasonOfWord_81
  (repeat' (with_reducible refine ite_n ?_ ?_)) <;> first | with_reducible exact nb_X11_reasonOfWord_91 _ _ _ _ _ _ _ | (with_reducible refine nn ?_ _; decide)
theorem nb_X11_reasonOfWord_71 (S : HS) (x1 x2 x3 x4 : Int32) : NN (b_X11_reasonOfWord_71 S x1 x2 x3 x4) := by
  unfold b_X11_reasonOfWord_71
  (repeat' (with_reducible refine ite_n ?_ ?_)) <;> first | with_reducible exact nb_X11_reasonOfWord_81 _ _ _ _ _ _ _ | (with_reducible refine nn ?_ _; decide)
theorem nb_X11_reasonOfWord_55 (S : HS) (x1 x2 x3 x4 : Int32) : NN (b_X11_reasonOfWord_55 S x1 x2 x3 x4) := by
  unfold b_X11_reasonOfWord_55
  (repeat' (with_reducible refine ite_n ?_ ?_)) <;> first | with_reducible exact nb_X11_reasonOfWord_71 _ _ _ _ _ | with_reducible exact nb_X11_reasonOfWord_68 _ _ _ _ _ | (with_reducible refine nn ?_ _; decide)
theorem nb_X11_reasonOfWord_44 (S : HS) (x1 x2 x3 x4 : Int32) : NN (b_X11_reasonOfWord_44 S x1 x2 x3 x4) := by
  unfold b_X11_reasonOfWord_44
  (repeat' (with_reducible refine ite_n ?_ ?_)) <;> first | with_reducible exact nb_X11_reasonOfWord_55 _ _ _ _ _ | with_reducible exact nb_X11_reasonOfWord_68 _ _ _ _ _ | (with_reducible refine nn ?_ _; decide)
theorem nb_X11_reasonOfWord_a6 (S : HS) (x1 x2 x3 x4 y0 : Int32) : NN (b_X11_reasonOfWord_a6 S x1 x2 x3 x4 y0) := by
  unfold b_X11_reasonOfWord_a6
  (repeat' (with_reducible refine ite_n ?_ ?_)) <;> first | with_reducible exact nb_X11_reasonOfWord_23 _ _ _ _ _ | with_reducible exact nb_X11_reasonOfWord_68 _ _ _ _ _ | with_reducible exact nb_X11_reasonOfWord_44 _ _ _ _ _ | (with_reducible refine nn ?_ _; decide)
theorem nf_X11_reasonOfWord (S : HS) (x1 x2 x3 x4 : Int32) : NN (f_X11_reasonOfWord S x1 x2 x3 x4) := by
  unfold f_X11_reasonOfWord
  (repeat' (with_reducible refine ite_n ?_ ?_)) <;> first | with_reducible exact nb_X11_reasonOfWord_a6 _ _ _ _ _ _ | (with_reducible refine nn ?_ _; decide)
theorem nb_X11_reasonOfLay_29 (S : HS) (x1 : Int32) : NN (b_X11_reasonOfLay_29 S x1) := by
  unfold b_X11_reasonOfLay_29
  (repeat' (with_reducible refine ite_n ?_ ?_)) <;> first | (with_reducible refine nn ?_ _; decide)
theorem nb_X11_reasonOfLay_120 (S : HS) (x1 : Int32) : NN (b_X11_reasonOfLay_120 S x1) := by
  unfold b_X11_reasonOfLay_120 b_X11_reasonOfLay_121
  (repeat' (with_reducible refine ite_n ?_ ?_)) <;> first | (with_reducible refine nn ?_ _; decide)
theorem nb_X11_reasonOfLay_a112 (S : HS) (x1 y0 : Int32) : NN (b_X11_reasonOfLay_a112 S x1 y0) := by
  unfold b_X11_reasonOfLay_a112 b_X11_reasonOfLay_121
  (repeat' (with_reducible refine ite_n ?_ ?_)) <;> first | with_reducible exact nb_X11_reasonOfLay_120 _ _ | (with_reducible refine nn ?_ _; decide)
theorem nb_X11_reasonOfLay_a104 (S : HS) (x1 y0 : Int32) : NN (b_X11_reasonOfLay_a104 S x1 y0) := by
  unfold b_X11_reasonOfLay_a104
  (repeat' (with_reducible refine ite_n ?_ ?_)) <;> first | with_reducible exact nb_X11_reasonOfLay_a112 _ _ _ | with_reducible exact nb_X11_reasonOfLay_120 _ _ | (with_reducible refine nn ?_ _; decide)
theorem nb_X11_reasonOfLay_100 (S : HS) (x1 : Int32) : NN (b_X11_reasonOfLay_100 S x1) := by
  unfold b_X11_reasonOfLay_100
  (repeat' (with_reducible refine ite_n ?_ ?_)) <;> first | with_reducible exact nb_X11_reasonOfLay_a104 _ _ _ | (with_reducible refine nn ?_ _; decide)
theorem nb_X11_reasonOfLay_a94 (S : HS) (x1 y0 y1 : Int32) : NN (b_X11_reasonOfLay_a94 S x1 y0 y1) := by
  unfold b_X11_reasonOfLay_a94
  (repeat' (with_reducible refine ite_n ?_ ?_)) <;> first | with_reducible exact nb_X11_reasonOfLay_100 _ _ | (with_reducible refine nn ?_ _; decide)
theorem nb_X11_reasonOfLay_a70 (S : HS) (x1 y0 : Int32) : NN (b_X11_reasonOfLay_a70 S x1 y0) := by
  unfold b_X11_reasonOfLay_a70
  (repeat' (with_reducible refine ite_n ?_ ?_)) <;> first | with_reducible exact nb_X11_reasonOfLay_a94 _ _ _ _ | (with_reducible refine nn ?_ _; decide)
theorem nb_X11_reasonOfLay_a38 (S : HS) (x1 y0 : Int32) : NN (b_X11_reasonOfLay_a38 S x1 y0) := by
  unfold b_X11_reasonOfLay_a38
  (repeat' (with_reducible refine ite_n ?_ ?_)) <;> first | with_reducible exact nb_X11_reasonOfLay_100 _ _ | with_reducible exact nb_X11_reasonOfLay_a70 _ _ _ | (with_reducible refine nn ?_ _; decide)
theorem nf_X11_reasonOfLay (S : HS) (x1 : Int32) : NN (f_X11_reasonOfLay S x1) := by
  unfold f_X11_reasonOfLay
  (repeat' (with_reducible refine ite_n ?_ ?_)) <;> first | with_reducible exact nb_X11_reasonOfLay_29 _ _ | with_reducible exact nb_X11_reasonOfLay_a38 _ _ _ | (with_reducible refine nn ?_ _; decide)
theorem nb_X11_reasonOfMove_143 (S : HS) (x1 x2 x3 : Int32) : NN (b_X11_reasonOfMove_143 S x1 x2 x3) := by
  unfold b_X11_reasonOfMove_143
  (repeat' (with_reducible refine ite_n ?_ ?_)) <;> first | (with_reducible refine nn ?_ _; decide)
theorem nb_X11_reasonOfMove_424 (S : HS) (x1 x2 x3 x4 : Int32) : NN (b_X11_reasonOfMove_424 S x1 x2 x3 x4) := by
  unfold b_X11_reasonOfMove_424 b_X11_reasonOfMove_425
  (repeat' (with_reducible refine ite_n ?_ ?_)) <;> first | (with_reducible refine nn ?_ _; decide)
theorem nb_X11_reasonOfMove_a415 (S : HS) (x1 x2 x3 x4 y0 : Int32) : NN (b_X11_reasonOfMove_a415 S x1 x2 x3 x4 y0) := by
  unfold b_X11_reasonOfMove_a415 b_X11_reasonOfMove_425
  (repeat' (with_reducible refine ite_n ?_ ?_)) <;> first | with_reducible exact nb_X11_reasonOfMove_424 _ _ _ _ _ | (with_reducible refine nn ?_ _; decide)
theorem nb_X11_reasonOfMove_411 (S : HS) (x1 x2 x3 x4 : Int32) : NN (b_X11_reasonOfMove_411 S x1 x2 x3 x4) := by
  unfold b_X11_reasonOfMove_411
  (repeat' (with_reducible refine ite_n ?_ ?_)) <;> first | with_reducible exact nb_X11_reasonOfMove_a415 _ _ _ _ _ _ | (with_reducible refine nn ?_ _; decide)
theorem nb_X11_reasonOfMove_395 (S : HS) (x1 x2 x3 x4 : Int32) : NN (b_X11_reasonOfMove_395 S x1 x2 x3 x4) := by
  unfold b_X11_reasonOfMove_395
  (repeat' (with_reducible refine ite_n ?_ ?_)) <;> first | with_reducible exact nb_X11_reasonOfMove_411 _ _ _ _ _ | with_reducible exact nb_X11_reasonOfMove_424 _ _ _ _ _ | (with_reducible refine nn ?_ _; decide)
theorem nb_X11_reasonOfMove_a383 (S : HS) (x1 x2 x3 x4 x5 x6 y0 y1 y2 : Int32) : NN (b_X11_reasonOfMove_a383 S x1 x2 x3 x4 x5 x6 y0 y1 y2) := by
  unfold b_X11_reasonOfMove_a383
  (repeat' (with_reducible refine ite_n ?_ ?_)) <;> first | with_reducible exact nb_X11_reasonOfMove_395 _ _ _ _ _ | (with_reducible refine nn ?_ _; decide)
theorem nb_X11_reasonOfMove_a374 (S : HS) (x1 x2 x3 x4 x5 x6 y0 y1 : Int32) : NN (b_X11_reasonOfMove_a374 S x1 x2 x3 x4 x5 x6 y0 y1) := by
  unfold b_X11_reasonOfMove_a374
  (repeat' (with_reducible refine ite_n ?_ ?_)) <;> first | with_reducible exact nb_X11_reasonOfMove_a383 _ _ _ _ _ _ _ _ _ _ | (with_reducible refine nn ?_ _; decide)
theorem nb_X11_reasonOfMove_348 (S : HS) (x1 x2 x3 x4 x5 y0 : Int32) : NN (b_X11_reasonOfMove_348 S x1 x2 x3 x4 x5 y0) := by
  unfold b_X11_reasonOfMove_348
  (repeat' (with_reducible refine ite_n ?_ ?_)) <;> first | with_reducible exact nb_X11_reasonOfMove_395 _ _ _ _ _ | with_reducible exact nb_X11_reasonOfMove_a374 _ _ _ _ _ _ _ _ _ | (with_reducible refine nn ?_ _; decide)
theorem nb_X11_reasonOfMove_a293 (S : HS) (x1 x2 x3 x4 y0 : Int32) : NN (b_X11_reasonOfMove_a293 S x1 x2 x3 x4 y0) := by
  unfold b_X11_reasonOfMove_a293
  (repeat' (with_reducible refine ite_n ?_ ?_)) <;> first | with_reducible exact nb_X11_reasonOfMove_348 _ _ _ _ _ _ _ | (with_reducible refine nn ?_ _; decide)
theorem nb_X11_reasonOfMove_259 (S : HS) (x1 x2 x3 x4 : Int32) : NN (b_X11_reasonOfMove_259 S x1 x2 x3 x4) := by
  unfold b_X11_reasonOfMove_259
  (repeat' (with_reducible refine ite_n ?_ ?_)) <;> first | with_reducible exact nb_X11_reasonOfMove_395 _ _ _ _ _ | with_reducible exact nb_X11_reasonOfMove_a293 _ _ _ _ _ _ | (with_reducible refine nn ?_ _; decide)
theorem nb_X11_reasonOfMove_257 (S : HS) (x1 x2 x3 x4 : Int32) : NN (b_X11_reasonOfMove_257 S x1 x2 x3 x4) := by
  unfold b_X11_reasonOfMove_257
  (repeat' (with_reducible refine ite_n ?_ ?_)) <;> first | (with_reducible refine nn ?_ _; decide)
theorem nb_X11_reasonOfMove_a253 (S : HS) (x1 x2 x3 x4 y0 y1 : Int32) : NN (b_X11_reasonOfMove_a253 S x1 x2 x3 x4 y0 y1) := by
  unfold b_X11_reasonOfMove_a253
  (repeat' (with_reducible refine ite_n ?_ ?_)) <;> first | with_reducible exact nb_X11_reasonOfMove_259 _ _ _ _ _ | with_reducible exact nb_X11_reasonOfMove_257 _ _ _ _ _ | (with_reducible refine nn ?_ _; decide)
theorem nb_X11_reasonOfMove_239 (S : HS) (x1 x2 x3 x4 : Int32) : NN (b_X11_reasonOfMove_239 S x1 x2 x3 x4) := by
  unfold b_X11_reasonOfMove_239
  (repeat' (with_reducible refine ite_n ?_ ?_)) <;> first | with_reducible exact nb_X11_reasonOfMove_a253 _ _ _ _ _ _ _ | (with_reducible refine nn ?_ _; decide)
theorem nb_X11_reasonOfMove_a235 (S : HS) (x1 x2 x3 x4 y0 y1 : Int32) : NN (b_X11_reasonOfMove_a235 S x1 x2 x3 x4 y0 y1) := by
  unfold b_X11_reasonOfMove_a235
  (repeat' (with_reducible refine ite_n ?_ ?_)) <;> first | with_reducible exact nb_X11_reasonOfMove_239 _ _ _ _ _ | with_reducible exact nb_X11_reasonOfMove_257 _ _ _ _ _ | (with_reducible refine nn ?_ _; decide)
theorem nb_X11_reasonOfMove_196 (S : HS) (x1 x2 x3 y0 : Int32) : NN (b_X11_reasonOfMove_196 S x1 x2 x3 y0) := by
  unfold b_X11_reasonOfMove_196
  (repeat' (with_reducible refine ite_n ?_ ?_)) <;> first | with_reducible exact nb_X11_reasonOfMove_259 _ _ _ _ _ | with_reducible exact nb_X11_reasonOfMove_239 _ _ _ _ _ | with_reducible exact nb_X11_reasonOfMove_a235 _ _ _ _ _ _ _ | with_reducible exact nb_X11_reasonOfMove_257 _ _ _ _ _ | (with_reducible refine nn ?_ _; decide)
theorem nb_X11_reasonOfMove_191 (S : HS) (x1 x2 x3 : Int32) : NN (b_X11_reasonOfMove_191 S x1 x2 x3) := by
  unfold b_X11_reasonOfMove_191
  (repeat' (with_reducible refine ite_n ?_ ?_)) <;> first | with_reducible exact nb_X11_reasonOfMove_196 _ _ _ _ _ | (with_reducible refine nn ?_ _; decide)
theorem nb_X11_reasonOfMove_195 (S : HS) (x1 x2 x3 : Int32) : NN (b_X11_reasonOfMove_195 S x1 x2 x3) := by
  unfold b_X11_reasonOfMove_195
  (repeat' (with_reducible refine ite_n ?_ ?_)) <;> first | with_reducible exact nb_X11_reasonOfMove_196 _ _ _ _ _ | (with_reducible refine nn ?_ _; decide)
theorem nb_X11_reasonOfMove_161 (S : HS) (x1 x2 x3 : Int32) : NN (b_X11_reasonOfMove_161 S x1 x2 x3) := by
  unfold b_X11_reasonOfMove_161
  (repeat' (with_reducible refine ite_n ?_ ?_)) <;> first | with_reducible exact nb_X11_reasonOfMove_191 _ _ _ _ | with_reducible exact nb_X11_reasonOfMove_195 _ _ _ _ | (with_reducible refine nn ?_ _; decide)
theorem nb_X11_reasonOfMove_a156 (S : HS) (x1 x2 x3 y0 : Int32) : NN (b_X11_reasonOfMove_a156 S x1 x2 x3 y0) := by
  unfold b_X11_reasonOfMove_a156
  (repeat' (with_reducible refine ite_n ?_ ?_)) <;> first | with_reducible exact nb_X11_reasonOfMove_161 _ _ _ _ | (with_reducible refine nn ?_ _; decide)
theorem nb_X11_reasonOfMove_127 (S : HS) (x1 x2 x3 : Int32) : NN (b_X11_reasonOfMove_127 S x1 x2 x3) := by
  unfold b_X11_reasonOfMove_127
  (repeat' (with_reducible refine ite_n ?_ ?_)) <;> first | with_reducible exact nb_X11_reasonOfMove_143 _ _ _ _ | with_reducible exact nb_X11_reasonOfMove_161 _ _ _ _ | with_reducible exact nb_X11_reasonOfMove_a156 _ _ _ _ _ | (with_reducible refine nn ?_ _; decide)
theorem move_n (S : HS) (x1 x2 x3 : Int32) : ∀ (n : Nat) (x4 x : Int32), NN (lp_X11_reasonOfMove_70 n S x1 x2 x3 x4 x) := by
  intro n
  induction n with
  | zero => intro x4 x; exact nn (by decide) S
  | succ n ih =>
    intro x4 x
    rw [lp_X11_reasonOfMove_70]
    unfold st_X11_reasonOfMove_70
    by_cases c : S.1 6 ≤ x
    · rw [if_pos c]
      dsimp only
      split
      · exact nn (by decide) S
      split
      · exact nb_X11_reasonOfMove_127 S x1 x2 x3
      · exact nn (by decide) S
    rw [if_neg c]
    by_cases z : x4 = 0
    · rw [if_pos z]
      by_cases y : S.2 14 (S.2 31 x.toNatClampNeg).toNatClampNeg < x3
      · rw [if_pos y]
        exact ih _ _
      · rw [if_neg y]
        exact ih _ _
    · rw [if_neg z]
      exact ih _ _
theorem nb_X11_reasonOfMove_a59 (S : HS) (x1 x2 x3 y0 : Int32) : NN (b_X11_reasonOfMove_a59 S x1 x2 x3 y0) := by
  unfold b_X11_reasonOfMove_a59
  (repeat' (with_reducible refine ite_n ?_ ?_)) <;> first | with_reducible exact nb_X11_reasonOfMove_127 _ _ _ _ | (with_reducible refine nn ?_ _; decide)
theorem nb_X11_reasonOfMove_34 (S : HS) (x1 x2 y0 : Int32) : NN (b_X11_reasonOfMove_34 S x1 x2 y0) := by
  unfold b_X11_reasonOfMove_34
  (repeat' (with_reducible refine ite_n ?_ ?_)) <;> first | with_reducible exact nb_X11_reasonOfMove_127 _ _ _ _ | with_reducible exact move_n _ _ _ _ _ _ _ | with_reducible exact nb_X11_reasonOfMove_a59 _ _ _ _ _ | (with_reducible refine nn ?_ _; decide)
theorem nf_X11_reasonOfMove (S : HS) (x1 : Int32) : NN (f_X11_reasonOfMove S x1) := by
  unfold f_X11_reasonOfMove
  (repeat' (with_reducible refine ite_n ?_ ?_)) <;> first | with_reducible exact nb_X11_reasonOfMove_34 _ _ _ _ | (with_reducible refine nn ?_ _; decide)
theorem nb_X11_reason_a105 (S : HS) (x1 x2 x3 x4 x5 y0 : Int32) : NN (b_X11_reason_a105 S x1 x2 x3 x4 x5 y0) := by
  unfold b_X11_reason_a105 b_X11_reason_128
  (repeat' (with_reducible refine ite_n ?_ ?_)) <;> first | (with_reducible refine nn ?_ _; decide)
theorem nb_X11_reason_a134 (S : HS) (x1 x2 x3 x4 x5 y0 : Int32) : NN (b_X11_reason_a134 S x1 x2 x3 x4 x5 y0) := by
  unfold b_X11_reason_a134 b_X11_reason_157
  (repeat' (with_reducible refine ite_n ?_ ?_)) <;> first | (with_reducible refine nn ?_ _; decide)
theorem nb_X11_reason_129 (S : HS) (x1 x2 x3 x4 x5 : Int32) : NN (b_X11_reason_129 S x1 x2 x3 x4 x5) := by
  unfold b_X11_reason_129
  (repeat' (with_reducible refine ite_n ?_ ?_)) <;> first | with_reducible exact nb_X11_reason_a134 _ _ _ _ _ _ _ | (with_reducible refine nn ?_ _; decide)
theorem nb_X11_reason_207 (S : HS) (x1 x2 x3 x4 x5 : Int32) : NN (b_X11_reason_207 S x1 x2 x3 x4 x5) := by
  unfold b_X11_reason_207 b_X11_reason_225
  (repeat' (with_reducible refine ite_n ?_ ?_)) <;> first | (with_reducible refine nn ?_ _; decide)
theorem nb_X11_reason_294 (S : HS) (x1 x2 x3 x4 x5 : Int32) : NN (b_X11_reason_294 S x1 x2 x3 x4 x5) := by
  unfold b_X11_reason_294
  (repeat' (with_reducible refine ite_n ?_ ?_)) <;> first | (with_reducible refine nn ?_ _; decide)
theorem nb_X11_reason_354 (S : HS) (x1 x2 x3 x4 x5 : Int32) : NN (b_X11_reason_354 S x1 x2 x3 x4 x5) := by
  unfold b_X11_reason_354 b_X11_reason_360
  (repeat' (with_reducible refine ite_n ?_ ?_)) <;> first | (with_reducible refine nn ?_ _; decide)
theorem nb_X11_reason_359 (S : HS) (x1 x2 x3 x4 x5 : Int32) : NN (b_X11_reason_359 S x1 x2 x3 x4 x5) := by
  unfold b_X11_reason_359 b_X11_reason_360
  (repeat' (with_reducible refine ite_n ?_ ?_)) <;> first | (with_reducible refine nn ?_ _; decide)
theorem nb_X11_reason_a346 (S : HS) (x1 x2 x3 x4 x5 y0 : Int32) : NN (b_X11_reason_a346 S x1 x2 x3 x4 x5 y0) := by
  unfold b_X11_reason_a346
  (repeat' (with_reducible refine ite_n ?_ ?_)) <;> first | with_reducible exact nb_X11_reason_359 _ _ _ _ _ _ | with_reducible exact nb_X11_reason_354 _ _ _ _ _ _ | (with_reducible refine nn ?_ _; decide)
theorem nb_X11_reason_a327 (S : HS) (x1 x2 x3 x4 x5 y0 : Int32) : NN (b_X11_reason_a327 S x1 x2 x3 x4 x5 y0) := by
  unfold b_X11_reason_a327
  (repeat' (with_reducible refine ite_n ?_ ?_)) <;> first | with_reducible exact nb_X11_reason_359 _ _ _ _ _ _ | with_reducible exact nb_X11_reason_a346 _ _ _ _ _ _ _ | with_reducible exact nb_X11_reason_354 _ _ _ _ _ _ | (with_reducible refine nn ?_ _; decide)
theorem nb_X11_reason_a313 (S : HS) (x1 x2 x3 x4 x5 y0 : Int32) : NN (b_X11_reason_a313 S x1 x2 x3 x4 x5 y0) := by
  unfold b_X11_reason_a313
  (repeat' (with_reducible refine ite_n ?_ ?_)) <;> first | with_reducible exact nb_X11_reason_354 _ _ _ _ _ _ | with_reducible exact nb_X11_reason_a327 _ _ _ _ _ _ _ | (with_reducible refine nn ?_ _; decide)
theorem nb_X11_reason_a260 (S : HS) (x1 x2 x3 x4 x5 y0 : Int32) : NN (b_X11_reason_a260 S x1 x2 x3 x4 x5 y0) := by
  unfold b_X11_reason_a260
  (repeat' (with_reducible refine ite_n ?_ ?_)) <;> first | with_reducible exact nb_X11_reason_294 _ _ _ _ _ _ | with_reducible exact nb_X11_reason_a313 _ _ _ _ _ _ _ | (with_reducible refine nn ?_ _; decide)
theorem nb_X11_reason_401 (S : HS) (x1 x2 x3 x4 x5 : Int32) : NN (b_X11_reason_401 S x1 x2 x3 x4 x5) := by
  unfold b_X11_reason_401
  (repeat' (with_reducible refine ite_n ?_ ?_)) <;> first | (with_reducible refine nn ?_ _; decide)
theorem nb_X11_reason_a420 (S : HS) (x1 x2 x3 x4 x5 y0 : Int32) : NN (b_X11_reason_a420 S x1 x2 x3 x4 x5 y0) := by
  unfold b_X11_reason_a420 b_X11_reason_437
  (repeat' (with_reducible refine ite_n ?_ ?_)) <;> first | (with_reducible refine nn ?_ _; decide)
theorem nb_X11_reason_a407 (S : HS) (x1 x2 x3 x4 x5 y0 : Int32) : NN (b_X11_reason_a407 S x1 x2 x3 x4 x5 y0) := by
  unfold b_X11_reason_a407
  (repeat' (with_reducible refine ite_n ?_ ?_)) <;> first | with_reducible exact nb_X11_reason_a420 _ _ _ _ _ _ _ | (with_reducible refine nn ?_ _; decide)
theorem nb_X11_reason_478 (S : HS) (x1 x2 x3 x4 x5 : Int32) : NN (b_X11_reason_478 S x1 x2 x3 x4 x5) := by
  unfold b_X11_reason_478 b_X11_reason_516
  (repeat' (with_reducible refine ite_n ?_ ?_)) <;> first | (with_reducible refine nn ?_ _; decide)
theorem nb_X11_reason_510 (S : HS) (x1 x2 x3 x4 x5 : Int32) : NN (b_X11_reason_510 S x1 x2 x3 x4 x5) := by
  unfold b_X11_reason_510 b_X11_reason_516
  (repeat' (with_reducible refine ite_n ?_ ?_)) <;> first | (with_reducible refine nn ?_ _; decide)
theorem nb_X11_reason_a461 (S : HS) (x1 x2 x3 x4 x5 y0 : Int32) : NN (b_X11_reason_a461 S x1 x2 x3 x4 x5 y0) := by
  unfold b_X11_reason_a461 b_X11_reason_516
  (repeat' (with_reducible refine ite_n ?_ ?_)) <;> first | with_reducible exact nb_X11_reason_478 _ _ _ _ _ _ | with_reducible exact nb_X11_reason_510 _ _ _ _ _ _ | (with_reducible refine nn ?_ _; decide)
theorem nb_X11_reason_565 (S : HS) (x1 x2 x3 x4 x5 : Int32) : NN (b_X11_reason_565 S x1 x2 x3 x4 x5) := by
  unfold b_X11_reason_565 b_X11_reason_571
  (repeat' (with_reducible refine ite_n ?_ ?_)) <;> first | (with_reducible refine nn ?_ _; decide)
theorem nb_X11_reason_632 (S : HS) (x1 x2 x3 x4 x5 : Int32) : NN (b_X11_reason_632 S x1 x2 x3 x4 x5) := by
  unfold b_X11_reason_632
  (repeat' (with_reducible refine ite_n ?_ ?_)) <;> first | (with_reducible refine nn ?_ _; decide)
theorem nb_X11_reason_655 (S : HS) (x1 x2 x3 x4 x5 : Int32) : NN (b_X11_reason_655 S x1 x2 x3 x4 x5) := by
  unfold b_X11_reason_655 b_X11_reason_660
  (repeat' (with_reducible refine ite_n ?_ ?_)) <;> first | (with_reducible refine nn ?_ _; decide)
theorem nb_X11_reason_a643 (S : HS) (x1 x2 x3 x4 x5 y0 y1 : Int32) : NN (b_X11_reason_a643 S x1 x2 x3 x4 x5 y0 y1) := by
  unfold b_X11_reason_a643 b_X11_reason_660
  (repeat' (with_reducible refine ite_n ?_ ?_)) <;> first | with_reducible exact nb_X11_reason_655 _ _ _ _ _ _ | (with_reducible refine nn ?_ _; decide)
theorem nb_X11_reason_a626 (S : HS) (x1 x2 x3 x4 x5 y0 : Int32) : NN (b_X11_reason_a626 S x1 x2 x3 x4 x5 y0) := by
  unfold b_X11_reason_a626
  (repeat' (with_reducible refine ite_n ?_ ?_)) <;> first | with_reducible exact nb_X11_reason_632 _ _ _ _ _ _ | with_reducible exact nb_X11_reason_a643 _ _ _ _ _ _ _ _ | (with_reducible refine nn ?_ _; decide)
theorem nb_X11_reason_a615 (S : HS) (x1 x2 x3 x4 x5 y0 : Int32) : NN (b_X11_reason_a615 S x1 x2 x3 x4 x5 y0) := by
  unfold b_X11_reason_a615
  (repeat' (with_reducible refine ite_n ?_ ?_)) <;> first | with_reducible exact nb_X11_reason_a626 _ _ _ _ _ _ _ | with_reducible exact nb_X11_reason_632 _ _ _ _ _ _ | (with_reducible refine nn ?_ _; decide)
theorem nb_X11_reason_a593 (S : HS) (x1 x2 x3 x4 x5 y0 : Int32) : NN (b_X11_reason_a593 S x1 x2 x3 x4 x5 y0) := by
  unfold b_X11_reason_a593
  (repeat' (with_reducible refine ite_n ?_ ?_)) <;> first | with_reducible exact nb_X11_reason_a615 _ _ _ _ _ _ _ | (with_reducible refine nn ?_ _; decide)
theorem nb_X11_reason_688 (S : HS) (x1 x2 x3 x4 x5 : Int32) : NN (b_X11_reason_688 S x1 x2 x3 x4 x5) := by
  unfold b_X11_reason_688
  (repeat' (with_reducible refine ite_n ?_ ?_)) <;> first | (with_reducible refine nn ?_ _; decide)
theorem nb_X11_reason_a707 (S : HS) (x1 x2 x3 x4 x5 y0 : Int32) : NN (b_X11_reason_a707 S x1 x2 x3 x4 x5 y0) := by
  unfold b_X11_reason_a707 b_X11_reason_715
  (repeat' (with_reducible refine ite_n ?_ ?_)) <;> first | (with_reducible refine nn ?_ _; decide)
theorem nb_X11_reason_a676 (S : HS) (x1 x2 x3 x4 x5 y0 : Int32) : NN (b_X11_reason_a676 S x1 x2 x3 x4 x5 y0) := by
  unfold b_X11_reason_a676
  (repeat' (with_reducible refine ite_n ?_ ?_)) <;> first | with_reducible exact nb_X11_reason_688 _ _ _ _ _ _ | with_reducible exact nb_X11_reason_a707 _ _ _ _ _ _ _ | (with_reducible refine nn ?_ _; decide)
theorem nb_X11_reason_753 (S : HS) (x1 x2 x3 x4 x5 : Int32) : NN (b_X11_reason_753 S x1 x2 x3 x4 x5) := by
  unfold b_X11_reason_753
  (repeat' (with_reducible refine ite_n ?_ ?_)) <;> first | (with_reducible refine nn ?_ _; decide)
theorem nb_X11_reason_a760 (S : HS) (x1 x2 x3 x4 x5 y0 : Int32) : NN (b_X11_reason_a760 S x1 x2 x3 x4 x5 y0) := by
  unfold b_X11_reason_a760 b_X11_reason_769
  (repeat' (with_reducible refine ite_n ?_ ?_)) <;> first | (with_reducible refine nn ?_ _; decide)
theorem nb_X11_reason_a749 (S : HS) (x1 x2 x3 x4 x5 y0 y1 : Int32) : NN (b_X11_reason_a749 S x1 x2 x3 x4 x5 y0 y1) := by
  unfold b_X11_reason_a749
  (repeat' (with_reducible refine ite_n ?_ ?_)) <;> first | with_reducible exact nb_X11_reason_a760 _ _ _ _ _ _ _ | with_reducible exact nb_X11_reason_753 _ _ _ _ _ _ | (with_reducible refine nn ?_ _; decide)
theorem nb_X11_reason_a734 (S : HS) (x1 x2 x3 x4 x5 y0 : Int32) : NN (b_X11_reason_a734 S x1 x2 x3 x4 x5 y0) := by
  unfold b_X11_reason_a734
  (repeat' (with_reducible refine ite_n ?_ ?_)) <;> first | with_reducible exact nb_X11_reason_753 _ _ _ _ _ _ | with_reducible exact nb_X11_reason_a749 _ _ _ _ _ _ _ _ | (with_reducible refine nn ?_ _; decide)
theorem nb_X11_reason_a802 (S : HS) (x1 x2 x3 x4 x5 y0 : Int32) : NN (b_X11_reason_a802 S x1 x2 x3 x4 x5 y0) := by
  unfold b_X11_reason_a802 b_X11_reason_826
  (repeat' (with_reducible refine ite_n ?_ ?_)) <;> first | (with_reducible refine nn ?_ _; decide)
theorem nb_X11_reason_a778 (S : HS) (x1 x2 x3 x4 x5 y0 : Int32) : NN (b_X11_reason_a778 S x1 x2 x3 x4 x5 y0) := by
  unfold b_X11_reason_a778
  (repeat' (with_reducible refine ite_n ?_ ?_)) <;> first | with_reducible exact nb_X11_reason_a802 _ _ _ _ _ _ _ | (with_reducible refine nn ?_ _; decide)
theorem nb_X11_reason_a866 (S : HS) (x1 x2 x3 x4 x5 y0 : Int32) : NN (b_X11_reason_a866 S x1 x2 x3 x4 x5 y0) := by
  unfold b_X11_reason_a866 b_X11_reason_897
  (repeat' (with_reducible refine ite_n ?_ ?_)) <;> first | (with_reducible refine nn ?_ _; decide)
theorem nb_X11_reason_858 (S : HS) (x1 x2 x3 x4 x5 : Int32) : NN (b_X11_reason_858 S x1 x2 x3 x4 x5) := by
  unfold b_X11_reason_858
  (repeat' (with_reducible refine ite_n ?_ ?_)) <;> first | (with_reducible refine nn ?_ _; decide)
theorem nb_X11_reason_a855 (S : HS) (x1 x2 x3 x4 x5 y0 : Int32) : NN (b_X11_reason_a855 S x1 x2 x3 x4 x5 y0) := by
  unfold b_X11_reason_a855
  (repeat' (with_reducible refine ite_n ?_ ?_)) <;> first | with_reducible exact nb_X11_reason_a866 _ _ _ _ _ _ _ | with_reducible exact nb_X11_reason_858 _ _ _ _ _ _ | (with_reducible refine nn ?_ _; decide)
theorem nb_X11_reason_a845 (S : HS) (x1 x2 x3 x4 x5 y0 : Int32) : NN (b_X11_reason_a845 S x1 x2 x3 x4 x5 y0) := by
  unfold b_X11_reason_a845
  (repeat' (with_reducible refine ite_n ?_ ?_)) <;> first | with_reducible exact nb_X11_reason_a855 _ _ _ _ _ _ _ | with_reducible exact nb_X11_reason_858 _ _ _ _ _ _ | (with_reducible refine nn ?_ _; decide)
theorem nb_X11_reason_a906 (S : HS) (x1 x2 x3 x4 x5 y0 : Int32) : NN (b_X11_reason_a906 S x1 x2 x3 x4 x5 y0) := by
  unfold b_X11_reason_a906 b_X11_reason_927
  (repeat' (with_reducible refine ite_n ?_ ?_)) <;> first | (with_reducible refine nn ?_ _; decide)
theorem nb_X11_reason_a936 (S : HS) (x1 x2 x3 x4 x5 y0 : Int32) : NN (b_X11_reason_a936 S x1 x2 x3 x4 x5 y0) := by
  unfold b_X11_reason_a936 b_X11_reason_945
  (repeat' (with_reducible refine ite_n ?_ ?_)) <;> first | (with_reducible refine nn ?_ _; decide)
theorem nf_X11_reason (S : HS) (x1 x2 x3 x4 x5 : Int32) : NN (f_X11_reason S x1 x2 x3 x4 x5) := by
  unfold f_X11_reason b_X11_reason_187 b_X11_reason_225 b_X11_reason_254 b_X11_reason_374 b_X11_reason_454 b_X11_reason_a527 b_X11_reason_a533 b_X11_reason_571 b_X11_reason_a577
  (repeat' (with_reducible refine ite_n ?_ ?_)) <;> first | with_reducible exact nb_X11_reason_a105 _ _ _ _ _ _ _ | with_reducible exact nb_X11_reason_129 _ _ _ _ _ _ | with_reducible exact nb_X11_reason_207 _ _ _ _ _ _ | with_reducible exact nb_X11_reason_a260 _ _ _ _ _ _ _ | with_reducible exact nb_X11_reason_401 _ _ _ _ _ _ | with_reducible exact nb_X11_reason_a407 _ _ _ _ _ _ _ | with_reducible exact nb_X11_reason_a461 _ _ _ _ _ _ _ | with_reducible exact nb_X11_reason_565 _ _ _ _ _ _ | with_reducible exact nb_X11_reason_a593 _ _ _ _ _ _ _ | with_reducible exact nb_X11_reason_a676 _ _ _ _ _ _ _ | with_reducible exact nb_X11_reason_a734 _ _ _ _ _ _ _ | with_reducible exact nb_X11_reason_a778 _ _ _ _ _ _ _ | with_reducible exact nb_X11_reason_a845 _ _ _ _ _ _ _ | with_reducible exact nb_X11_reason_a906 _ _ _ _ _ _ _ | with_reducible exact nb_X11_reason_a936 _ _ _ _ _ _ _ | with_reducible exact nf_X11_reasonOfWord _ _ _ _ _ | with_reducible exact nf_X11_reasonOfLay _ _ | with_reducible exact nf_X11_reasonOfMove _ _ | (with_reducible refine nn ?_ _; decide)
