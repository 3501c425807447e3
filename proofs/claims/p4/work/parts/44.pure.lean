/-! ===== the reasons keep the state ===== -/
theorem ite_s {c : Prop} [Decidable c] {x y : Int32 × HS} {S : HS} (h1 : x.2 = S) (h2 : y.2 = S) : (if c then x else y).2 = S := by
  split
  · exact h1
  · exact h2
theorem seat_t (S : HS) (a : Int32) : (f_X11_isSeat S a).2 = S := rfl
theorem free_l (S : HS) : ∀ (n : Nat) (x : Int32), (lp_X11_free_2 n S x).2 = S := by
  intro n
  induction n with
  | zero => intro x; rfl
  | succ n ih =>
    intro x
    rw [lp_X11_free_2]
    unfold st_X11_free_2
    by_cases c : 8 ≤ x
    · rw [if_pos c]
    rw [if_neg c]
    by_cases z : S.2 34 x.toNatClampNeg = 0
    · rw [if_pos z]
    rw [if_neg z]
    exact ih _
theorem sb_X11_isHere_22 (S : HS) (x1 y0 : Int32) : (b_X11_isHere_22 S x1 y0).2 = S := by
  unfold b_X11_isHere_22
  (repeat' (with_reducible refine ite_s ?_ ?_)) <;> rfl
theorem sb_X11_isHere_21 (S : HS) (x1 : Int32) : (b_X11_isHere_21 S x1).2 = S := by
  unfold b_X11_isHere_21
  (repeat' (with_reducible refine ite_s ?_ ?_)) <;> simp only [sb_X11_isHere_22]
theorem sb_X11_isHere_a5 (S : HS) (x1 y0 : Int32) : (b_X11_isHere_a5 S x1 y0).2 = S := by
  unfold b_X11_isHere_a5
  (repeat' (with_reducible refine ite_s ?_ ?_)) <;> simp only [sb_X11_isHere_21, sb_X11_isHere_22]
theorem sf_X11_isHere (S : HS) (x1 : Int32) : (f_X11_isHere S x1).2 = S := by
  unfold f_X11_isHere
  (repeat' (with_reducible refine ite_s ?_ ?_)) <;> simp only [sb_X11_isHere_a5, seat_t]
theorem sf_X11_free (S : HS) : (f_X11_free S ).2 = S := by
  unfold f_X11_free
  (repeat' (with_reducible refine ite_s ?_ ?_)) <;> simp only [free_l]
theorem sb_X11_reasonOfWord_23 (S : HS) (x1 x2 x3 x4 : Int32) : (b_X11_reasonOfWord_23 S x1 x2 x3 x4).2 = S := by
  unfold b_X11_reasonOfWord_23
  (repeat' (with_reducible refine ite_s ?_ ?_)) <;> rfl
theorem sb_X11_reasonOfWord_68 (S : HS) (x1 x2 x3 x4 : Int32) : (b_X11_reasonOfWord_68 S x1 x2 x3 x4).2 = S := by
  unfold b_X11_reasonOfWord_68
  (repeat' (with_reducible refine ite_s ?_ ?_)) <;> rfl
theorem sb_X11_reasonOfWord_131 (S : HS) (x1 x2 x3 x4 x5 y0 : Int32) : (b_X11_reasonOfWord_131 S x1 x2 x3 x4 x5 y0).2 = S := by
  unfold b_X11_reasonOfWord_131
  (repeat' (with_reducible refine ite_s ?_ ?_)) <;> rfl
theorem sb_X11_reasonOfWord_102 (S : HS) (x1 x2 x3 x4 y0 y1 : Int32) : (b_X11_reasonOfWord_102 S x1 x2 x3 x4 y0 y1).2 = S := by
  unfold b_X11_reasonOfWord_102
  (repeat' (with_reducible refine ite_s ?_ ?_)) <;> simp only [sb_X11_reasonOfWord_131]
theorem sb_X11_reasonOfWord_91 (S : HS) (x1 x2 x3 x4 y0 y1 : Int32) : (b_X11_reasonOfWord_91 S x1 x2 x3 x4 y0 y1).2 = S := by
  unfold b_X11_reasonOfWord_91
  (repeat' (with_reducible refine ite_s ?_ ?_)) <;> simp only [sb_X11_reasonOfWord_102]
theorem sb_X11_reasonOfWord_81 (S : HS) (x1 x2 x3 x4 y0 y1 : Int32) : (b_X11_reasonOfWord_81 S x1 x2 x3 x4 y0 y1).2 = S := by
  unfold b_X11_reasonOfWord_81
  (repeat' (with_reducible refine ite_s ?_ ?_)) <;> simp only [sb_X11_reasonOfWord_91]
theorem sb_X11_reasonOfWord_71 (S : HS) (x1 x2 x3 x4 : Int32) : (b_X11_reasonOfWord_71 S x1 x2 x3 x4).2 = S := by
  unfold b_X11_reasonOfWord_71
  (repeat' (with_reducible refine ite_s ?_ ?_)) <;> simp only [sb_X11_reasonOfWord_81]
theorem sb_X11_reasonOfWord_55 (S : HS) (x1 x2 x3 x4 : Int32) : (b_X11_reasonOfWord_55 S x1 x2 x3 x4).2 = S := by
  unfold b_X11_reasonOfWord_55
  (repeat' (with_reducible refine ite_s ?_ ?_)) <;> simp only [sb_X11_reasonOfWord_71, sb_X11_reasonOfWord_68]
theorem sb_X11_reasonOfWord_44 (S : HS) (x1 x2 x3 x4 : Int32) : (b_X11_reasonOfWord_44 S x1 x2 x3 x4).2 = S := by
  unfold b_X11_reasonOfWord_44
  (repeat' (with_reducible refine ite_s ?_ ?_)) <;> simp only [sb_X11_reasonOfWord_55, sb_X11_reasonOfWord_68]
theorem sb_X11_reasonOfWord_a6 (S : HS) (x1 x2 x3 x4 y0 : Int32) : (b_X11_reasonOfWord_a6 S x1 x2 x3 x4 y0).2 = S := by
  unfold b_X11_reasonOfWord_a6
  (repeat' (with_reducible refine ite_s ?_ ?_)) <;> simp only [sb_X11_reasonOfWord_23, sb_X11_reasonOfWord_68, sb_X11_reasonOfWord_44]
theorem sf_X11_reasonOfWord (S : HS) (x1 x2 x3 x4 : Int32) : (f_X11_reasonOfWord S x1 x2 x3 x4).2 = S := by
  unfold f_X11_reasonOfWord
  (repeat' (with_reducible refine ite_s ?_ ?_)) <;> simp only [sb_X11_reasonOfWord_a6, hasDraft_s]
theorem sb_X11_reasonOfLay_29 (S : HS) (x1 : Int32) : (b_X11_reasonOfLay_29 S x1).2 = S := by
  unfold b_X11_reasonOfLay_29
  (repeat' (with_reducible refine ite_s ?_ ?_)) <;> rfl
theorem sb_X11_reasonOfLay_121 (S : HS) (x1 y0 : Int32) : (b_X11_reasonOfLay_121 S x1 y0).2 = S := by
  unfold b_X11_reasonOfLay_121
  (repeat' (with_reducible refine ite_s ?_ ?_)) <;> rfl
theorem sb_X11_reasonOfLay_120 (S : HS) (x1 : Int32) : (b_X11_reasonOfLay_120 S x1).2 = S := by
  unfold b_X11_reasonOfLay_120
  (repeat' (with_reducible refine ite_s ?_ ?_)) <;> simp only [sb_X11_reasonOfLay_121]
theorem sb_X11_reasonOfLay_a112 (S : HS) (x1 y0 : Int32) : (b_X11_reasonOfLay_a112 S x1 y0).2 = S := by
  unfold b_X11_reasonOfLay_a112
  (repeat' (with_reducible refine ite_s ?_ ?_)) <;> simp only [sb_X11_reasonOfLay_120, sb_X11_reasonOfLay_121]
theorem sb_X11_reasonOfLay_a104 (S : HS) (x1 y0 : Int32) : (b_X11_reasonOfLay_a104 S x1 y0).2 = S := by
  unfold b_X11_reasonOfLay_a104
  (repeat' (with_reducible refine ite_s ?_ ?_)) <;> simp only [sb_X11_reasonOfLay_a112, wantsPlace_s, sb_X11_reasonOfLay_120]
theorem sb_X11_reasonOfLay_100 (S : HS) (x1 : Int32) : (b_X11_reasonOfLay_100 S x1).2 = S := by
  unfold b_X11_reasonOfLay_100
  (repeat' (with_reducible refine ite_s ?_ ?_)) <;> simp only [sb_X11_reasonOfLay_a104, freePlaces_s]
theorem sb_X11_reasonOfLay_a94 (S : HS) (x1 y0 y1 : Int32) : (b_X11_reasonOfLay_a94 S x1 y0 y1).2 = S := by
  unfold b_X11_reasonOfLay_a94
  (repeat' (with_reducible refine ite_s ?_ ?_)) <;> simp only [sb_X11_reasonOfLay_100]
theorem sb_X11_reasonOfLay_a70 (S : HS) (x1 y0 : Int32) : (b_X11_reasonOfLay_a70 S x1 y0).2 = S := by
  unfold b_X11_reasonOfLay_a70
  (repeat' (with_reducible refine ite_s ?_ ?_)) <;> simp only [sb_X11_reasonOfLay_a94, top_s]
theorem sb_X11_reasonOfLay_a38 (S : HS) (x1 y0 : Int32) : (b_X11_reasonOfLay_a38 S x1 y0).2 = S := by
  unfold b_X11_reasonOfLay_a38
  (repeat' (with_reducible refine ite_s ?_ ?_)) <;> simp only [sb_X11_reasonOfLay_100, sb_X11_reasonOfLay_a70, isAbout_s]
theorem sf_X11_reasonOfLay (S : HS) (x1 : Int32) : (f_X11_reasonOfLay S x1).2 = S := by
  unfold f_X11_reasonOfLay
  (repeat' (with_reducible refine ite_s ?_ ?_)) <;> simp only [sb_X11_reasonOfLay_29, sb_X11_reasonOfLay_a38, hasDraft_s]
theorem sb_X11_reasonOfMove_143 (S : HS) (x1 x2 x3 : Int32) : (b_X11_reasonOfMove_143 S x1 x2 x3).2 = S := by
  unfold b_X11_reasonOfMove_143
  (repeat' (with_reducible refine ite_s ?_ ?_)) <;> rfl
theorem sb_X11_reasonOfMove_425 (S : HS) (x1 x2 x3 x4 y0 : Int32) : (b_X11_reasonOfMove_425 S x1 x2 x3 x4 y0).2 = S := by
  unfold b_X11_reasonOfMove_425
  (repeat' (with_reducible refine ite_s ?_ ?_)) <;> rfl
theorem sb_X11_reasonOfMove_424 (S : HS) (x1 x2 x3 x4 : Int32) : (b_X11_reasonOfMove_424 S x1 x2 x3 x4).2 = S := by
  unfold b_X11_reasonOfMove_424
  (repeat' (with_reducible refine ite_s ?_ ?_)) <;> simp only [sb_X11_reasonOfMove_425]
theorem sb_X11_reasonOfMove_a415 (S : HS) (x1 x2 x3 x4 y0 : Int32) : (b_X11_reasonOfMove_a415 S x1 x2 x3 x4 y0).2 = S := by
  unfold b_X11_reasonOfMove_a415
  (repeat' (with_reducible refine ite_s ?_ ?_)) <;> simp only [sb_X11_reasonOfMove_425, sb_X11_reasonOfMove_424]
theorem sb_X11_reasonOfMove_411 (S : HS) (x1 x2 x3 x4 : Int32) : (b_X11_reasonOfMove_411 S x1 x2 x3 x4).2 = S := by
  unfold b_X11_reasonOfMove_411
  (repeat' (with_reducible refine ite_s ?_ ?_)) <;> simp only [sb_X11_reasonOfMove_a415, sf_X11_free]
theorem sb_X11_reasonOfMove_395 (S : HS) (x1 x2 x3 x4 : Int32) : (b_X11_reasonOfMove_395 S x1 x2 x3 x4).2 = S := by
  unfold b_X11_reasonOfMove_395
  (repeat' (with_reducible refine ite_s ?_ ?_)) <;> simp only [sb_X11_reasonOfMove_411, sb_X11_reasonOfMove_424]
theorem sb_X11_reasonOfMove_a383 (S : HS) (x1 x2 x3 x4 x5 x6 y0 y1 y2 : Int32) : (b_X11_reasonOfMove_a383 S x1 x2 x3 x4 x5 x6 y0 y1 y2).2 = S := by
  unfold b_X11_reasonOfMove_a383
  (repeat' (with_reducible refine ite_s ?_ ?_)) <;> simp only [sb_X11_reasonOfMove_395]
theorem sb_X11_reasonOfMove_a374 (S : HS) (x1 x2 x3 x4 x5 x6 y0 y1 : Int32) : (b_X11_reasonOfMove_a374 S x1 x2 x3 x4 x5 x6 y0 y1).2 = S := by
  unfold b_X11_reasonOfMove_a374
  (repeat' (with_reducible refine ite_s ?_ ?_)) <;> simp only [sb_X11_reasonOfMove_a383, top_s]
theorem sb_X11_reasonOfMove_348 (S : HS) (x1 x2 x3 x4 x5 y0 : Int32) : (b_X11_reasonOfMove_348 S x1 x2 x3 x4 x5 y0).2 = S := by
  unfold b_X11_reasonOfMove_348
  (repeat' (with_reducible refine ite_s ?_ ?_)) <;> simp only [sb_X11_reasonOfMove_395, sb_X11_reasonOfMove_a374, top_s]
theorem sb_X11_reasonOfMove_a293 (S : HS) (x1 x2 x3 x4 y0 : Int32) : (b_X11_reasonOfMove_a293 S x1 x2 x3 x4 y0).2 = S := by
  unfold b_X11_reasonOfMove_a293
  (repeat' (with_reducible refine ite_s ?_ ?_)) <;> simp only [sb_X11_reasonOfMove_348]
theorem sb_X11_reasonOfMove_259 (S : HS) (x1 x2 x3 x4 : Int32) : (b_X11_reasonOfMove_259 S x1 x2 x3 x4).2 = S := by
  unfold b_X11_reasonOfMove_259
  (repeat' (with_reducible refine ite_s ?_ ?_)) <;> simp only [sb_X11_reasonOfMove_395, sb_X11_reasonOfMove_a293, top_s]
theorem sb_X11_reasonOfMove_257 (S : HS) (x1 x2 x3 x4 : Int32) : (b_X11_reasonOfMove_257 S x1 x2 x3 x4).2 = S := by
  unfold b_X11_reasonOfMove_257
  (repeat' (with_reducible refine ite_s ?_ ?_)) <;> rfl
theorem sb_X11_reasonOfMove_a253 (S : HS) (x1 x2 x3 x4 y0 y1 : Int32) : (b_X11_reasonOfMove_a253 S x1 x2 x3 x4 y0 y1).2 = S := by
  unfold b_X11_reasonOfMove_a253
  (repeat' (with_reducible refine ite_s ?_ ?_)) <;> simp only [sb_X11_reasonOfMove_259, sb_X11_reasonOfMove_257]
theorem sb_X11_reasonOfMove_239 (S : HS) (x1 x2 x3 x4 : Int32) : (b_X11_reasonOfMove_239 S x1 x2 x3 x4).2 = S := by
  unfold b_X11_reasonOfMove_239
  (repeat' (with_reducible refine ite_s ?_ ?_)) <;> simp only [sb_X11_reasonOfMove_a253, top_s]
theorem sb_X11_reasonOfMove_a235 (S : HS) (x1 x2 x3 x4 y0 y1 : Int32) : (b_X11_reasonOfMove_a235 S x1 x2 x3 x4 y0 y1).2 = S := by
  unfold b_X11_reasonOfMove_a235
  (repeat' (with_reducible refine ite_s ?_ ?_)) <;> simp only [sb_X11_reasonOfMove_239, sb_X11_reasonOfMove_257]
theorem sb_X11_reasonOfMove_196 (S : HS) (x1 x2 x3 y0 : Int32) : (b_X11_reasonOfMove_196 S x1 x2 x3 y0).2 = S := by
  unfold b_X11_reasonOfMove_196
  (repeat' (with_reducible refine ite_s ?_ ?_)) <;> simp only [sb_X11_reasonOfMove_259, sb_X11_reasonOfMove_239, sb_X11_reasonOfMove_a235, top_s, sb_X11_reasonOfMove_257]
theorem sb_X11_reasonOfMove_191 (S : HS) (x1 x2 x3 : Int32) : (b_X11_reasonOfMove_191 S x1 x2 x3).2 = S := by
  unfold b_X11_reasonOfMove_191
  (repeat' (with_reducible refine ite_s ?_ ?_)) <;> simp only [sb_X11_reasonOfMove_196]
theorem sb_X11_reasonOfMove_195 (S : HS) (x1 x2 x3 : Int32) : (b_X11_reasonOfMove_195 S x1 x2 x3).2 = S := by
  unfold b_X11_reasonOfMove_195
  (repeat' (with_reducible refine ite_s ?_ ?_)) <;> simp only [sb_X11_reasonOfMove_196]
theorem sb_X11_reasonOfMove_161 (S : HS) (x1 x2 x3 : Int32) : (b_X11_reasonOfMove_161 S x1 x2 x3).2 = S := by
  unfold b_X11_reasonOfMove_161
  (repeat' (with_reducible refine ite_s ?_ ?_)) <;> simp only [sb_X11_reasonOfMove_191, sb_X11_reasonOfMove_195]
theorem sb_X11_reasonOfMove_a156 (S : HS) (x1 x2 x3 y0 : Int32) : (b_X11_reasonOfMove_a156 S x1 x2 x3 y0).2 = S := by
  unfold b_X11_reasonOfMove_a156
  (repeat' (with_reducible refine ite_s ?_ ?_)) <;> simp only [sb_X11_reasonOfMove_161]
theorem sb_X11_reasonOfMove_127 (S : HS) (x1 x2 x3 : Int32) : (b_X11_reasonOfMove_127 S x1 x2 x3).2 = S := by
  unfold b_X11_reasonOfMove_127
  (repeat' (with_reducible refine ite_s ?_ ?_)) <;> simp only [sb_X11_reasonOfMove_143, sb_X11_reasonOfMove_161, sb_X11_reasonOfMove_a156, seconder_s]
theorem move_l (S : HS) (x1 x2 x3 : Int32) : ∀ (n : Nat) (x4 x : Int32), (lp_X11_reasonOfMove_70 n S x1 x2 x3 x4 x).2 = S := by
  intro n
  induction n with
  | zero => intro x4 x; rfl
  | succ n ih =>
    intro x4 x
    rw [lp_X11_reasonOfMove_70]
    unfold st_X11_reasonOfMove_70
    by_cases c : S.1 6 ≤ x
    · rw [if_pos c]
      dsimp only
      split
      · rfl
      split
      · exact sb_X11_reasonOfMove_127 S x1 x2 x3
      · rfl
    rw [if_neg c]
    by_cases z : x4 = 0
    · rw [if_pos z]
      by_cases y : S.2 14 (S.2 31 x.toNatClampNeg).toNatClampNeg < x3
      · rw [if_pos y]
        exact ih _ _
      · rw [if_neg y]
        exact ih _ _
    · rw [if_neg z]
      exact ih _ _
theorem sb_X11_reasonOfMove_a59 (S : HS) (x1 x2 x3 y0 : Int32) : (b_X11_reasonOfMove_a59 S x1 x2 x3 y0).2 = S := by
  unfold b_X11_reasonOfMove_a59
  (repeat' (with_reducible refine ite_s ?_ ?_)) <;> simp only [sb_X11_reasonOfMove_127]
theorem sb_X11_reasonOfMove_34 (S : HS) (x1 x2 y0 : Int32) : (b_X11_reasonOfMove_34 S x1 x2 y0).2 = S := by
  unfold b_X11_reasonOfMove_34
  (repeat' (with_reducible refine ite_s ?_ ?_)) <;> simp only [sb_X11_reasonOfMove_127, move_l, sb_X11_reasonOfMove_a59, isAbout_s]
theorem sf_X11_reasonOfMove (S : HS) (x1 : Int32) : (f_X11_reasonOfMove S x1).2 = S := by
  unfold f_X11_reasonOfMove
  (repeat' (with_reducible refine ite_s ?_ ?_)) <;> simp only [sb_X11_reasonOfMove_34]
theorem sb_X11_reason_128 (S : HS) (x1 x2 x3 x4 x5 y0 : Int32) : (b_X11_reason_128 S x1 x2 x3 x4 x5 y0).2 = S := by
  unfold b_X11_reason_128
  (repeat' (with_reducible refine ite_s ?_ ?_)) <;> rfl
theorem sb_X11_reason_a105 (S : HS) (x1 x2 x3 x4 x5 y0 : Int32) : (b_X11_reason_a105 S x1 x2 x3 x4 x5 y0).2 = S := by
  unfold b_X11_reason_a105
  (repeat' (with_reducible refine ite_s ?_ ?_)) <;> simp only [sb_X11_reason_128]
theorem sb_X11_reason_157 (S : HS) (x1 x2 x3 x4 x5 y0 : Int32) : (b_X11_reason_157 S x1 x2 x3 x4 x5 y0).2 = S := by
  unfold b_X11_reason_157
  (repeat' (with_reducible refine ite_s ?_ ?_)) <;> rfl
theorem sb_X11_reason_a134 (S : HS) (x1 x2 x3 x4 x5 y0 : Int32) : (b_X11_reason_a134 S x1 x2 x3 x4 x5 y0).2 = S := by
  unfold b_X11_reason_a134
  (repeat' (with_reducible refine ite_s ?_ ?_)) <;> simp only [sb_X11_reason_157]
theorem sb_X11_reason_129 (S : HS) (x1 x2 x3 x4 x5 : Int32) : (b_X11_reason_129 S x1 x2 x3 x4 x5).2 = S := by
  unfold b_X11_reason_129
  (repeat' (with_reducible refine ite_s ?_ ?_)) <;> simp only [sb_X11_reason_a134, seat_t]
theorem sb_X11_reason_187 (S : HS) (x1 x2 x3 x4 x5 y0 : Int32) : (b_X11_reason_187 S x1 x2 x3 x4 x5 y0).2 = S := by
  unfold b_X11_reason_187
  (repeat' (with_reducible refine ite_s ?_ ?_)) <;> rfl
theorem sb_X11_reason_225 (S : HS) (x1 x2 x3 x4 x5 y0 : Int32) : (b_X11_reason_225 S x1 x2 x3 x4 x5 y0).2 = S := by
  unfold b_X11_reason_225
  (repeat' (with_reducible refine ite_s ?_ ?_)) <;> rfl
theorem sb_X11_reason_207 (S : HS) (x1 x2 x3 x4 x5 : Int32) : (b_X11_reason_207 S x1 x2 x3 x4 x5).2 = S := by
  unfold b_X11_reason_207
  (repeat' (with_reducible refine ite_s ?_ ?_)) <;> simp only [sb_X11_reason_225]
theorem sb_X11_reason_254 (S : HS) (x1 x2 x3 x4 x5 y0 : Int32) : (b_X11_reason_254 S x1 x2 x3 x4 x5 y0).2 = S := by
  unfold b_X11_reason_254
  (repeat' (with_reducible refine ite_s ?_ ?_)) <;> rfl
theorem sb_X11_reason_294 (S : HS) (x1 x2 x3 x4 x5 : Int32) : (b_X11_reason_294 S x1 x2 x3 x4 x5).2 = S := by
  unfold b_X11_reason_294
  (repeat' (with_reducible refine ite_s ?_ ?_)) <;> rfl
theorem sb_X11_reason_360 (S : HS) (x1 x2 x3 x4 x5 y0 : Int32) : (b_X11_reason_360 S x1 x2 x3 x4 x5 y0).2 = S := by
  unfold b_X11_reason_360
  (repeat' (with_reducible refine ite_s ?_ ?_)) <;> rfl
theorem sb_X11_reason_354 (S : HS) (x1 x2 x3 x4 x5 : Int32) : (b_X11_reason_354 S x1 x2 x3 x4 x5).2 = S := by
  unfold b_X11_reason_354
  (repeat' (with_reducible refine ite_s ?_ ?_)) <;> simp only [sb_X11_reason_360]
theorem sb_X11_reason_359 (S : HS) (x1 x2 x3 x4 x5 : Int32) : (b_X11_reason_359 S x1 x2 x3 x4 x5).2 = S := by
  unfold b_X11_reason_359
  (repeat' (with_reducible refine ite_s ?_ ?_)) <;> simp only [sb_X11_reason_360]
theorem sb_X11_reason_a346 (S : HS) (x1 x2 x3 x4 x5 y0 : Int32) : (b_X11_reason_a346 S x1 x2 x3 x4 x5 y0).2 = S := by
  unfold b_X11_reason_a346
  (repeat' (with_reducible refine ite_s ?_ ?_)) <;> simp only [sb_X11_reason_359, sb_X11_reason_354]
theorem sb_X11_reason_a327 (S : HS) (x1 x2 x3 x4 x5 y0 : Int32) : (b_X11_reason_a327 S x1 x2 x3 x4 x5 y0).2 = S := by
  unfold b_X11_reason_a327
  (repeat' (with_reducible refine ite_s ?_ ?_)) <;> simp only [sb_X11_reason_359, sb_X11_reason_a346, top_s, sb_X11_reason_354]
theorem sb_X11_reason_a313 (S : HS) (x1 x2 x3 x4 x5 y0 : Int32) : (b_X11_reason_a313 S x1 x2 x3 x4 x5 y0).2 = S := by
  unfold b_X11_reason_a313
  (repeat' (with_reducible refine ite_s ?_ ?_)) <;> simp only [sb_X11_reason_354, sb_X11_reason_a327, top_s]
theorem sb_X11_reason_a260 (S : HS) (x1 x2 x3 x4 x5 y0 : Int32) : (b_X11_reason_a260 S x1 x2 x3 x4 x5 y0).2 = S := by
  unfold b_X11_reason_a260
  (repeat' (with_reducible refine ite_s ?_ ?_)) <;> simp only [sb_X11_reason_294, sb_X11_reason_a313, top_s]
theorem sb_X11_reason_374 (S : HS) (x1 x2 x3 x4 x5 y0 : Int32) : (b_X11_reason_374 S x1 x2 x3 x4 x5 y0).2 = S := by
  unfold b_X11_reason_374
  (repeat' (with_reducible refine ite_s ?_ ?_)) <;> rfl
theorem sb_X11_reason_401 (S : HS) (x1 x2 x3 x4 x5 : Int32) : (b_X11_reason_401 S x1 x2 x3 x4 x5).2 = S := by
  unfold b_X11_reason_401
  (repeat' (with_reducible refine ite_s ?_ ?_)) <;> rfl
theorem sb_X11_reason_437 (S : HS) (x1 x2 x3 x4 x5 y0 : Int32) : (b_X11_reason_437 S x1 x2 x3 x4 x5 y0).2 = S := by
  unfold b_X11_reason_437
  (repeat' (with_reducible refine ite_s ?_ ?_)) <;> rfl
theorem sb_X11_reason_a420 (S : HS) (x1 x2 x3 x4 x5 y0 : Int32) : (b_X11_reason_a420 S x1 x2 x3 x4 x5 y0).2 = S := by
  unfold b_X11_reason_a420
  (repeat' (with_reducible refine ite_s ?_ ?_)) <;> simp only [sb_X11_reason_437]
theorem sb_X11_reason_a407 (S : HS) (x1 x2 x3 x4 x5 y0 : Int32) : (b_X11_reason_a407 S x1 x2 x3 x4 x5 y0).2 = S := by
  unfold b_X11_reason_a407
  (repeat' (with_reducible refine ite_s ?_ ?_)) <;> simp only [sb_X11_reason_a420, top_s]
theorem sb_X11_reason_454 (S : HS) (x1 x2 x3 x4 x5 y0 : Int32) : (b_X11_reason_454 S x1 x2 x3 x4 x5 y0).2 = S := by
  unfold b_X11_reason_454
  (repeat' (with_reducible refine ite_s ?_ ?_)) <;> rfl
theorem sb_X11_reason_516 (S : HS) (x1 x2 x3 x4 x5 y0 : Int32) : (b_X11_reason_516 S x1 x2 x3 x4 x5 y0).2 = S := by
  unfold b_X11_reason_516
  (repeat' (with_reducible refine ite_s ?_ ?_)) <;> rfl
theorem sb_X11_reason_478 (S : HS) (x1 x2 x3 x4 x5 : Int32) : (b_X11_reason_478 S x1 x2 x3 x4 x5).2 = S := by
  unfold b_X11_reason_478
  (repeat' (with_reducible refine ite_s ?_ ?_)) <;> simp only [sb_X11_reason_516]
theorem sb_X11_reason_510 (S : HS) (x1 x2 x3 x4 x5 : Int32) : (b_X11_reason_510 S x1 x2 x3 x4 x5).2 = S := by
  unfold b_X11_reason_510
  (repeat' (with_reducible refine ite_s ?_ ?_)) <;> simp only [sb_X11_reason_516]
theorem sb_X11_reason_a461 (S : HS) (x1 x2 x3 x4 x5 y0 : Int32) : (b_X11_reason_a461 S x1 x2 x3 x4 x5 y0).2 = S := by
  unfold b_X11_reason_a461
  (repeat' (with_reducible refine ite_s ?_ ?_)) <;> simp only [sb_X11_reason_478, sb_X11_reason_510, sb_X11_reason_516]
theorem sb_X11_reason_a527 (S : HS) (x1 x2 x3 x4 x5 y0 : Int32) : (b_X11_reason_a527 S x1 x2 x3 x4 x5 y0).2 = S := by
  unfold b_X11_reason_a527
  (repeat' (with_reducible refine ite_s ?_ ?_)) <;> rfl
theorem sb_X11_reason_a533 (S : HS) (x1 x2 x3 x4 x5 y0 : Int32) : (b_X11_reason_a533 S x1 x2 x3 x4 x5 y0).2 = S := by
  unfold b_X11_reason_a533
  (repeat' (with_reducible refine ite_s ?_ ?_)) <;> rfl
theorem sb_X11_reason_571 (S : HS) (x1 x2 x3 x4 x5 y0 : Int32) : (b_X11_reason_571 S x1 x2 x3 x4 x5 y0).2 = S := by
  unfold b_X11_reason_571
  (repeat' (with_reducible refine ite_s ?_ ?_)) <;> rfl
theorem sb_X11_reason_565 (S : HS) (x1 x2 x3 x4 x5 : Int32) : (b_X11_reason_565 S x1 x2 x3 x4 x5).2 = S := by
  unfold b_X11_reason_565
  (repeat' (with_reducible refine ite_s ?_ ?_)) <;> simp only [sb_X11_reason_571]
theorem sb_X11_reason_a577 (S : HS) (x1 x2 x3 x4 x5 y0 : Int32) : (b_X11_reason_a577 S x1 x2 x3 x4 x5 y0).2 = S := by
  unfold b_X11_reason_a577
  (repeat' (with_reducible refine ite_s ?_ ?_)) <;> rfl
theorem sb_X11_reason_632 (S : HS) (x1 x2 x3 x4 x5 : Int32) : (b_X11_reason_632 S x1 x2 x3 x4 x5).2 = S := by
  unfold b_X11_reason_632
  (repeat' (with_reducible refine ite_s ?_ ?_)) <;> rfl
theorem sb_X11_reason_660 (S : HS) (x1 x2 x3 x4 x5 y0 : Int32) : (b_X11_reason_660 S x1 x2 x3 x4 x5 y0).2 = S := by
  unfold b_X11_reason_660
  (repeat' (with_reducible refine ite_s ?_ ?_)) <;> rfl
theorem sb_X11_reason_655 (S : HS) (x1 x2 x3 x4 x5 : Int32) : (b_X11_reason_655 S x1 x2 x3 x4 x5).2 = S := by
  unfold b_X11_reason_655
  (repeat' (with_reducible refine ite_s ?_ ?_)) <;> simp only [sb_X11_reason_660]
theorem sb_X11_reason_a643 (S : HS) (x1 x2 x3 x4 x5 y0 y1 : Int32) : (b_X11_reason_a643 S x1 x2 x3 x4 x5 y0 y1).2 = S := by
  unfold b_X11_reason_a643
  (repeat' (with_reducible refine ite_s ?_ ?_)) <;> simp only [sb_X11_reason_655, sb_X11_reason_660]
theorem sb_X11_reason_a626 (S : HS) (x1 x2 x3 x4 x5 y0 : Int32) : (b_X11_reason_a626 S x1 x2 x3 x4 x5 y0).2 = S := by
  unfold b_X11_reason_a626
  (repeat' (with_reducible refine ite_s ?_ ?_)) <;> simp only [sb_X11_reason_632, sb_X11_reason_a643, top_s]
theorem sb_X11_reason_a615 (S : HS) (x1 x2 x3 x4 x5 y0 : Int32) : (b_X11_reason_a615 S x1 x2 x3 x4 x5 y0).2 = S := by
  unfold b_X11_reason_a615
  (repeat' (with_reducible refine ite_s ?_ ?_)) <;> simp only [sb_X11_reason_a626, top_s, sb_X11_reason_632]
theorem sb_X11_reason_a593 (S : HS) (x1 x2 x3 x4 x5 y0 : Int32) : (b_X11_reason_a593 S x1 x2 x3 x4 x5 y0).2 = S := by
  unfold b_X11_reason_a593
  (repeat' (with_reducible refine ite_s ?_ ?_)) <;> simp only [sb_X11_reason_a615, seconder_s]
theorem sb_X11_reason_688 (S : HS) (x1 x2 x3 x4 x5 : Int32) : (b_X11_reason_688 S x1 x2 x3 x4 x5).2 = S := by
  unfold b_X11_reason_688
  (repeat' (with_reducible refine ite_s ?_ ?_)) <;> rfl
theorem sb_X11_reason_715 (S : HS) (x1 x2 x3 x4 x5 y0 : Int32) : (b_X11_reason_715 S x1 x2 x3 x4 x5 y0).2 = S := by
  unfold b_X11_reason_715
  (repeat' (with_reducible refine ite_s ?_ ?_)) <;> rfl
theorem sb_X11_reason_a707 (S : HS) (x1 x2 x3 x4 x5 y0 : Int32) : (b_X11_reason_a707 S x1 x2 x3 x4 x5 y0).2 = S := by
  unfold b_X11_reason_a707
  (repeat' (with_reducible refine ite_s ?_ ?_)) <;> simp only [sb_X11_reason_715]
theorem sb_X11_reason_a676 (S : HS) (x1 x2 x3 x4 x5 y0 : Int32) : (b_X11_reason_a676 S x1 x2 x3 x4 x5 y0).2 = S := by
  unfold b_X11_reason_a676
  (repeat' (with_reducible refine ite_s ?_ ?_)) <;> simp only [sb_X11_reason_688, sb_X11_reason_a707, seconder_s]
theorem sb_X11_reason_753 (S : HS) (x1 x2 x3 x4 x5 : Int32) : (b_X11_reason_753 S x1 x2 x3 x4 x5).2 = S := by
  unfold b_X11_reason_753
  (repeat' (with_reducible refine ite_s ?_ ?_)) <;> rfl
theorem sb_X11_reason_769 (S : HS) (x1 x2 x3 x4 x5 y0 : Int32) : (b_X11_reason_769 S x1 x2 x3 x4 x5 y0).2 = S := by
  unfold b_X11_reason_769
  (repeat' (with_reducible refine ite_s ?_ ?_)) <;> rfl
theorem sb_X11_reason_a760 (S : HS) (x1 x2 x3 x4 x5 y0 : Int32) : (b_X11_reason_a760 S x1 x2 x3 x4 x5 y0).2 = S := by
  unfold b_X11_reason_a760
  (repeat' (with_reducible refine ite_s ?_ ?_)) <;> simp only [sb_X11_reason_769]
theorem sb_X11_reason_a749 (S : HS) (x1 x2 x3 x4 x5 y0 y1 : Int32) : (b_X11_reason_a749 S x1 x2 x3 x4 x5 y0 y1).2 = S := by
  unfold b_X11_reason_a749
  (repeat' (with_reducible refine ite_s ?_ ?_)) <;> simp only [sb_X11_reason_a760, sf_X11_isHere, sb_X11_reason_753]
theorem sb_X11_reason_a734 (S : HS) (x1 x2 x3 x4 x5 y0 : Int32) : (b_X11_reason_a734 S x1 x2 x3 x4 x5 y0).2 = S := by
  unfold b_X11_reason_a734
  (repeat' (with_reducible refine ite_s ?_ ?_)) <;> simp only [sb_X11_reason_753, sb_X11_reason_a749, top_s]
theorem sb_X11_reason_826 (S : HS) (x1 x2 x3 x4 x5 y0 : Int32) : (b_X11_reason_826 S x1 x2 x3 x4 x5 y0).2 = S := by
  unfold b_X11_reason_826
  (repeat' (with_reducible refine ite_s ?_ ?_)) <;> rfl
theorem sb_X11_reason_a802 (S : HS) (x1 x2 x3 x4 x5 y0 : Int32) : (b_X11_reason_a802 S x1 x2 x3 x4 x5 y0).2 = S := by
  unfold b_X11_reason_a802
  (repeat' (with_reducible refine ite_s ?_ ?_)) <;> simp only [sb_X11_reason_826]
theorem sb_X11_reason_a778 (S : HS) (x1 x2 x3 x4 x5 y0 : Int32) : (b_X11_reason_a778 S x1 x2 x3 x4 x5 y0).2 = S := by
  unfold b_X11_reason_a778
  (repeat' (with_reducible refine ite_s ?_ ?_)) <;> simp only [sb_X11_reason_a802, top_s]
theorem sb_X11_reason_897 (S : HS) (x1 x2 x3 x4 x5 y0 : Int32) : (b_X11_reason_897 S x1 x2 x3 x4 x5 y0).2 = S := by
  unfold b_X11_reason_897
  (repeat' (with_reducible refine ite_s ?_ ?_)) <;> rfl
theorem sb_X11_reason_a866 (S : HS) (x1 x2 x3 x4 x5 y0 : Int32) : (b_X11_reason_a866 S x1 x2 x3 x4 x5 y0).2 = S := by
  unfold b_X11_reason_a866
  (repeat' (with_reducible refine ite_s ?_ ?_)) <;> simp only [sb_X11_reason_897]
theorem sb_X11_reason_858 (S : HS) (x1 x2 x3 x4 x5 : Int32) : (b_X11_reason_858 S x1 x2 x3 x4 x5).2 = S := by
  unfold b_X11_reason_858
  (repeat' (with_reducible refine ite_s ?_ ?_)) <;> rfl
theorem sb_X11_reason_a855 (S : HS) (x1 x2 x3 x4 x5 y0 : Int32) : (b_X11_reason_a855 S x1 x2 x3 x4 x5 y0).2 = S := by
  unfold b_X11_reason_a855
  (repeat' (with_reducible refine ite_s ?_ ?_)) <;> simp only [sb_X11_reason_a866, seat_t, sb_X11_reason_858]
theorem sb_X11_reason_a845 (S : HS) (x1 x2 x3 x4 x5 y0 : Int32) : (b_X11_reason_a845 S x1 x2 x3 x4 x5 y0).2 = S := by
  unfold b_X11_reason_a845
  (repeat' (with_reducible refine ite_s ?_ ?_)) <;> simp only [sb_X11_reason_a855, seconder_s, sb_X11_reason_858]
theorem sb_X11_reason_927 (S : HS) (x1 x2 x3 x4 x5 y0 : Int32) : (b_X11_reason_927 S x1 x2 x3 x4 x5 y0).2 = S := by
  unfold b_X11_reason_927
  (repeat' (with_reducible refine ite_s ?_ ?_)) <;> rfl
theorem sb_X11_reason_a906 (S : HS) (x1 x2 x3 x4 x5 y0 : Int32) : (b_X11_reason_a906 S x1 x2 x3 x4 x5 y0).2 = S := by
  unfold b_X11_reason_a906
  (repeat' (with_reducible refine ite_s ?_ ?_)) <;> simp only [sb_X11_reason_927]
theorem sb_X11_reason_945 (S : HS) (x1 x2 x3 x4 x5 y0 : Int32) : (b_X11_reason_945 S x1 x2 x3 x4 x5 y0).2 = S := by
  unfold b_X11_reason_945
  (repeat' (with_reducible refine ite_s ?_ ?_)) <;> rfl
theorem sb_X11_reason_a936 (S : HS) (x1 x2 x3 x4 x5 y0 : Int32) : (b_X11_reason_a936 S x1 x2 x3 x4 x5 y0).2 = S := by
  unfold b_X11_reason_a936
  (repeat' (with_reducible refine ite_s ?_ ?_)) <;> simp only [sb_X11_reason_945]
theorem sf_X11_reason (S : HS) (x1 x2 x3 x4 x5 : Int32) : (f_X11_reason S x1 x2 x3 x4 x5).2 = S := by
  unfold f_X11_reason
  (repeat' (with_reducible refine ite_s ?_ ?_)) <;> simp only [sb_X11_reason_a105, seat_t, sb_X11_reason_129, sb_X11_reason_187, sb_X11_reason_207, sb_X11_reason_225, sb_X11_reason_254, sb_X11_reason_a260, sb_X11_reason_374, sb_X11_reason_401, sb_X11_reason_a407, seconder_s, sb_X11_reason_454, sb_X11_reason_a461, hasDraft_s, sb_X11_reason_a527, sf_X11_reasonOfWord, sb_X11_reason_a533, sf_X11_reasonOfLay, sb_X11_reason_571, sb_X11_reason_565, sb_X11_reason_a577, sf_X11_reasonOfMove, sb_X11_reason_a593, sb_X11_reason_a676, sb_X11_reason_a734, top_s, sb_X11_reason_a778, sf_X11_isHere, sb_X11_reason_a845, sb_X11_reason_a906, sb_X11_reason_a936]
