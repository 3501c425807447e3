/-! ===== an act does what it does: safe, and the invariant is kept ===== -/
theorem hi_10 {N : Int} {S : HS} (h : HI N S) (v : Int32) : HI N (sI S 10 v) := h
theorem hi_11 {N : Int} {S : HS} (h : HI N S) (i : Nat) (v : Int32) : HI N (sA S 11 i v) := h
theorem hi_12 {N : Int} {S : HS} (h : HI N S) (i : Nat) (v : Int32) : HI N (sA S 12 i v) := h
theorem hi_17 {N : Int} {S : HS} (h : HI N S) (i : Nat) (v : Int32) : HI N (sA S 17 i v) := h
theorem hi_18 {N : Int} {S : HS} (h : HI N S) (i : Nat) (v : Int32) : HI N (sA S 18 i v) := h
theorem hi_1 {N : Int} {S : HS} (h : HI N S) (v : Int32) : HI N (sI S 1 v) := h
theorem hi_2 {N : Int} {S : HS} (h : HI N S) (v : Int32) : HI N (sI S 2 v) := h
theorem hi_3 {N : Int} {S : HS} (h : HI N S) (v : Int32) : HI N (sI S 3 v) := h
theorem hi_4 {N : Int} {S : HS} (h : HI N S) (v : Int32) : HI N (sI S 4 v) := h
theorem d_7 {N : Int} {S : HS} (h : HI N S) (hp : 1 ≤ (S.1 6).toInt) (x1 x2 x3 x4 x5 : Int32) :
    (p_X11_top S ∧ q_X11_does_a231 (f_X11_top S).2 x1 x2 x3 x4 x5 (f_X11_top S).1) ∧ DO N S (b_X11_does_a231 (f_X11_top S).2 x1 x2 x3 x4 x5 (f_X11_top S).1).2 := by
  have t := top_in h.ra hp
  have v : vp_in (f_X11_top S).1 90 := vIn t.1 t.2
  exact ⟨⟨top_p h.ra hp, v, v, top_p (S := sA S 17 _ _) h.ra hp, v, True.intro⟩, DO.of (hi_17 h _ _) rfl rfl⟩
theorem d_9 {N : Int} {S : HS} (h : HI N S) (hp : 1 ≤ (S.1 6).toInt) (x1 x2 x3 x4 x5 : Int32) :
    (p_X11_top S ∧ q_X11_does_a268 (f_X11_top S).2 x1 x2 x3 x4 x5 (f_X11_top S).1) ∧ DO N S (b_X11_does_a268 (f_X11_top S).2 x1 x2 x3 x4 x5 (f_X11_top S).1).2 := by
  have t := top_in h.ra hp
  have v : vp_in (f_X11_top S).1 90 := vIn t.1 t.2
  exact ⟨⟨top_p h.ra hp, v, v, top_p (S := sA S 18 _ _) h.ra hp, v, True.intro⟩, DO.of (hi_18 h _ _) rfl rfl⟩
theorem d_16 {N : Int} {S : HS} (h : HI N S) (hp : 1 ≤ (S.1 6).toInt) (x1 x2 x3 x4 x5 : Int32) : q_X11_does_390 S x1 x2 x3 x4 x5 ∧ DO N S (b_X11_does_390 S x1 x2 x3 x4 x5).2 := by
  have t := top_in h.ra hp
  have v : vp_in (f_X11_top S).1 90 := vIn t.1 t.2
  exact ⟨⟨top_p h.ra hp, v, True.intro⟩, DO.of (hi_16 h _ _) rfl rfl⟩
theorem d_1 {N : Int} {S : HS} (h : HI N S) {x2 : Int32} (v : vp_in x2 200) (a : Int32) (i : Nat) (b : Int32) : DO N S (sI (sA S 11 i a) 1 b) := DO.of (hi_1 (hi_11 h _ _) _) rfl rfl
theorem DO.up {N M : Int} {S r : HS} (h : DO N S r) (q : N ≤ M) : DO M S r := ⟨h.1.up q, h.2⟩
theorem seat_v {S : HS} (h : RA S) {x : Int32} (r : ¬ (f_X11_isSeat S x).1 = 0) : vp_in x 200 := seat_in h r
theorem does_i {N : Int} {S : HS} (h : HI N S) (hN0 : 0 ≤ N) (hN6 : N ≤ 1000000) (hr : 0 ≤ (S.1 8).toInt ∧ (S.1 8).toInt < 600) (v x1 x2 x3 x4 x5 : Int32) (r : (f_X11_reason S x1 x2 x3 x4 x5).1 = 0) :
    p_X11_does (sI S 10 v) x1 x2 x3 x4 x5 ∧ DO (N + 1) (sI S 10 v) (f_X11_does (sI S 10 v) x1 x2 x3 x4 x5).2 := by
  have hT := hi_10 h v
  have hNN : N ≤ N + 1 := by omega
  have pp : (S.1 6) ≠ 0 → 1 ≤ ((sI S 10 v).1 6).toInt := fun q => pend_pos h.ra q
  have b7 : ∀ y : Int32, y ≠ 0 → ¬ ((y, S) : Int32 × HS).1 = 0 := fun y q => q
  unfold f_X11_reason at r
  unfold p_X11_does f_X11_does
  by_cases c1 : x1 = 1
  · rw [if_pos c1] at r
    rw [if_pos c1, if_pos c1]
    have s := seat_v h.ra (rf_105 r)
    exact ⟨⟨s, True.intro⟩, DO.up (DO.of (hi_1 (hi_11 hT _ _) _) rfl rfl) hNN⟩
  rw [if_neg c1] at r
  rw [if_neg c1, if_neg c1]
  by_cases c2 : x1 = 2
  · rw [if_pos c2] at r
    rw [if_pos c2, if_pos c2]
    have s := seat_v h.ra (rf_129 r)
    refine ⟨⟨s, ?_⟩, ?_⟩
    · split <;> exact True.intro
    · split
      · exact DO.up (DO.of (hi_5 (hi_1 (hi_11 hT _ _) _) _) rfl rfl) hNN
      · exact DO.up (DO.of (hi_1 (hi_11 hT _ _) _) rfl rfl) hNN
  rw [if_neg c2] at r
  rw [if_neg c2, if_neg c2]
  by_cases c3 : x1 = 3
  · rw [if_pos c3, if_pos c3]
    exact ⟨True.intro, DO.up (DO.of (hi_3 hT _) rfl rfl) hNN⟩
  rw [if_neg c3] at r
  rw [if_neg c3, if_neg c3]
  by_cases c4 : x1 = 4
  · rw [if_pos c4, if_pos c4]
    refine ⟨?_, ?_⟩
    · split <;> exact True.intro
    · split
      · exact DO.up (DO.of (hi_5 (hi_2 hT _) _) rfl rfl) hNN
      · exact DO.up (DO.of (hi_2 hT _) rfl rfl) hNN
  rw [if_neg c4] at r
  rw [if_neg c4, if_neg c4]
  by_cases c5 : x1 = 5
  · rw [if_pos c5] at r
    rw [if_pos c5, if_pos c5]
    by_cases z : f_X12_in x2 1 8 = 0
    · rw [if_pos z] at r
      exact absurd (show (9 : Int32) = 0 from r) (by decide)
    have a := in_of z
    have e8 : (8 : Int32).toInt = 8 := by decide
    rw [i1, e8] at a
    have s : vp_in x2 9 := vIn (by omega) (by omega)
    exact ⟨⟨s, s, True.intro⟩, DO.up (DO.of (hi_12 hT _ _) rfl rfl) hNN⟩
  rw [if_neg c5] at r
  rw [if_neg c5, if_neg c5]
  by_cases c6 : x1 = 6
  · rw [if_pos c6, if_pos c6]
    exact ⟨True.intro, DO.up (DO.of (hi_4 hT _) rfl rfl) hNN⟩
  rw [if_neg c6] at r
  rw [if_neg c6, if_neg c6]
  by_cases c7 : x1 = 7
  · rw [if_pos c7, if_pos c7]
    have h5 := hi_5 hT x2
    by_cases z : (sI (sI S 10 v) 5 x2).1 6 = 0
    · rw [if_pos z, if_pos z]
      exact ⟨True.intro, DO.up (DO.of h5 rfl rfl) hNN⟩
    · rw [if_neg z, if_neg z]
      have d := d_7 h5 (pend_pos h5.ra z) x1 x2 x3 x4 x5
      exact ⟨d.1, d.2.1.up hNN, d.2.2.1, d.2.2.2⟩
  rw [if_neg c7] at r
  rw [if_neg c7, if_neg c7]
  by_cases c8 : x1 = 8
  · rw [if_pos c8, if_pos c8]
    exact ⟨True.intro, DO.up (DO.of (hi_5 hT _) rfl rfl) hNN⟩
  rw [if_neg c8] at r
  rw [if_neg c8, if_neg c8]
  by_cases c9 : x1 = 9
  · rw [if_pos c9] at r
    rw [if_pos c9, if_pos c9]
    by_cases z : S.1 6 = 0
    · rw [if_pos z] at r
      exact absurd (show (7 : Int32) = 0 from r) (by decide)
    have d := d_9 hT (pp z) x1 x2 x3 x4 x5
    exact ⟨d.1, d.2.up hNN⟩
  rw [if_neg c9] at r
  rw [if_neg c9, if_neg c9]
  by_cases c10 : x1 = 10
  · rw [if_pos c10] at r
    rw [if_pos c10, if_pos c10]
    by_cases z : f_X12_in x2 1 8 = 0
    · rw [if_pos z] at r
      exact absurd (show (9 : Int32) = 0 from r) (by decide)
    have a := in_of z
    have e8 : (8 : Int32).toInt = 8 := by decide
    rw [i1, e8] at a
    exact d_10 hT hN0 hN6 a x1 x3 x4 x5
  rw [if_neg c10] at r
  rw [if_neg c10, if_neg c10]
  by_cases c11 : x1 = 11
  · rw [if_pos c11] at r
    rw [if_pos c11, if_pos c11]
    have f := rf_461 r
    exact d_11 hT hN0 f.1 f.2.1 f.2.2.1 f.2.2.2.1 f.2.2.2.2
  rw [if_neg c11] at r
  rw [if_neg c11, if_neg c11]
  by_cases c12 : x1 = 12
  · rw [if_pos c12] at r
    rw [if_pos c12, if_pos c12]
    have f := rf_word (S := S) r (fun a b => (h.1.2.2.2.2.1 1 0 ⟨by omega, by have := one_n h a b; omega⟩).2.1)
    exact d_12 hT f.1 f.2.1 x1 x2 x3 x4 x5 f.2.2
  rw [if_neg c12] at r
  rw [if_neg c12, if_neg c12]
  by_cases c13 : x1 = 13
  · rw [if_pos c13] at r
    rw [if_pos c13, if_pos c13]
    have f := rf_lay (S := S) h.ra r
    have w := lay_w (S := S) h r
    exact ⟨⟨lay_d hT.ra f.2.1 f.1 f.2.2.2.1, True.intro⟩, d_13 hT f.2.1 f.1 f.2.2.1 w⟩
  rw [if_neg c13] at r
  rw [if_neg c13, if_neg c13]
  by_cases c14 : x1 = 14
  · rw [if_pos c14] at r
    rw [if_pos c14, if_pos c14]
    by_cases z : f_X12_in x2 0 7 = 0
    · rw [if_pos z] at r
      exact absurd (show (9 : Int32) = 0 from r) (by decide)
    rw [if_neg z] at r
    by_cases y : 0 < S.1 35
    · rw [if_pos y] at r
      exact absurd (show (11 : Int32) = 0 from r) (by decide)
    rw [if_neg y] at r
    have y := mt iLt.mpr y
    rw [i0] at y
    by_cases w : S.2 34 x2.toNatClampNeg = 0
    · rw [if_pos w] at r
      exact absurd (show (11 : Int32) = 0 from r) (by decide)
    have d := d_14 hT (show (S.1 35).toInt ≤ 0 by omega) (in_07 z) w
    exact ⟨⟨d.1, True.intro⟩, d.2⟩
  rw [if_neg c14] at r
  rw [if_neg c14, if_neg c14]
  by_cases c15 : x1 = 15
  · rw [if_pos c15] at r
    rw [if_pos c15, if_pos c15]
    have f := rf_move h hN6 r
    have d := d_15 hT f.1 x2 f.2.1 f.2.2
    exact ⟨⟨d.1, True.intro⟩, d.2⟩
  rw [if_neg c15] at r
  rw [if_neg c15, if_neg c15]
  by_cases c16 : x1 = 16
  · rw [if_pos c16] at r
    rw [if_pos c16, if_pos c16]
    by_cases z : S.1 6 = 0
    · rw [if_pos z] at r
      exact absurd (show (7 : Int32) = 0 from r) (by decide)
    have d := d_16 hT (pp z) x1 x2 x3 x4 x5
    exact ⟨d.1, d.2.up hNN⟩
  rw [if_neg c16] at r
  rw [if_neg c16, if_neg c16]
  by_cases c17 : x1 = 17
  · rw [if_pos c17] at r
    rw [if_pos c17, if_pos c17]
    by_cases z : S.1 6 = 0
    · rw [if_pos z] at r
      exact absurd (show (7 : Int32) = 0 from r) (by decide)
    rw [if_neg z] at r
    have s : ¬ (f_X11_isSeat S x2).1 = 0 := fun q => by
      unfold b_X11_reason_a676 at r
      rw [if_pos q] at r
      exact absurd (show (9 : Int32) = 0 from r) (by decide)
    exact d_17 hT (pp z) (seat_v h.ra s) x1 x3 x4 x5
  rw [if_neg c17] at r
  rw [if_neg c17, if_neg c17]
  by_cases c18 : x1 = 18
  · rw [if_pos c18] at r
    rw [if_pos c18, if_pos c18]
    by_cases z : S.1 6 = 0
    · rw [if_pos z] at r
      exact absurd (show (7 : Int32) = 0 from r) (by decide)
    have g := goes_i hT (pp z)
    have g7 : (f_X11_goes (sI S 10 v)).2.1 7 = (sI S 10 v).1 7 := by rw [goes_e]; rfl
    have g8 : (f_X11_goes (sI S 10 v)).2.1 8 = (sI S 10 v).1 8 := by rw [goes_e]; rfl
    exact ⟨⟨goes_p hT.ra (pp z), True.intro⟩, g.up hNN, g7, Or.inl g8⟩
  rw [if_neg c18] at r
  rw [if_neg c18, if_neg c18]
  by_cases c19 : x1 = 19
  · rw [if_pos c19] at r
    rw [if_pos c19, if_pos c19]
    rw [sf_X11_isHere] at r
    unfold b_X11_reason_a778 at r
    by_cases y : (f_X11_isHere S (S.1 2)).1 = 0
    · rw [if_pos y] at r
      exact absurd (show (8 : Int32) = 0 from r) (by decide)
    rw [if_neg y] at r
    by_cases z : S.1 6 = 0
    · rw [if_pos z] at r
      exact absurd (show (7 : Int32) = 0 from r) (by decide)
    rw [if_neg z, top_s] at r
    unfold b_X11_reason_a802 at r
    by_cases w : S.2 14 (f_X11_top S).1.toNatClampNeg = 9
    · rw [if_pos w] at r
      exact absurd (show (11 : Int32) = 0 from r) (by decide)
    rw [if_neg w] at r
    by_cases u : S.1 6 = 9
    · rw [if_pos u] at r
      exact absurd (show (10 : Int32) = 0 from r) (by decide)
    have u := mt iEq.mpr u
    have e9 : (9 : Int32).toInt = 9 := by decide
    rw [e9] at u
    have n6 := h.ra.2.1
    exact d_19 hT hN0 hN6 (pp z) (show (S.1 6).toInt ≤ 8 by omega) x1 x2 x3 x4 x5
  rw [if_neg c19] at r
  rw [if_neg c19, if_neg c19]
  by_cases c20 : x1 = 20
  · rw [if_pos c20] at r
    rw [if_pos c20, if_pos c20]
    by_cases z : S.1 6 = 0
    · rw [if_pos z] at r
      exact absurd (show (7 : Int32) = 0 from r) (by decide)
    have d := d_16 hT (pp z) x1 x2 x3 x4 x5
    exact ⟨d.1, d.2.up hNN⟩
  rw [if_neg c20] at r
  rw [if_neg c20, if_neg c20]
  by_cases c21 : x1 = 21
  · rw [if_pos c21] at r
    rw [if_pos c21, if_pos c21]
    rw [sf_X11_isHere] at r
    unfold b_X11_reason_a906 at r
    by_cases y : (f_X11_isHere S (S.1 2)).1 = 0
    · rw [if_pos y] at r
      exact absurd (show (8 : Int32) = 0 from r) (by decide)
    rw [if_neg y] at r
    by_cases z : S.1 6 = 0
    · rw [if_pos z] at r
      exact absurd (show (7 : Int32) = 0 from r) (by decide)
    have d := d_21 hT hN0 hN6 (pp z) hr
    exact ⟨⟨d.1, True.intro⟩, d.2⟩
  rw [if_neg c21, if_neg c21]
  have n6 := hT.ra.2.1
  exact d_22 x1 x2 x3 x4 x5 ((sI S 10 v).1 6) 100000 (sI S 10 v) hT (by omega)
