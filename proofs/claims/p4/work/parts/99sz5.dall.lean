/-! ===== all deeds ===== -/
section
variable {wF : Prop × (Nat → Int32) × Int32 × (Nat → Int32)} {x : Nat} {S S1 S2 S3 S4 : Cst} {T T1 T2 T3 : Nat → List Nat} {F F1 : List Nat} {col c1 c2 c3 : Nat → Nat} {H H2 G R : HS} {N N2 M M2 : Int}
theorem DS.up {f : Int32 × Cst} {g : Int32 × HS} (h : DS wF N x S T col f g) (q : N ≤ N2) : DS wF N2 x S T col f g := by
  obtain ⟨S2, T2, c2, a, b, r⟩ := h
  exact ⟨S2, T2, c2, a, b, r.up q⟩
theorem se_of (h : RA H) {i : Int32} (q : ¬ (f_X11_isSeat H i).1 = 0) : sE H i := by
  rw [seat_f h] at q
  by_cases z : 0 ≤ i.toInt ∧ i.toInt < (H.1 0).toInt
  · exact z
  · rw [if_neg z] at q
    exact absurd rfl q
theorem mv26_1 {k m x1 : Int32} (hk : k = 2 ∨ k = 3) (t : H.1 36 = 0) (r : (b_X11_reasonOfMove_161 H x1 m k).1 = 0) : H.2 26 m.toNatClampNeg = 0 := by
  unfold b_X11_reasonOfMove_161 at r
  have e : (b_X11_reasonOfMove_191 H x1 m k).1 = 0 → H.2 26 m.toNatClampNeg = 0 := fun g => by
    unfold b_X11_reasonOfMove_191 b_X11_reasonOfMove_196 at g
    rw [if_neg h10] at g
    by_cases z : H.2 26 m.toNatClampNeg = 0
    · exact z
    · rw [if_neg z] at g
      exact absurd (show (5 : Int32) = 0 from g) (by decide)
  by_cases q : H.1 3 ≤ H.1 1
  · rw [if_pos q, if_pos t] at r
    rcases hk with y | y
    · rw [if_pos y] at r
      exact e r
    · rw [if_neg (by rw [y]; decide), if_pos y] at r
      exact e r
  · rw [if_neg q] at r
    exact absurd (show (4 : Int32) = 0 from r) (by decide)
theorem mv26_2 {k m x1 : Int32} (hk : k = 2 ∨ k = 3) (t : H.1 36 = 0) (r : (b_X11_reasonOfMove_127 H x1 m k).1 = 0) : H.2 26 m.toNatClampNeg = 0 := by
  unfold b_X11_reasonOfMove_127 b_X11_reasonOfMove_143 b_X11_reasonOfMove_a156 at r
  by_cases a : H.1 5 = -1
  · rw [if_pos a] at r
    exact absurd (show (2 : Int32) = 0 from r) (by decide)
  rw [if_neg a] at r
  by_cases b : H.1 5 = x1
  · rw [if_pos b] at r
    by_cases c : H.1 6 ≤ 0
    · rw [if_pos c] at r
      exact mv26_1 hk t r
    · rw [if_neg c] at r
      by_cases d : (f_X11_hasSeconder H).1 = 0
      · rw [if_pos d] at r
        exact absurd (show (3 : Int32) = 0 from r) (by decide)
      · rw [if_neg d, seconder_s] at r
        exact mv26_1 hk t r
  · rw [if_neg b] at r
    exact absurd (show (2 : Int32) = 0 from r) (by decide)
theorem mv26 (r : RR wF N S1 T1 x H) (h : HA H) {i : Int32} (z1 : ¬ H.1 35 = 0) (t : H.1 36 = 0) (q : (f_X11_reasonOfMove H i).1 = 0) : H.2 26 (hM H 1 0) = 0 := by
  have m0 : hM H 1 0 = (H.2 32 (0 : Int32).toNatClampNeg).toNatClampNeg := by rw [zn0]; rfl
  have z1' := mt iEq.mpr z1
  rw [i0] at z1'
  have b35 := (h.1.1.1 1 (by omega)).1
  have e35 : hN H 1 = (H.1 35).toInt := rfl
  have L : hL H 1 0 := ⟨by omega, by omega⟩
  have mu := (r.2.1 1 (by omega)).2 0 (r.2.1.mem L)
  by_cases k2 : H.2 14 (hM H 1 0) = 2 ∨ H.2 14 (hM H 1 0) = 3
  · unfold f_X11_reasonOfMove at q
    rw [if_neg z1, if_pos t, ← m0] at q
    unfold b_X11_reasonOfMove_34 at q
    rw [if_neg (by rcases k2 with y | y <;> rw [y] <;> decide), if_neg (by rcases k2 with y | y <;> rw [y] <;> decide), isAbout_s] at q
    unfold b_X11_reasonOfMove_a59 at q
    by_cases a : (f_X11_isAbout H (H.2 14 (hM H 1 0))).1 = 0
    · rw [if_pos a] at q
      exact absurd (show (1 : Int32) = 0 from q) (by decide)
    · rw [if_neg a] at q
      have := mv26_2 k2 t q
      rw [← m0] at this
      exact this
  · exact (mu.2.2.2.2.2.2 (fun y => k2 (Or.inl y)) (fun y => k2 (Or.inr y))).2.2
theorem lay_ab (h : HA H) {i : Int32} (q : (f_X11_reasonOfLay H i).1 = 0) (t : H.1 36 = 0) (a : H.2 25 (hM H 1 0) = 0) (k : H.2 14 (hM H 1 0) = 2 ∨ H.2 14 (hM H 1 0) = 3) : ¬ H.1 6 = 0 ∧ H.2 14 (f_X11_top H).1.toNatClampNeg ≠ 9 := by
  have m0 : hM H 1 0 = (H.2 32 (0 : Int32).toNatClampNeg).toNatClampNeg := by rw [zn0]; rfl
  rw [m0] at a k
  unfold f_X11_reasonOfLay at q
  by_cases z1 : f_X12_in i 0 7 = 0
  · rw [if_pos z1] at q
    exact absurd (show (9 : Int32) = 0 from q) (by decide)
  rw [if_neg z1] at q
  by_cases z2 : H.1 35 = 0
  · rw [if_pos z2] at q
    exact absurd (show (11 : Int32) = 0 from q) (by decide)
  rw [if_neg z2] at q
  have z2 := mt iEq.mpr z2
  rw [i0] at z2
  have hd : 1 ≤ (H.1 35).toInt := by have := h.1.ra.2.2.1; omega
  by_cases z3 : H.2 34 i.toNatClampNeg ≤ 0
  · rw [if_pos z3, hasDraft_s] at q
    unfold b_X11_reasonOfLay_a38 at q
    by_cases z4 : (f_X11_hasDraft H 2 3).1 = 0
    · rw [hasDraft_1 hd t k] at z4
      exact absurd z4 (by decide)
    rw [if_neg z4, if_pos a, isAbout_s] at q
    unfold b_X11_reasonOfLay_a70 at q
    by_cases z6 : (f_X11_isAbout H (H.2 14 (H.2 32 (0 : Int32).toNatClampNeg).toNatClampNeg)).1 = 0
    · rw [if_pos z6] at q
      exact absurd (show (1 : Int32) = 0 from q) (by decide)
    have p := isAbout_pos h.1.ra z6
    have ka := isAbout_k z6
    refine ⟨fun y => ?_, ?_⟩
    · have := congrArg Int32.toInt y
      rw [i0] at this
      omega
    · by_cases k2 : H.2 14 (H.2 32 (0 : Int32).toNatClampNeg).toNatClampNeg = 2
      · rcases ka.1 k2 with y | y | y <;> rw [y] <;> decide
      · rw [ka.2 k2]
        decide
  · rw [if_neg z3] at q
    exact absurd (show (11 : Int32) = 0 from q) (by decide)
theorem act_22 {act : Int32} (h1 : 1 ≤ act.toInt) (h2 : act.toInt ≤ 22) : act = 1 ∨ act = 2 ∨ act = 3 ∨ act = 4 ∨ act = 5 ∨ act = 6 ∨ act = 7 ∨ act = 8 ∨ act = 9 ∨ act = 10 ∨ act = 11 ∨ act = 12 ∨ act = 13 ∨ act = 14 ∨ act = 15 ∨ act = 16 ∨ act = 17 ∨ act = 18 ∨ act = 19 ∨ act = 20 ∨ act = 21 ∨ act = 22 := by
  obtain ⟨n, rfl, h3, h4⟩ : ∃ n : Nat, act = Int32.ofNat n ∧ 1 ≤ n ∧ n ≤ 22 := by
    have k := iNat (x := act) (by omega)
    refine ⟨act.toNatClampNeg, ?_, by omega, by omega⟩
    refine iEq.mpr ?_
    rw [Int32.toInt_ofNat_of_lt (by omega)]
    omega
  rcases (show n = 1 ∨ n = 2 ∨ n = 3 ∨ n = 4 ∨ n = 5 ∨ n = 6 ∨ n = 7 ∨ n = 8 ∨ n = 9 ∨ n = 10 ∨ n = 11 ∨ n = 12 ∨ n = 13 ∨ n = 14 ∨ n = 15 ∨ n = 16 ∨ n = 17 ∨ n = 18 ∨ n = 19 ∨ n = 20 ∨ n = 21 ∨ n = 22 by omega) with rfl | rfl | rfl | rfl | rfl | rfl | rfl | rfl | rfl | rfl | rfl | rfl | rfl | rfl | rfl | rfl | rfl | rfl | rfl | rfl | rfl | rfl <;> decide
theorem dq_1 (a : AS x S T col S1 T1 c1) (r : RR wF N S1 T1 x H) (h : HA H) (eN : N = (H.1 7).toInt) (h7 : (H.1 7).toInt < 600) (i b c d : Int32) (q : (f_X11_reason H 1 i b c d).1 = 0) : DS wF (N + 1) x S T col (f_Y1_perform S1 x 1 i b c d) (f_X11_does H 1 i b c d) := by
  have le : N ≤ N + 1 := by omega
  have q : (b_X11_reason_a105 (f_X11_isSeat H i).2 1 i b c d (f_X11_isSeat H i).1).1 = 0 := q
  have s := rf_105 q
  refine (ds_1 a r h i b c d (se_of h.1.ra s) ?_).up le
  unfold b_X11_reason_a105 at q
  rw [if_neg s, seat_f h.1.ra] at q
  by_cases z : H.2 11 i.toNatClampNeg = 0
  · exact z
  · have q : (if H.2 11 i.toNatClampNeg = 0 then (b_X11_reason_128 H 1 i b c d 0) else (b_X11_reason_128 H 1 i b c d 11)).1 = 0 := q
    rw [if_neg z] at q
    exact absurd (show (11 : Int32) = 0 from q) (by decide)
theorem dq_2 (a : AS x S T col S1 T1 c1) (r : RR wF N S1 T1 x H) (h : HA H) (eN : N = (H.1 7).toInt) (h7 : (H.1 7).toInt < 600) (i b c d : Int32) (q : (f_X11_reason H 2 i b c d).1 = 0) : DS wF (N + 1) x S T col (f_Y1_perform S1 x 2 i b c d) (f_X11_does H 2 i b c d) := by
  have le : N ≤ N + 1 := by omega
  have q : (b_X11_reason_129 H 2 i b c d).1 = 0 := q
  have s := rf_129 q
  refine (ds_2 a r h i b c d (se_of h.1.ra s) ?_).up le
  unfold b_X11_reason_129 b_X11_reason_a134 at q
  rw [if_neg s, seat_f h.1.ra] at q
  have q : (if H.2 11 i.toNatClampNeg = 0 then (b_X11_reason_157 H 2 i b c d 8) else (b_X11_reason_157 H 2 i b c d 0)).1 = 0 := q
  intro z
  rw [if_pos z] at q
  exact absurd (show (8 : Int32) = 0 from q) (by decide)
theorem dq_3 (a : AS x S T col S1 T1 c1) (r : RR wF N S1 T1 x H) (h : HA H) (eN : N = (H.1 7).toInt) (h7 : (H.1 7).toInt < 600) (i b c d : Int32) (q : (f_X11_reason H 3 i b c d).1 = 0) : DS wF (N + 1) x S T col (f_Y1_perform S1 x 3 i b c d) (f_X11_does H 3 i b c d) := by
  have le : N ≤ N + 1 := by omega
  exact (ds_3 a r i b c d).up le
theorem dq_4 (a : AS x S T col S1 T1 c1) (r : RR wF N S1 T1 x H) (h : HA H) (eN : N = (H.1 7).toInt) (h7 : (H.1 7).toInt < 600) (i b c d : Int32) (q : (f_X11_reason H 4 i b c d).1 = 0) : DS wF (N + 1) x S T col (f_Y1_perform S1 x 4 i b c d) (f_X11_does H 4 i b c d) := by
  have le : N ≤ N + 1 := by omega
  have q : (b_X11_reason_129 H 4 i b c d).1 = 0 := q
  exact (ds_4 a r i b c d (se_of h.1.ra (rf_129 q))).up le
theorem dq_5 (a : AS x S T col S1 T1 c1) (r : RR wF N S1 T1 x H) (h : HA H) (eN : N = (H.1 7).toInt) (h7 : (H.1 7).toInt < 600) (i b c d : Int32) (q : (f_X11_reason H 5 i b c d).1 = 0) : DS wF (N + 1) x S T col (f_Y1_perform S1 x 5 i b c d) (f_X11_does H 5 i b c d) := by
  have le : N ≤ N + 1 := by omega
  have e8 : (8 : Int32).toInt = 8 := by decide
  unfold f_X11_reason at q
  rw [if_neg (by decide), if_neg (by decide), if_neg (by decide), if_neg (by decide), if_pos rfl] at q
  by_cases z : f_X12_in i 1 8 = 0
  · rw [if_pos z] at q
    exact absurd (show (9 : Int32) = 0 from q) (by decide)
  · have s := in_of z
    rw [i1, e8] at s
    exact (ds_5 a r i b c d s).up le
theorem dq_6 (a : AS x S T col S1 T1 c1) (r : RR wF N S1 T1 x H) (h : HA H) (eN : N = (H.1 7).toInt) (h7 : (H.1 7).toInt < 600) (i b c d : Int32) (q : (f_X11_reason H 6 i b c d).1 = 0) : DS wF (N + 1) x S T col (f_Y1_perform S1 x 6 i b c d) (f_X11_does H 6 i b c d) := by
  have le : N ≤ N + 1 := by omega
  have q : (if (f_X12_in i 0 99) = 0 then (b_X11_reason_254 H 6 i b c d 9) else if (H.1 6) ≤ 0 then (b_X11_reason_254 H 6 i b c d 0) else (b_X11_reason_254 H 6 i b c d 11)).1 = 0 := q
  by_cases z : f_X12_in i 0 99 = 0
  · rw [if_pos z] at q
    exact absurd (show (9 : Int32) = 0 from q) (by decide)
  · have s := in_of z
    rw [i0] at s
    exact (ds_6 a r i b c d s.1).up le
theorem dq_7 (a : AS x S T col S1 T1 c1) (r : RR wF N S1 T1 x H) (h : HA H) (eN : N = (H.1 7).toInt) (h7 : (H.1 7).toInt < 600) (i b c d : Int32) (q : (f_X11_reason H 7 i b c d).1 = 0) : DS wF (N + 1) x S T col (f_Y1_perform S1 x 7 i b c d) (f_X11_does H 7 i b c d) := by
  have le : N ≤ N + 1 := by omega
  exact (ds_7 a r h i b c d).up le
theorem dq_8 (a : AS x S T col S1 T1 c1) (r : RR wF N S1 T1 x H) (h : HA H) (eN : N = (H.1 7).toInt) (h7 : (H.1 7).toInt < 600) (i b c d : Int32) (q : (f_X11_reason H 8 i b c d).1 = 0) : DS wF (N + 1) x S T col (f_Y1_perform S1 x 8 i b c d) (f_X11_does H 8 i b c d) := by
  have le : N ≤ N + 1 := by omega
  exact (ds_8 a r i b c d).up le
theorem dq_9 (a : AS x S T col S1 T1 c1) (r : RR wF N S1 T1 x H) (h : HA H) (eN : N = (H.1 7).toInt) (h7 : (H.1 7).toInt < 600) (i b c d : Int32) (q : (f_X11_reason H 9 i b c d).1 = 0) : DS wF (N + 1) x S T col (f_Y1_perform S1 x 9 i b c d) (f_X11_does H 9 i b c d) := by
  have le : N ≤ N + 1 := by omega
  by_cases z : H.1 6 = 0
  · have q : (if (H.1 6) = 0 then ((7 : Int32), H) else if (H.1 5) = (-1) then (b_X11_reason_401 H 9 i b c d) else if (H.1 5) = i then (b_X11_reason_a407 (f_X11_hasSeconder H).2 9 i b c d (f_X11_hasSeconder H).1) else (b_X11_reason_401 H 9 i b c d)).1 = 0 := q
    rw [if_pos z] at q
    exact absurd (show (7 : Int32) = 0 from q) (by decide)
  · exact (ds_9 a r h i b c d z).up le
theorem dq_10 (a : AS x S T col S1 T1 c1) (r : RR wF N S1 T1 x H) (h : HA H) (eN : N = (H.1 7).toInt) (h7 : (H.1 7).toInt < 600) (i b c d : Int32) (q : (f_X11_reason H 10 i b c d).1 = 0) : DS wF (N + 1) x S T col (f_Y1_perform S1 x 10 i b c d) (f_X11_does H 10 i b c d) := by
  have bN : 0 ≤ N ∧ N ≤ 1000000 := by have := h.2.1; omega
  have e8 : (8 : Int32).toInt = 8 := by decide
  have q : (if (f_X12_in i 1 8) = 0 then (b_X11_reason_454 H 10 i b c d 9) else (b_X11_reason_454 H 10 i b c d 0)).1 = 0 := q
  by_cases z : f_X12_in i 1 8 = 0
  · rw [if_pos z] at q
    exact absurd (show (9 : Int32) = 0 from q) (by decide)
  · have s := in_of z
    rw [i1, e8] at s
    exact ds_10 a r h bN i b c d s
theorem dq_11 (a : AS x S T col S1 T1 c1) (r : RR wF N S1 T1 x H) (h : HA H) (eN : N = (H.1 7).toInt) (h7 : (H.1 7).toInt < 600) (i b c d : Int32) (q : (f_X11_reason H 11 i b c d).1 = 0) : DS wF (N + 1) x S T col (f_Y1_perform S1 x 11 i b c d) (f_X11_does H 11 i b c d) := by
  have le : N ≤ N + 1 := by omega
  have q : (b_X11_reason_a461 (f_X11_hasDraft H 2 3).2 11 i b c d (f_X11_hasDraft H 2 3).1).1 = 0 := q
  have f := rf_461 q
  have z1 : ¬ H.1 35 = 0 := fun y => by
    have := congrArg Int32.toInt y
    rw [i0] at this
    omega
  refine (ds_11 a r h i b c d z1 f.2.1 ?_).up le
  rw [hasDraft_s] at q
  unfold b_X11_reason_a461 at q
  by_cases y : (f_X11_hasDraft H 2 3).1 = 0
  · rw [if_pos y] at q
    exact absurd (show (11 : Int32) = 0 from q) (by decide)
  · rw [hd_v h.1.ra, if_neg z1, if_pos f.2.1, am_in] at y
    by_cases k2 : H.2 14 (H.2 32 0).toNatClampNeg = 2
    · exact Or.inl k2
    · rw [if_neg k2] at y
      by_cases k3 : H.2 14 (H.2 32 0).toNatClampNeg = 3
      · exact Or.inr k3
      · rw [if_neg k3] at y
        exact absurd rfl y
theorem dq_12 (a : AS x S T col S1 T1 c1) (r : RR wF N S1 T1 x H) (h : HA H) (eN : N = (H.1 7).toInt) (h7 : (H.1 7).toInt < 600) (i b c d : Int32) (q : (f_X11_reason H 12 i b c d).1 = 0) : DS wF (N + 1) x S T col (f_Y1_perform S1 x 12 i b c d) (f_X11_does H 12 i b c d) := by
  have le : N ≤ N + 1 := by omega
  have q : (f_X11_reasonOfWord H i b c d).1 = 0 := q
  have f := rf_word (S := H) q (fun a b => (h.1.1.2.2.2.2.1 1 0 ⟨by omega, by have := one_n h.1 a b; omega⟩).2.1)
  have z1 : ¬ H.1 35 = 0 := fun y => by
    have := congrArg Int32.toInt y
    rw [i0] at this
    omega
  exact (ds_12 a r h i b c d z1 f.2.1 f.2.2).up le
theorem dq_13 (a : AS x S T col S1 T1 c1) (r : RR wF N S1 T1 x H) (h : HA H) (eN : N = (H.1 7).toInt) (h7 : (H.1 7).toInt < 600) (i b c d : Int32) (q : (f_X11_reason H 13 i b c d).1 = 0) : DS wF (N + 1) x S T col (f_Y1_perform S1 x 13 i b c d) (f_X11_does H 13 i b c d) := by
  have q : (f_X11_reasonOfLay H i).1 = 0 := q
  have f := rf_lay (S := H) h.1.ra q
  have w := lay_w (S := H) h.1 q
  have z1 : ¬ H.1 35 = 0 := fun y => by
    have := congrArg Int32.toInt y
    rw [i0] at this
    omega
  have n34 := (h.1.1.1 (i.toNatClampNeg + 2) (by have := iNat f.1.1; omega)).1
  have e34 : hN H (i.toNatClampNeg + 2) = (H.2 34 i.toNatClampNeg).toInt := rfl
  exact ds_13 a r h (by omega) i b c d f.1 z1 (iEq.mpr (by rw [i0]; omega)) w (lay_ab h q)
theorem dq_14 (a : AS x S T col S1 T1 c1) (r : RR wF N S1 T1 x H) (h : HA H) (eN : N = (H.1 7).toInt) (h7 : (H.1 7).toInt < 600) (i b c d : Int32) (q : (f_X11_reason H 14 i b c d).1 = 0) : DS wF (N + 1) x S T col (f_Y1_perform S1 x 14 i b c d) (f_X11_does H 14 i b c d) := by
  have q : (if (f_X12_in i 0 7) = 0 then (b_X11_reason_571 H 14 i b c d 9) else if 0 < (H.1 35) then (b_X11_reason_565 H 14 i b c d) else if (H.2 34 i.toNatClampNeg) = 0 then (b_X11_reason_565 H 14 i b c d) else (b_X11_reason_571 H 14 i b c d 0)).1 = 0 := q
  by_cases z : f_X12_in i 0 7 = 0
  · rw [if_pos z] at q
    exact absurd (show (9 : Int32) = 0 from q) (by decide)
  rw [if_neg z] at q
  by_cases y : 0 < H.1 35
  · rw [if_pos y] at q
    exact absurd (show (11 : Int32) = 0 from q) (by decide)
  rw [if_neg y] at q
  have y := mt iLt.mpr y
  rw [i0] at y
  by_cases w : H.2 34 i.toNatClampNeg = 0
  · rw [if_pos w] at q
    exact absurd (show (11 : Int32) = 0 from q) (by decide)
  have b35 := h.1.ra.2.2.1
  exact ds_14 a r h i b c d (in_07 z) (iEq.mpr (by rw [i0]; omega)) w
theorem dq_15 (a : AS x S T col S1 T1 c1) (r : RR wF N S1 T1 x H) (h : HA H) (eN : N = (H.1 7).toInt) (h7 : (H.1 7).toInt < 600) (i b c d : Int32) (q : (f_X11_reason H 15 i b c d).1 = 0) : DS wF (N + 1) x S T col (f_Y1_perform S1 x 15 i b c d) (f_X11_does H 15 i b c d) := by
  have bN : 0 ≤ N ∧ N ≤ 1000000 := by have := h.2.1; omega
  have q : (f_X11_reasonOfMove H i).1 = 0 := q
  have f := rf_move h.1 (by have := h.2.1; omega) q
  have z1 : ¬ H.1 35 = 0 := fun y => by
    have := congrArg Int32.toInt y
    rw [i0] at this
    omega
  exact ds_15 a r h bN i b c d z1 f.2.1 f.2.2 (fun t => mv26 r h z1 t q)
theorem dq_16 (a : AS x S T col S1 T1 c1) (r : RR wF N S1 T1 x H) (h : HA H) (eN : N = (H.1 7).toInt) (h7 : (H.1 7).toInt < 600) (i b c d : Int32) (q : (f_X11_reason H 16 i b c d).1 = 0) : DS wF (N + 1) x S T col (f_Y1_perform S1 x 16 i b c d) (f_X11_does H 16 i b c d) := by
  have le : N ≤ N + 1 := by omega
  by_cases z : H.1 6 = 0
  · have q : (if (H.1 6) = 0 then ((7 : Int32), H) else (b_X11_reason_a593 (f_X11_isSeat H i).2 16 i b c d (f_X11_isSeat H i).1)).1 = 0 := q
    rw [if_pos z] at q
    exact absurd (show (7 : Int32) = 0 from q) (by decide)
  · exact (ds_16 a r h 16 i b c d (Or.inl rfl) z).up le
theorem dq_17 (a : AS x S T col S1 T1 c1) (r : RR wF N S1 T1 x H) (h : HA H) (eN : N = (H.1 7).toInt) (h7 : (H.1 7).toInt < 600) (i b c d : Int32) (q : (f_X11_reason H 17 i b c d).1 = 0) : DS wF (N + 1) x S T col (f_Y1_perform S1 x 17 i b c d) (f_X11_does H 17 i b c d) := by
  have le : N ≤ N + 1 := by omega
  have q : (if (H.1 6) = 0 then ((7 : Int32), H) else (b_X11_reason_a676 (f_X11_isSeat H i).2 17 i b c d (f_X11_isSeat H i).1)).1 = 0 := q
  by_cases z : H.1 6 = 0
  · rw [if_pos z] at q
    exact absurd (show (7 : Int32) = 0 from q) (by decide)
  rw [if_neg z] at q
  unfold b_X11_reason_a676 at q
  by_cases s : (f_X11_isSeat H i).1 = 0
  · rw [if_pos s] at q
    exact absurd (show (9 : Int32) = 0 from q) (by decide)
  rw [if_neg s] at q
  by_cases w : f_X12_in b 0 2 = 0
  · rw [if_pos w] at q
    exact absurd (show (9 : Int32) = 0 from q) (by decide)
  have ww := in_of w
  have e2 : (2 : Int32).toInt = 2 := by decide
  rw [i0, e2] at ww
  exact (ds_17 a r h i b c d z (se_of h.1.ra s) ww).up le
theorem dq_18 (a : AS x S T col S1 T1 c1) (r : RR wF N S1 T1 x H) (h : HA H) (eN : N = (H.1 7).toInt) (h7 : (H.1 7).toInt < 600) (i b c d : Int32) (q : (f_X11_reason H 18 i b c d).1 = 0) : DS wF (N + 1) x S T col (f_Y1_perform S1 x 18 i b c d) (f_X11_does H 18 i b c d) := by
  have le : N ≤ N + 1 := by omega
  by_cases z : H.1 6 = 0
  · have q : (if (H.1 6) = 0 then ((7 : Int32), H) else (b_X11_reason_a734 (f_X11_top H).2 18 i b c d (f_X11_top H).1)).1 = 0 := q
    rw [if_pos z] at q
    exact absurd (show (7 : Int32) = 0 from q) (by decide)
  · exact (ds_18 a r h i b c d z).up le
theorem dq_19 (a : AS x S T col S1 T1 c1) (r : RR wF N S1 T1 x H) (h : HA H) (eN : N = (H.1 7).toInt) (h7 : (H.1 7).toInt < 600) (i b c d : Int32) (q : (f_X11_reason H 19 i b c d).1 = 0) : DS wF (N + 1) x S T col (f_Y1_perform S1 x 19 i b c d) (f_X11_does H 19 i b c d) := by
  have bN : 0 ≤ N ∧ N ≤ 1000000 := by have := h.2.1; omega
  have q : (b_X11_reason_a778 (f_X11_isHere H (H.1 2)).2 19 i b c d (f_X11_isHere H (H.1 2)).1).1 = 0 := q
  rw [sf_X11_isHere] at q
  unfold b_X11_reason_a778 at q
  by_cases y : (f_X11_isHere H (H.1 2)).1 = 0
  · rw [if_pos y] at q
    exact absurd (show (8 : Int32) = 0 from q) (by decide)
  rw [if_neg y] at q
  by_cases z : H.1 6 = 0
  · rw [if_pos z] at q
    exact absurd (show (7 : Int32) = 0 from q) (by decide)
  rw [if_neg z, top_s] at q
  unfold b_X11_reason_a802 at q
  by_cases w : H.2 14 (f_X11_top H).1.toNatClampNeg = 9
  · rw [if_pos w] at q
    exact absurd (show (11 : Int32) = 0 from q) (by decide)
  rw [if_neg w] at q
  by_cases u : H.1 6 = 9
  · rw [if_pos u] at q
    exact absurd (show (10 : Int32) = 0 from q) (by decide)
  have u := mt iEq.mpr u
  have e9 : (9 : Int32).toInt = 9 := by decide
  rw [e9] at u
  have n6 := h.1.ra.2.1
  exact ds_19 a r h bN i b c d ⟨pend_pos h.1.ra z, by omega⟩
theorem dq_20 (a : AS x S T col S1 T1 c1) (r : RR wF N S1 T1 x H) (h : HA H) (eN : N = (H.1 7).toInt) (h7 : (H.1 7).toInt < 600) (i b c d : Int32) (q : (f_X11_reason H 20 i b c d).1 = 0) : DS wF (N + 1) x S T col (f_Y1_perform S1 x 20 i b c d) (f_X11_does H 20 i b c d) := by
  have le : N ≤ N + 1 := by omega
  by_cases z : H.1 6 = 0
  · have q : (if (H.1 6) = 0 then ((7 : Int32), H) else (b_X11_reason_a845 (f_X11_top H).2 20 i b c d (f_X11_top H).1)).1 = 0 := q
    rw [if_pos z] at q
    exact absurd (show (7 : Int32) = 0 from q) (by decide)
  · exact (ds_16 a r h 20 i b c d (Or.inr rfl) z).up le
theorem dq_21 (a : AS x S T col S1 T1 c1) (r : RR wF N S1 T1 x H) (h : HA H) (eN : N = (H.1 7).toInt) (h7 : (H.1 7).toInt < 600) (i b c d : Int32) (q : (f_X11_reason H 21 i b c d).1 = 0) : DS wF (N + 1) x S T col (f_Y1_perform S1 x 21 i b c d) (f_X11_does H 21 i b c d) := by
  have bN : 0 ≤ N ∧ N ≤ 1000000 := by have := h.2.1; omega
  have q : (b_X11_reason_a906 (f_X11_isHere H (H.1 2)).2 21 i b c d (f_X11_isHere H (H.1 2)).1).1 = 0 := q
  rw [sf_X11_isHere] at q
  unfold b_X11_reason_a906 at q
  by_cases y : (f_X11_isHere H (H.1 2)).1 = 0
  · rw [if_pos y] at q
    exact absurd (show (8 : Int32) = 0 from q) (by decide)
  rw [if_neg y] at q
  by_cases z : H.1 6 = 0
  · rw [if_pos z] at q
    exact absurd (show (7 : Int32) = 0 from q) (by decide)
  exact ds_21 a r h bN i b c d z h7
theorem dq_22 (a : AS x S T col S1 T1 c1) (r : RR wF N S1 T1 x H) (h : HA H) (eN : N = (H.1 7).toInt) (h7 : (H.1 7).toInt < 600) (i b c d : Int32) (q : (f_X11_reason H 22 i b c d).1 = 0) : DS wF (N + 1) x S T col (f_Y1_perform S1 x 22 i b c d) (f_X11_does H 22 i b c d) := by
  have bN : 0 ≤ N ∧ N ≤ 1000000 := by have := h.2.1; omega
  exact ds_22 a r h bN i b c d
theorem ds_all (a : AS x S T col S1 T1 c1) (r : RR wF N S1 T1 x H) (h : HA H) (eN : N = (H.1 7).toInt) (h7 : (H.1 7).toInt < 600) (act i b c d : Int32) (h1 : 1 ≤ act.toInt) (h2 : act.toInt ≤ 22) (q : (f_X11_reason H act i b c d).1 = 0) : DS wF (N + 1) x S T col (f_Y1_perform S1 x act i b c d) (f_X11_does H act i b c d) := by
  rcases act_22 h1 h2 with rfl | rfl | rfl | rfl | rfl | rfl | rfl | rfl | rfl | rfl | rfl | rfl | rfl | rfl | rfl | rfl | rfl | rfl | rfl | rfl | rfl | rfl
  · exact dq_1 a r h eN h7 i b c d q
  · exact dq_2 a r h eN h7 i b c d q
  · exact dq_3 a r h eN h7 i b c d q
  · exact dq_4 a r h eN h7 i b c d q
  · exact dq_5 a r h eN h7 i b c d q
  · exact dq_6 a r h eN h7 i b c d q
  · exact dq_7 a r h eN h7 i b c d q
  · exact dq_8 a r h eN h7 i b c d q
  · exact dq_9 a r h eN h7 i b c d q
  · exact dq_10 a r h eN h7 i b c d q
  · exact dq_11 a r h eN h7 i b c d q
  · exact dq_12 a r h eN h7 i b c d q
  · exact dq_13 a r h eN h7 i b c d q
  · exact dq_14 a r h eN h7 i b c d q
  · exact dq_15 a r h eN h7 i b c d q
  · exact dq_16 a r h eN h7 i b c d q
  · exact dq_17 a r h eN h7 i b c d q
  · exact dq_18 a r h eN h7 i b c d q
  · exact dq_19 a r h eN h7 i b c d q
  · exact dq_20 a r h eN h7 i b c d q
  · exact dq_21 a r h eN h7 i b c d q
  · exact dq_22 a r h eN h7 i b c d q
end
