/-! ===== a Hall from call to call ===== -/
/-- a Hall's invariant: with its entries and results -/
def HA (S : HS) : Prop := HI (S.1 7).toInt S ∧ (0 ≤ (S.1 7).toInt ∧ (S.1 7).toInt ≤ 600) ∧ (0 ≤ (S.1 8).toInt ∧ (S.1 8).toInt ≤ (S.1 7).toInt)
/-- what begin needs of a Hall: its marks are 0 or 1 -/
def HB (S : HS) : Prop := (S.1 36 = 0 ∨ S.1 36 = 1) ∧ ∀ p, p < 8 → S.2 37 p = 0 ∨ S.2 37 p = 1
theorem HA.hb {S : HS} (h : HA S) : HB S := h.1.2.2.2.2
theorem hi_7 {N : Int} {S : HS} (h : HI N S) (v : Int32) : HI N (sI S 7 v) := h
theorem hi_40 {N : Int} {S : HS} (h : HI N S) (u : Nat → Int32) : HI N (sR S 40 u) := h
theorem ha_10 {S : HS} (h : HA S) (v : Int32) : HA (sI S 10 v) := h
theorem act_e (D : HS) (x1 x2 x3 x4 x5 x6 y0 : Int32) : ∃ u, (b_X11_act_a58 D x1 x2 x3 x4 x5 x6 y0).2 = sI (sR D 40 u) 7 (D.1 7 + 1) := by
  have a163 : ∀ (S : HS) (x8 x9 z0 z1 : Int32), ∃ u, (b_X11_act_163 S x1 x2 x3 x4 x5 x6 y0 x8 x9 z0 z1).2 = sI (sR S 40 u) 7 (S.1 7 + 1) := fun S x8 x9 z0 z1 => ⟨upd (upd (S.2 40) z1.toNatClampNeg z0) (x8 + 5).toNatClampNeg y0, by
    have e : sR S 40 (upd (upd (S.2 40) z1.toNatClampNeg z0) (x8 + 5).toNatClampNeg y0) = sA (sA S 40 z1.toNatClampNeg z0) 40 (x8 + 5).toNatClampNeg y0 := by
      rw [← sR_sA S 40 z1.toNatClampNeg z0]
      rfl
    rw [e]
    rfl⟩
  have st : ∀ (S : HS) (i : Nat) (v : Int32) (r : HS), (∃ u, r = sI (sR (sA S 40 i v) 40 u) 7 ((sA S 40 i v).1 7 + 1)) → ∃ u, r = sI (sR S 40 u) 7 (S.1 7 + 1) := fun S i v r ⟨u, q⟩ => ⟨u, by rw [sR_sA] at q; exact q⟩
  have a142 : ∀ (S : HS) (x8 x9 z0 z1 : Int32), ∃ u, (b_X11_act_142 S x1 x2 x3 x4 x5 x6 y0 x8 x9 z0 z1).2 = sI (sR S 40 u) 7 (S.1 7 + 1) := fun S x8 x9 z0 z1 => by
    unfold b_X11_act_142
    split <;> exact st _ _ _ _ (a163 _ _ _ _ _)
  have a121 : ∀ (S : HS) (x8 x9 z0 z1 : Int32), ∃ u, (b_X11_act_121 S x1 x2 x3 x4 x5 x6 y0 x8 x9 z0 z1).2 = sI (sR S 40 u) 7 (S.1 7 + 1) := fun S x8 x9 z0 z1 => by
    unfold b_X11_act_121
    split <;> exact st _ _ _ _ (a142 _ _ _ _ _)
  have a101 : ∀ (S : HS) (x8 x9 z0 z1 : Int32), ∃ u, (b_X11_act_101 S x1 x2 x3 x4 x5 x6 y0 x8 x9 z0 z1).2 = sI (sR S 40 u) 7 (S.1 7 + 1) := fun S x8 x9 z0 z1 => by
    unfold b_X11_act_101
    split <;> exact st _ _ _ _ (a121 _ _ _ _ _)
  unfold b_X11_act_a58
  split <;> exact st _ _ _ _ (a101 _ _ _ _ _)
theorem act_i {S : HS} (h : HA S) (x1 x2 x3 x4 x5 : Int32) : p_X11_act S x1 x2 x3 x4 x5 ∧ HA (f_X11_act S x1 x2 x3 x4 x5).2 := by
  obtain ⟨h1, h2, h3⟩ := h
  have dd := fun (z : (f_X11_reason S x1 x2 x3 x4 x5).1 = 0) (y : S.1 7 ≠ 600) => does_i h1 h2.1 (by omega) ⟨h3.1, by
    have y := mt iEq.mpr y
    have e6 : (600 : Int32).toInt = 600 := by decide
    rw [e6] at y
    omega⟩ 0 x1 x2 x3 x4 x5 z
  have n600 : S.1 7 ≠ 600 → (S.1 7).toInt < 600 := fun y => by
    have y := mt iEq.mpr y
    have e6 : (600 : Int32).toInt = 600 := by decide
    rw [e6] at y
    omega
  refine ⟨act_p h1.ra h1.rk x1 x2 x3 x4 x5 (fun z y => ?_), ?_⟩
  · have d := dd z y
    refine ⟨d.1, ?_⟩
    rw [d.2.2.1]
    have := n600 y
    show 0 ≤ (S.1 7).toInt ∧ (S.1 7).toInt < 600
    omega
  unfold f_X11_act
  rw [sf_X11_reason]
  have n := nf_X11_reason S x1 x2 x3 x4 x5
  unfold NN at n
  have hS : HA S := ⟨h1, h2, h3⟩
  unfold b_X11_act_a11
  by_cases z : (f_X11_reason S x1 x2 x3 x4 x5).1 = 0
  · rw [if_pos z]
    by_cases y : S.1 7 = 600
    · rw [if_pos y]
      unfold b_X11_act_32
      rw [if_neg (by decide)]
      exact ha_10 hS 10
    · rw [if_neg y, z]
      have d := (dd z y).2
      have n6 := n600 y
      unfold b_X11_act_32
      rw [if_pos (by decide)]
      obtain ⟨u, q⟩ := act_e (f_X11_does (sI S 10 0) x1 x2 x3 x4 x5).2 x1 x2 x3 x4 x5 0 (f_X11_does (sI S 10 0) x1 x2 x3 x4 x5).1
      rw [q]
      generalize (f_X11_does (sI S 10 0) x1 x2 x3 x4 x5).2 = D at d
      obtain ⟨d1, d2, d3⟩ := d
      have d2 : D.1 7 = S.1 7 := d2
      have d3 : D.1 8 = S.1 8 ∨ D.1 8 = S.1 8 + 1 := d3
      have e := iAdd (x := S.1 7) (y := 1) (by rw [i1]; omega) (by rw [i1]; omega)
      rw [i1] at e
      rw [d2]
      generalize S.1 7 + 1 = w at e
      have g := hi_7 (hi_40 d1 u) w
      have r7 : (sI (sR D 40 u) 7 w).1 7 = w := by
        show upd D.1 7 w 7 = w
        exact upd_eq
      have r8 : (sI (sR D 40 u) 7 w).1 8 = D.1 8 := by
        show upd D.1 7 w 8 = D.1 8
        exact upd_ne (by decide)
      refine ⟨?_, ?_, ?_⟩
      · rw [r7, e]
        exact g
      · rw [r7]
        omega
      · rw [r7, r8]
        rcases d3 with d3 | d3
        · rw [d3]
          omega
        · have e8 := iAdd (x := S.1 8) (y := 1) (by rw [i1]; omega) (by rw [i1]; omega)
          rw [i1] at e8
          rw [d3]
          omega
  · rw [if_neg z]
    unfold b_X11_act_32
    rw [if_neg (fun q => z (iEq.mpr (by
      have a := iLe.mp n
      have b := iLe.mp q
      omega)))]
    exact ha_10 hS _
/-! ===== a Hall is begun anew ===== -/
theorem zero_c {S : HS} (h6 : (S.1 6).toInt = 0) (h35 : (S.1 35).toInt = 0) (h34 : ∀ p, p < 8 → S.2 34 p = 0) (h13 : ∀ m, m < 90 → S.2 13 m = 0) (N : Int) : HC N S := by
  have n : ∀ g, g < 10 → hN S g = 0 := fun g q => by
    rcases g with _ | _ | p
    · exact h6
    · exact h35
    · show (S.2 34 p).toInt = 0
      rw [h34 p (by omega), i0]
  have l : ∀ g i, ¬ hL S g i := fun g i a => by
    have a2 := a.2
    rw [n g a.1] at a2
    omega
  exact ⟨fun g q => by rw [n g q]; omega, fun g i a => absurd a (l g i), fun m a b => absurd (h13 m a) b, fun g a => absurd a (l g 0), fun g i a => absurd a (l g i), fun g i a => absurd a (l g i), fun g i _ _ a => absurd a (l g i), fun g i a => absurd a (l g _), fun g i a => absurd a (l g _)⟩
/-- what the loops of begin leave -/
def bE (S r : HS) : Prop := r.1 = S.1 ∧ r.2 37 = S.2 37 ∧ (∀ p, p < 8 → r.2 34 p = 0) ∧ (∀ m, m < 90 → r.2 13 m = 0)
theorem beg_141 (x1 : Int32) : ∀ (n : Nat) (S : HS) (x : Int32), 0 ≤ x.toInt → x.toInt ≤ 8 → 8 - x.toInt < n → (∀ p : Nat, (p : Int) < x.toInt → S.2 34 p = 0) → (∀ m, m < 90 → S.2 13 m = 0) → lq_X11_begin_141 n S x1 x ∧ bE S (lp_X11_begin_141 n S x1 x).2 := by
  intro n
  induction n with
  | zero => intro S x a b c; omega
  | succ n ih =>
    intro S x a b c d f
    rw [lq_X11_begin_141, lp_X11_begin_141]
    unfold ps_X11_begin_141 st_X11_begin_141
    have e8 : (8 : Int32).toInt = 8 := by decide
    by_cases z : 8 ≤ x
    · rw [if_pos z, if_pos z]
      have z := iLe.mp z
      rw [e8] at z
      exact ⟨⟨True.intro, True.intro⟩, rfl, rfl, fun p q => d p (by omega), f⟩
    rw [if_neg z, if_neg z]
    have z := mt iLe.mpr z
    rw [e8] at z
    have e := iAdd (x := x) (y := 1) (by rw [i1]; omega) (by rw [i1]; omega)
    rw [i1] at e
    have k := iNat a
    have g := ih (sA S 34 x.toNatClampNeg 0) (x + 1) (by omega) (by omega) (by omega) (fun p q => by
      show upd (S.2 34) x.toNatClampNeg 0 p = 0
      unfold upd
      split
      · rfl
      · exact d p (by omega)) f
    exact ⟨⟨⟨vIn a (by omega), True.intro⟩, g.1⟩, g.2.1, g.2.2.1, g.2.2.2⟩
theorem beg_120 (x1 : Int32) : ∀ (n : Nat) (S : HS) (x : Int32), 0 ≤ x.toInt → x.toInt ≤ 90 → 90 - x.toInt < n → (∀ m : Nat, (m : Int) < x.toInt → S.2 13 m = 0) → lq_X11_begin_120 n S x1 x ∧ bE S (lp_X11_begin_120 n S x1 x).2 := by
  intro n
  induction n with
  | zero => intro S x a b c; omega
  | succ n ih =>
    intro S x a b c d
    rw [lq_X11_begin_120, lp_X11_begin_120]
    unfold ps_X11_begin_120 st_X11_begin_120
    have e9 : (90 : Int32).toInt = 90 := by decide
    by_cases z : 90 ≤ x
    · rw [if_pos z, if_pos z]
      have z := iLe.mp z
      rw [e9] at z
      dsimp only
      have g := beg_141 x1 100000 S 0 (by rw [i0]; omega) (by rw [i0]; omega) (by rw [i0]; omega) (fun p q => by rw [i0] at q; omega) (fun m q => d m (by omega))
      exact ⟨⟨g.1, True.intro⟩, g.2⟩
    rw [if_neg z, if_neg z]
    have z := mt iLe.mpr z
    rw [e9] at z
    have e := iAdd (x := x) (y := 1) (by rw [i1]; omega) (by rw [i1]; omega)
    rw [i1] at e
    have k := iNat a
    have g := ih (sA S 13 x.toNatClampNeg 0) (x + 1) (by omega) (by omega) (by omega) (fun p q => by
      show upd (S.2 13) x.toNatClampNeg 0 p = 0
      unfold upd
      split
      · rfl
      · exact d p (by omega))
    exact ⟨⟨⟨vIn a (by omega), True.intro⟩, g.1⟩, g.2.1, g.2.2.1, g.2.2.2⟩
theorem beg_89 (x1 : Int32) : ∀ (n : Nat) (S : HS) (x : Int32), 0 ≤ x.toInt → x.toInt ≤ 9 → 9 - x.toInt < n → lq_X11_begin_89 n S x1 x ∧ bE S (lp_X11_begin_89 n S x1 x).2 := by
  intro n
  induction n with
  | zero => intro S x a b c; omega
  | succ n ih =>
    intro S x a b c
    rw [lq_X11_begin_89, lp_X11_begin_89]
    unfold ps_X11_begin_89 st_X11_begin_89
    have e9 : (9 : Int32).toInt = 9 := by decide
    by_cases z : 9 ≤ x
    · rw [if_pos z, if_pos z]
      dsimp only
      have g := beg_120 x1 100000 S 0 (by rw [i0]; omega) (by rw [i0]; omega) (by rw [i0]; omega) (fun p q => by rw [i0] at q; omega)
      exact ⟨⟨g.1, True.intro⟩, g.2⟩
    rw [if_neg z, if_neg z]
    have z := mt iLe.mpr z
    rw [e9] at z
    have e := iAdd (x := x) (y := 1) (by rw [i1]; omega) (by rw [i1]; omega)
    rw [i1] at e
    have v : vp_in x 9 := vIn a (by omega)
    have g : ∀ w, _ ∧ _ := fun w => ih (sA S 12 x.toNatClampNeg w) (x + 1) (by omega) (by omega) (by omega)
    by_cases y : x = 6
    · rw [if_pos y, if_pos y]
      exact ⟨⟨⟨v, True.intro⟩, (g 2).1⟩, (g 2).2.1, (g 2).2.2.1, (g 2).2.2.2⟩
    · rw [if_neg y, if_neg y]
      exact ⟨⟨⟨v, True.intro⟩, (g 1).1⟩, (g 1).2.1, (g 1).2.2.1, (g 1).2.2.2⟩
theorem beg_67 (x1 : Int32) : ∀ (n : Nat) (S : HS) (x : Int32), 0 ≤ x.toInt → x.toInt ≤ 200 → 200 - x.toInt < n → lq_X11_begin_67 n S x1 x ∧ bE S (lp_X11_begin_67 n S x1 x).2 := by
  intro n
  induction n with
  | zero => intro S x a b c; omega
  | succ n ih =>
    intro S x a b c
    rw [lq_X11_begin_67, lp_X11_begin_67]
    unfold ps_X11_begin_67 st_X11_begin_67
    by_cases z : 200 ≤ x
    · rw [if_pos z, if_pos z]
      dsimp only
      have g := beg_89 x1 100000 S 0 (by rw [i0]; omega) (by rw [i0]; omega) (by rw [i0]; omega)
      exact ⟨⟨g.1, True.intro⟩, g.2⟩
    rw [if_neg z, if_neg z]
    have z := mt iLe.mpr z
    rw [i200] at z
    have e := iAdd (x := x) (y := 1) (by rw [i1]; omega) (by rw [i1]; omega)
    rw [i1] at e
    have v : vp_in x 200 := vIn a (by omega)
    have g := ih (sA S 11 x.toNatClampNeg (vp_nar .boolean 0)) (x + 1) (by omega) (by omega) (by omega)
    exact ⟨⟨⟨v, True.intro⟩, g.1⟩, g.2.1, g.2.2.1, g.2.2.2⟩
theorem begin_i {S : HS} (h : HB S) {x1 : Int32} (hx : 1 ≤ x1.toInt ∧ x1.toInt ≤ 200) : p_X11_begin S x1 ∧ HA (f_X11_begin S x1).2 ∧ (f_X11_begin S x1).2.1 7 = 0 ∧ (f_X11_begin S x1).2.1 0 = x1 := by
  have g := beg_67 x1 100000 (sI (sI (sI (sI (sI (sI (sI (sI (sI (sI (sI (sI (sI S 0 x1) 1 0) 2 (-1)) 3 0) 4 0) 5 (-1)) 6 0) 7 0) 8 0) 9 0) 10 0) 35 0) 39 (-1)) 0 (by rw [i0]; omega) (by rw [i0]; omega) (by rw [i0]; omega)
  unfold p_X11_begin f_X11_begin
  refine ⟨g.1, ?_⟩
  obtain ⟨g1, g2, g3, g4⟩ := g.2
  generalize (lp_X11_begin_67 100000 (sI (sI (sI (sI (sI (sI (sI (sI (sI (sI (sI (sI (sI S 0 x1) 1 0) 2 (-1)) 3 0) 4 0) 5 (-1)) 6 0) 7 0) 8 0) 9 0) 10 0) 35 0) 39 (-1)) x1 0).2 = R at g1 g2 g3 g4
  have r0 : R.1 0 = x1 := by rw [g1]; rfl
  have r6 : R.1 6 = 0 := by rw [g1]; rfl
  have r7 : R.1 7 = 0 := by rw [g1]; rfl
  have r8 : R.1 8 = 0 := by rw [g1]; rfl
  have r35 : R.1 35 = 0 := by rw [g1]; rfl
  have r36 : R.1 36 = S.1 36 := by rw [g1]; rfl
  have r39 : R.1 39 = -1 := by rw [g1]; rfl
  have r37 : R.2 37 = S.2 37 := g2
  have im : (-1 : Int32).toInt = -1 := by decide
  refine ⟨⟨⟨?_, ?_, ?_⟩, ?_, ?_⟩, r7, r0⟩
  · exact zero_c (by rw [r6, i0]) (by rw [r35, i0]) g3 g4 _
  · exact ⟨fun _ => ⟨0, by omega, g3 0 (by omega)⟩, fun _ => ⟨0, 1, by omega, by omega, by omega, g3 0 (by omega), g3 1 (by omega)⟩⟩
  · refine ⟨?_, ?_, ?_, ?_⟩
    · rw [r0]
      exact hx
    · rw [r39, im]
      omega
    · rw [r36]
      exact h.1
    · rw [r37]
      exact h.2
  · rw [r7, i0]
    omega
  · rw [r7, r8, i0]
    omega
/-! ===== another Hall's entries are done ===== -/
theorem c6 {x : Int32} (h : 0 ≤ x.toInt ∧ x.toInt < 600) {k : Int32} (hk : 0 ≤ k.toInt ∧ k.toInt ≤ 5) : vp_in (6 * x) 3600 ∧ vp_in ((6 * x) + k) 3600 := ent_in h hk
theorem follow_i (F : Nat → Int32) {x2 : Int32} (h2 : x2.toInt ≤ 600) : ∀ (n : Nat) (S : HS) (x3 : Int32), HA S → 0 ≤ x3.toInt → x3.toInt ≤ 600 → 600 - x3.toInt < n → lq_X11_follow_2 F n S x2 x3 ∧ HA (lp_X11_follow_2 F n S x2 x3).2 := by
  intro n
  induction n with
  | zero => intro S x a b c d; omega
  | succ n ih =>
    intro S x h b c d
    rw [lq_X11_follow_2, lp_X11_follow_2]
    unfold ps_X11_follow_2 st_X11_follow_2
    by_cases z : x2 ≤ x
    · rw [if_pos z, if_pos z]
      exact ⟨⟨True.intro, True.intro⟩, h⟩
    rw [if_neg z, if_neg z]
    have z := mt iLe.mpr z
    have e := iAdd (x := x) (y := 1) (by rw [i1]; omega) (by rw [i1]; omega)
    rw [i1] at e
    have hx : 0 ≤ x.toInt ∧ x.toInt < 600 := by omega
    have a := act_i h (F (6 * x).toNatClampNeg) (F ((6 * x) + 1).toNatClampNeg) (F ((6 * x) + 2).toNatClampNeg) (F ((6 * x) + 3).toNatClampNeg) (F ((6 * x) + 4).toNatClampNeg)
    have g := ih _ (x + 1) a.2 (by omega) (by omega) (by omega)
    exact ⟨⟨⟨(c6 hx (k := 1) (by decide)).1, (c6 hx (by decide)).2, (c6 hx (by decide)).2, (c6 hx (by decide)).2, (c6 hx (by decide)).2, a.1, True.intro⟩, g.1⟩, g.2⟩
