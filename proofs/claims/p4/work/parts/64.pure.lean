/-! ===== carried, told ===== -/
theorem carried_i {N : Int} {S : HS} (h : HI N S) (hN0 : 0 ≤ N) (hN6 : N ≤ 1000000) (hp : 1 ≤ (S.1 6).toInt) (k9 : S.2 14 (f_X11_top S).1.toNatClampNeg ≠ 9) :
    p_X11_carried S (f_X11_top S).1 (S.2 14 (f_X11_top S).1.toNatClampNeg) ∧ CO (N + 1) S (f_X11_carried S (f_X11_top S).1 (S.2 14 (f_X11_top S).1.toNatClampNeg)).2 := by
  have n6 := iNat (x := S.1 6) (by omega)
  have lt : hL S 0 ((S.1 6).toNatClampNeg - 1) := ⟨by omega, by show _ < (S.1 6).toInt; omega⟩
  have w := (h.1.2.2.2.2.1 0 _ lt).1
  rw [← top_m hp] at w
  have t := top_in h.ra hp
  have vt : vp_in (f_X11_top S).1 90 := vIn t.1 t.2
  have wp : S.2 14 (f_X11_top S).1.toNatClampNeg = 4 ∨ S.2 14 (f_X11_top S).1.toNatClampNeg = 5 ∨ S.2 14 (f_X11_top S).1.toNatClampNeg = 7 → pF S := fun q => h.2.1.pf ⟨_, lt, by rw [← top_m hp]; exact q⟩
  have tw := two_p h hp
  have c2 := car_2 h hN0 hN6
  have up : ∀ r, CO N S r → CO (N + 1) S r := fun r q => ⟨q.1.up (by omega), q.2⟩
  have d1 := car_1 h hp (S.2 14 (f_X11_top S).1.toNatClampNeg) ((S.1 9) + 1)
  generalize hk : S.2 14 (f_X11_top S).1.toNatClampNeg = k at *
  unfold p_X11_carried f_X11_carried
  by_cases z1 : k = 1
  · rw [if_pos z1, if_pos z1]
    exact ⟨⟨vt, d1.1⟩, up _ d1.2⟩
  rw [if_neg z1, if_neg z1]
  have tw := tw z1
  by_cases z2 : k = 2
  · rw [if_pos z2, if_pos z2]
    exact c2 tw (Or.inl z2) k
  rw [if_neg z2, if_neg z2]
  by_cases z3 : k = 3
  · rw [if_pos z3, if_pos z3]
    exact c2 tw (Or.inr z3) k
  rw [if_neg z3, if_neg z3]
  by_cases z6 : k = 6
  · rw [if_pos z6, if_pos z6]
    exact (car_6 h tw (f_X11_top S).1 k).imp (fun a => a) (up _)
  rw [if_neg z6, if_neg z6]
  by_cases z7 : k = 7
  · rw [if_pos z7, if_pos z7]
    exact (car_7 h hp (wp (Or.inr (Or.inr z7))) (f_X11_top S).1 k).imp (fun a => a) (up _)
  rw [if_neg z7, if_neg z7]
  by_cases z8 : k = 8
  · rw [if_pos z8, if_pos z8]
    exact (car_8 h hp (f_X11_top S).1 k).imp (fun a => a) (up _)
  rw [if_neg z8, if_neg z8]
  have e4 : (4 : Int32).toInt = 4 := by decide
  have e5 : (5 : Int32).toInt = 5 := by decide
  have w4 : k = 4 ∨ k = 5 := by
    have y1 := mt iEq.mpr z1
    have y2 := mt iEq.mpr z2
    have y3 := mt iEq.mpr z3
    have y6 := mt iEq.mpr z6
    have y7 := mt iEq.mpr z7
    have y8 := mt iEq.mpr z8
    have y9 := mt iEq.mpr k9
    have f2 : (2 : Int32).toInt = 2 := by decide
    have f3 : (3 : Int32).toInt = 3 := by decide
    have f6 : (6 : Int32).toInt = 6 := by decide
    have f7 : (7 : Int32).toInt = 7 := by decide
    have f8 : (8 : Int32).toInt = 8 := by decide
    have f9 : (9 : Int32).toInt = 9 := by decide
    rw [i1] at y1
    rw [f2] at y2
    rw [f3] at y3
    rw [f6] at y6
    rw [f7] at y7
    rw [f8] at y8
    rw [f9] at y9
    by_cases q : k.toInt = 4
    · exact Or.inl (iEq.mpr (by rw [e4]; exact q))
    · exact Or.inr (iEq.mpr (by rw [e5]; omega))
  have n0 := h.1.1 0 (by omega)
  have e0 : hN S 0 = (S.1 6).toInt := rfl
  exact car_4 hN0 hN6 (f_X11_top S).1 k 100000 S h (wp (w4.elim Or.inl (fun q => Or.inr (Or.inl q)))) hp (by omega)
theorem hi_41 {N : Int} {S : HS} (h : HI N S) (i : Nat) (v : Int32) : HI N (sA S 41 i v) := h
theorem hi_8 {N : Int} {S : HS} (h : HI N S) (v : Int32) : HI N (sI S 8 v) := h
theorem hi_5 {N : Int} {S : HS} (h : HI N S) (v : Int32) : HI N (sI S 5 v) := h
theorem carries_s (S : HS) (x1 x2 x3 : Int32) : (f_X11_carries S x1 x2 x3).2 = S := by
  unfold f_X11_carries
  repeat' split
  all_goals rfl
theorem told_184 {N : Int} {S : HS} (h : HI N S) (hN0 : 0 ≤ N) (hN6 : N ≤ 1000000) (hp : 1 ≤ (S.1 6).toInt) (hr : 0 ≤ (S.1 8).toInt ∧ (S.1 8).toInt < 600) (x3 x4 x5 : Int32) (q1 : x5 = 1 → S.2 14 (f_X11_top S).1.toNatClampNeg ≠ 9) (q4 : x5 = 4 → 2 ≤ (S.1 6).toInt) :
    q_X11_told_184 S (f_X11_top S).1 (S.2 14 (f_X11_top S).1.toNatClampNeg) x3 x4 x5 ∧ DO (N + 1) S (b_X11_told_184 S (f_X11_top S).1 (S.2 14 (f_X11_top S).1.toNatClampNeg) x3 x4 x5).2 := by
  have ix : ∀ j : Int32, 0 ≤ j.toInt → j.toInt ≤ 4 → vp_in ((5 * (S.1 8)) + j) 3000 := fun j a b => by
    have e5 : (5 : Int32).toInt = 5 := by decide
    have m := iMul (x := 5) (y := S.1 8) (n := 5 * (S.1 8).toInt) (by rw [e5]) (by omega) (by omega)
    have c := iAdd (x := 5 * (S.1 8)) (y := j) (by omega) (by omega)
    exact vIn (by omega) (by omega)
  have ix0 : vp_in (5 * (S.1 8)) 3000 := by
    have e5 : (5 : Int32).toInt = 5 := by decide
    have m := iMul (x := 5) (y := S.1 8) (n := 5 * (S.1 8).toInt) (by rw [e5]) (by omega) (by omega)
    exact vIn (by omega) (by omega)
  unfold q_X11_told_184 b_X11_told_184
  generalize hT' : (sI (sI (sA (sA (sA (sA (sA S 41 (5 * (S.1 8)).toNatClampNeg (S.1 7)) 41 ((5 * (S.1 8)) + 1).toNatClampNeg (S.2 14 (f_X11_top S).1.toNatClampNeg)) 41 ((5 * (S.1 8)) + 2).toNatClampNeg x5) 41 ((5 * (S.1 8)) + 3).toNatClampNeg x3) 41 ((5 * (S.1 8)) + 4).toNatClampNeg x4) 8 (((sA (sA (sA (sA (sA S 41 (5 * (S.1 8)).toNatClampNeg (S.1 7)) 41 ((5 * (S.1 8)) + 1).toNatClampNeg (S.2 14 (f_X11_top S).1.toNatClampNeg)) 41 ((5 * (S.1 8)) + 2).toNatClampNeg x5) 41 ((5 * (S.1 8)) + 3).toNatClampNeg x3) 41 ((5 * (S.1 8)) + 4).toNatClampNeg x4).1 8) + 1)) 5 (-1)) = T
  have g : HI N T := by
    rw [← hT']
    exact hi_5 (hi_8 (hi_41 (hi_41 (hi_41 (hi_41 (hi_41 h _ _) _ _) _ _) _ _) _ _) _) _
  have t6 : T.1 6 = S.1 6 := by rw [← hT']; rfl
  have t7 : T.1 7 = S.1 7 := by rw [← hT']; rfl
  have t8 : T.1 8 = S.1 8 + 1 := by rw [← hT']; rfl
  have t14 : T.2 14 = S.2 14 := by rw [← hT']; rfl
  have tt : (f_X11_top T).1 = (f_X11_top S).1 := by rw [← hT']; rfl
  clear hT'
  have hp' : 1 ≤ (T.1 6).toInt := by rw [t6]; exact hp
  have n2 : ∀ j : Int32, j = 2 ∨ j = 3 ∨ j = 4 ∨ j = 1 → 0 ≤ j.toInt ∧ j.toInt ≤ 4 := fun j q => by rcases q with q | q | q | q <;> subst q <;> decide
  have i1' := n2 1 (by decide)
  have i2' := n2 2 (by decide)
  have i3' := n2 3 (by decide)
  have i4' := n2 4 (by decide)
  refine (fun (a : (if x5 = 1 then _ else _) ∧ _) => ⟨⟨ix0, ix 1 i1'.1 i1'.2, ix 2 i2'.1 i2'.2, ix 3 i3'.1 i3'.2, ix 4 i4'.1 i4'.2, a.1⟩, a.2⟩) ?_
  by_cases z : x5 = 1
  · rw [if_pos z, if_pos z]
    have c := carried_i g hN0 hN6 hp' (by rw [tt, t14]; exact q1 z)
    rw [tt, t14] at c
    exact ⟨⟨c.1, True.intro⟩, c.2.1, c.2.2.1.trans t7, Or.inr (c.2.2.2.trans t8)⟩
  · rw [if_neg z, if_neg z]
    have gg := goes_i g hp'
    have g7 : (f_X11_goes T).2.1 7 = T.1 7 := by rw [goes_e]; rfl
    have g8 : (f_X11_goes T).2.1 8 = T.1 8 := by rw [goes_e]; rfl
    have g6 : ((f_X11_goes T).2.1 6).toInt = (T.1 6).toInt - 1 := by
      rw [goes_e]
      exact (topN hp').1
    have pp := goes_p g.ra hp'
    generalize (f_X11_goes T).2 = R at gg g7 g8 g6
    unfold q_X11_told_a279 b_X11_told_a279
    by_cases y : x5 = 4
    · rw [if_pos y, if_pos y]
      have h2 := q4 y
      have hp2 : 1 ≤ (R.1 6).toInt := by rw [g6, t6]; omega
      have r7 : (f_X11_goes R).2.1 7 = R.1 7 := by rw [goes_e]; rfl
      have r8 : (f_X11_goes R).2.1 8 = R.1 8 := by rw [goes_e]; rfl
      exact ⟨⟨pp, goes_p gg.ra hp2, True.intro⟩, (goes_i gg hp2).up (by omega), (r7.trans g7).trans t7, Or.inr ((r8.trans g8).trans t8)⟩
    · rw [if_neg y, if_neg y]
      exact ⟨⟨pp, True.intro⟩, gg.up (by omega), g7.trans t7, Or.inr (g8.trans t8)⟩
theorem told_119 {N : Int} {S : HS} (h : HI N S) (hN0 : 0 ≤ N) (hN6 : N ≤ 1000000) (hp : 1 ≤ (S.1 6).toInt) (hr : 0 ≤ (S.1 8).toInt ∧ (S.1 8).toInt < 600) (x3 x4 x5 : Int32) :
    q_X11_told_119 S (f_X11_top S).1 (S.2 14 (f_X11_top S).1.toNatClampNeg) x3 x4 x5 ∧ DO (N + 1) S (b_X11_told_119 S (f_X11_top S).1 (S.2 14 (f_X11_top S).1.toNatClampNeg) x3 x4 x5).2 := by
  have tw := two_p h hp
  have n6 := iNat (x := S.1 6) (by omega)
  have lt : hL S 0 ((S.1 6).toNatClampNeg - 1) := ⟨by omega, by show _ < (S.1 6).toInt; omega⟩
  have w := (h.1.2.2.2.2.1 0 _ lt).1
  rw [← top_m hp] at w
  have T := told_184 h hN0 hN6 hp hr x3 x4
  have sp := seconder_p h.ra hp
  have ss := seconder_s S
  unfold q_X11_told_119 b_X11_told_119
  by_cases z : S.2 14 (f_X11_top S).1.toNatClampNeg = 9
  · rw [if_pos z, if_pos z, ss]
    have tw := tw (by rw [z]; decide)
    unfold q_X11_told_a129 b_X11_told_a129
    by_cases y : (f_X11_hasSeconder S).1 = 0
    · rw [if_pos y, if_pos y]
      have a := T 4 (fun q => absurd q (by decide)) (fun _ => tw)
      exact ⟨⟨sp, a.1⟩, a.2⟩
    · rw [if_neg y, if_neg y]
      by_cases x : x4 ≤ x3
      · rw [if_pos x, if_pos x]
        have a := T 4 (fun q => absurd q (by decide)) (fun _ => tw)
        exact ⟨⟨sp, a.1⟩, a.2⟩
      · rw [if_neg x, if_neg x]
        have a := T 5 (fun q => absurd q (by decide)) (fun q => absurd q (by decide))
        exact ⟨⟨sp, a.1⟩, a.2⟩
  · rw [if_neg z, if_neg z, ss]
    unfold q_X11_told_a152 b_X11_told_a152
    by_cases y : (f_X11_hasSeconder S).1 = 0
    · rw [if_pos y, if_pos y]
      have a := T 3 (fun q => absurd q (by decide)) (fun q => absurd q (by decide))
      exact ⟨⟨sp, a.1⟩, a.2⟩
    · rw [if_neg y, if_neg y, carries_s]
      have cp := carries_p S (S.2 12 (S.2 14 (f_X11_top S).1.toNatClampNeg).toNatClampNeg) x3 x4
      have e9 : (9 : Int32).toInt = 9 := by decide
      have vk : vp_in (S.2 14 (f_X11_top S).1.toNatClampNeg) 9 := by
        have z := mt iEq.mpr z
        rw [e9] at z
        exact vIn (by omega) (by omega)
      unfold q_X11_told_a174 b_X11_told_a174
      by_cases x : (f_X11_carries S (S.2 12 (S.2 14 (f_X11_top S).1.toNatClampNeg).toNatClampNeg) x3 x4).1 = 0
      · rw [if_pos x, if_pos x]
        have a := T 2 (fun q => absurd q (by decide)) (fun q => absurd q (by decide))
        exact ⟨⟨sp, vk, cp, a.1⟩, a.2⟩
      · rw [if_neg x, if_neg x]
        have a := T 1 (fun _ => z) (fun q => absurd q (by decide))
        exact ⟨⟨sp, vk, cp, a.1⟩, a.2⟩
theorem told_33 {N : Int} {S : HS} (h : HI N S) (hN0 : 0 ≤ N) (hN6 : N ≤ 1000000) (hp : 1 ≤ (S.1 6).toInt) (hr : 0 ≤ (S.1 8).toInt ∧ (S.1 8).toInt < 600) : ∀ (n : Nat) (x3 x4 x5 : Int32), 0 ≤ x5.toInt → x5.toInt ≤ (S.1 0).toInt → (S.1 0).toInt - x5.toInt < n →
    lq_X11_told_33 n S (f_X11_top S).1 (S.2 14 (f_X11_top S).1.toNatClampNeg) x3 x4 x5 ∧ DO (N + 1) S (lp_X11_told_33 n S (f_X11_top S).1 (S.2 14 (f_X11_top S).1.toNatClampNeg) x3 x4 x5).2 := by
  intro n
  have T := told_119 h hN0 hN6 hp hr
  have sp := seconder_p h.ra hp
  have ss := seconder_s S
  have t := top_in h.ra hp
  have hs := h.2.2.1
  induction n with
  | zero => intro x3 x4 x5 a b c; omega
  | succ n ih =>
    intro x3 x4 x5 a b c
    rw [lq_X11_told_33, lp_X11_told_33]
    unfold ps_X11_told_33 st_X11_told_33
    by_cases z : S.1 0 ≤ x5
    · rw [if_pos z, if_pos z]
      dsimp only
      exact ⟨⟨(T x3 x4 x5).1, True.intro⟩, (T x3 x4 x5).2⟩
    rw [if_neg z, if_neg z, ss]
    have z := mt iLe.mpr z
    have e := iAdd (x := x5) (y := 1) (by rw [i1]; omega) (by rw [i1]; omega)
    rw [i1] at e
    have g : ∀ x3 x4, _ := fun x3 x4 => ih x3 x4 (x5 + 1) (by omega) (by omega) (by omega)
    have vb : vp_in ((200 * (f_X11_top S).1) + x5) 18000 := bal_in t ⟨a, by omega⟩
    unfold q_X11_told_a46 b_X11_told_a46
    by_cases y : (f_X11_hasSeconder S).1 = 0
    · rw [if_pos y, if_pos y]
      dsimp only
      exact ⟨⟨⟨sp, (T x3 x4 x5).1⟩, True.intro⟩, (T x3 x4 x5).2⟩
    rw [if_neg y, if_neg y]
    have v5 : vp_in x5 200 := vIn a (by omega)
    by_cases x : S.2 11 x5.toNatClampNeg = 0
    · rw [if_pos x, if_pos x]
      exact ⟨⟨⟨sp, v5, True.intro⟩, (g x3 x4).1⟩, (g x3 x4).2⟩
    rw [if_neg x, if_neg x]
    have a85 : ∀ y0 y1, q_X11_told_85 S (f_X11_top S).1 (S.2 14 (f_X11_top S).1.toNatClampNeg) x3 x4 x5 y0 y1 ∧ ∃ c3 c4, b_X11_told_85 S (f_X11_top S).1 (S.2 14 (f_X11_top S).1.toNatClampNeg) x3 x4 x5 y0 y1 = Sum.inr (S, (f_X11_top S).1, (S.2 14 (f_X11_top S).1.toNatClampNeg), c3, c4, x5 + 1) := fun y0 y1 => by
      unfold q_X11_told_85 b_X11_told_85
      by_cases w : S.2 29 ((200 * (f_X11_top S).1) + x5).toNatClampNeg = 0
      · rw [if_pos w, if_pos w]
        exact ⟨⟨vb, True.intro⟩, _, _, rfl⟩
      · rw [if_neg w, if_neg w]
        exact ⟨⟨vb, True.intro⟩, _, _, rfl⟩
    by_cases w : S.2 29 ((200 * (f_X11_top S).1) + x5).toNatClampNeg = 1
    · rw [if_pos w, if_pos w]
      obtain ⟨a1, c3, c4, a2⟩ := a85 1 x3
      rw [a2]
      exact ⟨⟨⟨sp, v5, vb, a1⟩, (g c3 c4).1⟩, (g c3 c4).2⟩
    · rw [if_neg w, if_neg w]
      obtain ⟨a1, c3, c4, a2⟩ := a85 0 x3
      rw [a2]
      exact ⟨⟨⟨sp, v5, vb, a1⟩, (g c3 c4).1⟩, (g c3 c4).2⟩
theorem d_21 {N : Int} {S : HS} (h : HI N S) (hN0 : 0 ≤ N) (hN6 : N ≤ 1000000) (hp : 1 ≤ (S.1 6).toInt) (hr : 0 ≤ (S.1 8).toInt ∧ (S.1 8).toInt < 600) : p_X11_told S ∧ DO (N + 1) S (f_X11_told S).2 := by
  have t := top_in h.ra hp
  have hs := h.2.2.1
  unfold p_X11_told f_X11_told
  by_cases z : S.1 3 ≤ S.1 1
  · rw [if_pos z, if_pos z]
    unfold q_X11_told_a17 b_X11_told_a17
    have a := told_33 h hN0 hN6 hp hr 100000 0 0 0 (by rw [i0]; omega) (by rw [i0]; omega) (by rw [i0]; omega)
    exact ⟨⟨top_p h.ra hp, vIn t.1 t.2, a.1⟩, a.2⟩
  · rw [if_neg z, if_neg z]
    exact ⟨True.intro, h.up (by omega), rfl, Or.inl rfl⟩
