/-! ===== carried: a COMMIT, a POSTPONE ===== -/
theorem hi_15 {N : Int} {S : HS} (h : HI N S) (i : Nat) (v : Int32) : HI N (sA S 15 i v) := h
theorem hi_16 {N : Int} {S : HS} (h : HI N S) (i : Nat) (v : Int32) : HI N (sA S 16 i v) := h
theorem hi_25 {N : Int} {S : HS} (h : HI N S) (i : Nat) (v : Int32) : HI N (sA S 25 i v) := h
theorem hi_27 {N : Int} {S : HS} (h : HI N S) (i : Nat) (v : Int32) : HI N (sA S 27 i v) := h
theorem fresh_i {N : Int} {D : HS} (h : HI N D) (hN0 : 0 ≤ N) (hN6 : N ≤ 1000000) (g0 : Nat) (hg : g0 < 10) (h1 : hN D g0 = 1) {x : Int32} (hm : hM D g0 0 = x.toNatClampNeg) (u : Nat → Int32) : HI (N + 1) (sR (aN D x) 29 u) := by
  refine ⟨h.1.fresh g0 x.toNatClampNeg hN0 hN6 hg h1 hm rfl upd_eq rfl rfl rfl rfl rfl rfl (fun y a b => upd_ne b) ?_ ?_, h.2.1, h.2.2⟩
  · intro g q
    rcases g with _ | _ | r
    · exact ⟨rfl, Iff.rfl⟩
    · exact ⟨rfl, Iff.rfl⟩
    · exact ⟨rfl, Iff.rfl⟩
  · intro g i a
    rcases g with _ | _ | r
    · rfl
    · rfl
    · rfl
theorem a322_i {N : Int} {T : HS} (h : HI N T) (x1 x2 x4 : Int32) {x3 : Int32} (v : vp_in x3 90) : q_X11_carried_a322 T x1 x2 x3 x4 ∧ HI N (b_X11_carried_a322 T x1 x2 x3 x4).2 ∧ (b_X11_carried_a322 T x1 x2 x3 x4).2.1 = T.1 := by
  have a353 : ∀ (U : HS) y0, HI N U → q_X11_carried_353 U x1 x2 x3 x4 y0 x3 ∧ HI N (b_X11_carried_353 U x1 x2 x3 x4 y0 x3).2 ∧ (b_X11_carried_353 U x1 x2 x3 x4 y0 x3).2.1 = U.1 := fun U y0 g => by
    unfold q_X11_carried_353 b_X11_carried_353
    by_cases z : x2 = 4
    · rw [if_pos z, if_pos z]
      exact ⟨⟨v, v, v, True.intro⟩, hi_16 (hi_15 (hi_27 g _ _) _ _) _ _, rfl⟩
    · rw [if_neg z, if_neg z]
      exact ⟨⟨v, True.intro⟩, hi_27 g _ _, rfl⟩
  have a337 : ∀ y0, q_X11_carried_337 T x1 x2 x3 x4 y0 x3 ∧ HI N (b_X11_carried_337 T x1 x2 x3 x4 y0 x3).2 ∧ (b_X11_carried_337 T x1 x2 x3 x4 y0 x3).2.1 = T.1 := fun y0 => by
    unfold q_X11_carried_337 b_X11_carried_337
    by_cases z : x2 = 4
    · rw [if_pos z, if_pos z]
      have a := a353 _ 1 (hi_25 h x3.toNatClampNeg (vp_nar .boolean y0))
      exact ⟨⟨v, a.1⟩, a.2.1, a.2.2⟩
    · rw [if_neg z, if_neg z]
      have a := a353 _ 0 (hi_25 h x3.toNatClampNeg (vp_nar .boolean y0))
      exact ⟨⟨v, a.1⟩, a.2.1, a.2.2⟩
  unfold q_X11_carried_a322 b_X11_carried_a322
  by_cases z : x2 = 5
  · rw [if_pos z, if_pos z]
    exact a337 1
  · rw [if_neg z, if_neg z]
    exact a337 0
theorem c9' {p : Int32} (hx : 0 ≤ p.toInt ∧ p.toInt ≤ 7) : (9 * p).toNatClampNeg = 9 * p.toNatClampNeg ∧ vp_in (9 * p) 72 := by
  have e9 : (9 : Int32).toInt = 9 := by decide
  have m := iMul (x := 9) (y := p) (n := 9 * p.toInt) (by rw [e9]) (by omega) (by omega)
  have a := iNat (x := 9 * p) (by omega)
  have b := iNat hx.1
  exact ⟨by omega, vIn (by omega) (by omega)⟩
theorem a283_i {N : Int} {S : HS} (h : HI N S) (hN0 : 0 ≤ N) (hN6 : N ≤ 1000000) (h1 : S.1 6 = 1) (hf : pF S) (x1 x2 : Int32) :
    (p_X11_free S ∧ q_X11_carried_a283 (f_X11_free S).2 x1 x2 (S.2 31 (0 : Int32).toNatClampNeg) (f_X11_free S).1) ∧ CO (N + 1) S (b_X11_carried_a283 (f_X11_free S).2 x1 x2 (S.2 31 (0 : Int32).toNatClampNeg) (f_X11_free S).1).2 := by
  obtain ⟨fs, f1, f2⟩ := free_i hf.1
  rw [fs]
  refine (fun (a : q_X11_carried_a283 S x1 x2 (S.2 31 (0 : Int32).toNatClampNeg) (f_X11_free S).1 ∧ _) => ⟨⟨free_p S, a.1⟩, a.2⟩) ?_
  generalize (f_X11_free S).1 = p at f1 f2
  have k1 := iNat f1.1
  have c := c9' f1
  have n1 : (S.1 6).toInt = 1 := by rw [h1, i1]
  have l0 : hL S 0 0 := ⟨by omega, by show ((0 : Nat) : Int) < (S.1 6).toInt; omega⟩
  have v0 := h.1.2.1 0 0 l0
  unfold q_X11_carried_a283 b_X11_carried_a283
  rw [zn0, c.1]
  have vl : vp_in (S.2 31 0) 90 := vIn v0.1 v0.2.1
  have eD : sI (sA (sA (sA S 33 (9 * p.toNatClampNeg) (S.2 31 0)) 34 p.toNatClampNeg 1) 37 p.toNatClampNeg (vp_nar .boolean 0)) 6 0 = tD S (upd (S.2 33) (9 * p.toNatClampNeg) (S.2 31 0)) p.toNatClampNeg 0 0 := by
    unfold tD
    rw [h1, vb0, sA_sR S 33]
  rw [eD]
  have hD : HI N (tD S (upd (S.2 33) (9 * p.toNatClampNeg) (S.2 31 0)) p.toNatClampNeg 0 0) := by
    refine ⟨tD_c h.1 (by omega) f2 i0 (fun _ => by omega) (fun i a => ?_) (fun j a => upd_ne (by omega)), tD_f hf i0, tD_z h.2.2 (Or.inl rfl)⟩
    have e : i = 0 := by omega
    subst e
    exact upd_eq
  have nD : hN (tD S (upd (S.2 33) (9 * p.toNatClampNeg) (S.2 31 0)) p.toNatClampNeg 0 0) (p.toNatClampNeg + 2) = 1 := by
    show (upd (S.2 34) p.toNatClampNeg (S.1 6) p.toNatClampNeg).toInt = 1
    rw [upd_eq]
    exact n1
  have mD : hM (tD S (upd (S.2 33) (9 * p.toNatClampNeg) (S.2 31 0)) p.toNatClampNeg 0 0) (p.toNatClampNeg + 2) 0 = (S.2 31 0).toNatClampNeg := by
    show (upd (S.2 33) (9 * p.toNatClampNeg) (S.2 31 0) (9 * p.toNatClampNeg + 0)).toNatClampNeg = _
    rw [Nat.add_zero, upd_eq]
  have gA : ∀ j, j ≠ 6 → (tD S (upd (S.2 33) (9 * p.toNatClampNeg) (S.2 31 0)) p.toNatClampNeg 0 0).1 j = S.1 j := fun j a => upd_ne a
  generalize tD S (upd (S.2 33) (9 * p.toNatClampNeg) (S.2 31 0)) p.toNatClampNeg 0 0 = D at hD nD mD gA
  obtain ⟨u, q⟩ := anew_e D (S.2 31 0)
  rw [q]
  have a := a322_i (fresh_i hD hN0 hN6 (p.toNatClampNeg + 2) (by omega) nD mD u) x1 x2 p vl
  have vp : vp_in p 8 := vIn f1.1 (by omega)
  have v0' := vp_in_iff.mp vl
  refine ⟨⟨c.2, vp, vp, anew_p D v0', a.1⟩, a.2.1, ?_, ?_⟩
  · rw [a.2.2]
    exact gA 7 (by omega)
  · rw [a.2.2]
    exact gA 8 (by omega)
theorem car_4 {N : Int} (hN0 : 0 ≤ N) (hN6 : N ≤ 1000000) (x1 x2 : Int32) : ∀ (n : Nat) (S : HS), HI N S → pF S → 1 ≤ (S.1 6).toInt → (S.1 6).toInt < n + 1 → lq_X11_carried_257 n S x1 x2 ∧ CO (N + 1) S (lp_X11_carried_257 n S x1 x2).2 := by
  intro n
  induction n with
  | zero => intro S h hf hp q; omega
  | succ n ih =>
    intro S h hf hp q
    rw [lq_X11_carried_257, lp_X11_carried_257]
    unfold ps_X11_carried_257 st_X11_carried_257
    by_cases c : S.1 6 ≤ 1
    · rw [if_pos c, if_pos c]
      have c := iLe.mp c
      rw [i1] at c
      have a := a283_i h hN0 hN6 (iEq.mpr (by rw [i1]; omega)) hf x1 x2
      dsimp only
      exact ⟨⟨⟨vIn (by rw [i0]; omega) (by rw [i0]; omega), a.1⟩, True.intro⟩, a.2⟩
    · rw [if_neg c, if_neg c]
      have c := mt iLe.mpr c
      rw [i1] at c
      have e := topN hp
      have g6 : ((f_X11_goes S).2.1 6).toInt = (S.1 6).toInt - 1 := by
        rw [goes_e]
        exact e.1
      have a := ih (f_X11_goes S).2 (goes_i h hp) hf.goes (by omega) (by omega)
      have g7 : (f_X11_goes S).2.1 7 = S.1 7 := by rw [goes_e]; rfl
      have g8 : (f_X11_goes S).2.1 8 = S.1 8 := by rw [goes_e]; rfl
      exact ⟨⟨⟨goes_p h.ra hp, True.intro⟩, a.1⟩, a.2.1, a.2.2.1.trans g7, a.2.2.2.trans g8⟩
