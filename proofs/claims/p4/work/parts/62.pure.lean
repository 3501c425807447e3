/-! ===== carried: an AMEND, a SECOND ===== -/
theorem ar1 {w v f t x : Int} (a1 : 0 ≤ w ∧ w ≤ 400) (a2 : 0 ≤ v ∧ v ≤ 400) (a3 : 0 ≤ f ∧ f ≤ t) (a4 : t ≤ w) (a5 : w + v - (t - f) ≤ 400) (e : x = v - (t - f)) : 0 ≤ w + x ∧ w + x ≤ 400 := by omega
theorem ar2 {v f t x y z N : Int} (h0 : 0 ≤ N) (h6 : N ≤ 1000000) (a2 : 0 ≤ v ∧ v ≤ 400) (a3 : 0 ≤ f ∧ f ≤ t ∧ t ≤ 400 * (N + 1)) (e : x = v - (t - f)) (b : 0 ≤ y ∧ y ≤ z ∧ z ≤ 400 * (N + 1)) : (-2147483648 ≤ y + x ∧ y + x ≤ 2147483647) ∧ (-2147483648 ≤ z + x ∧ z + x ≤ 2147483647) := by omega
theorem ar3 {v f t x y z N : Int} (a2 : 0 ≤ v ∧ v ≤ 400) (a3 : 0 ≤ f ∧ f ≤ t ∧ t ≤ 400 * (N + 1)) (e : x = v - (t - f)) (b : 0 ≤ y ∧ y ≤ z ∧ z ≤ 400 * (N + 1)) (c : t ≤ y) : 0 ≤ y + x ∧ y + x ≤ z + x ∧ z + x ≤ 400 * (N + 1 + 1) := by omega
theorem ar4 {p w v f t x a b : Int} (e : x = v - (t - f)) (c : p + (w + v - (t - f)) - (a - b) ≤ 400) : p + (w + x) - (a - b) ≤ 400 := by omega
theorem car_2 {N : Int} {S : HS} (h : HI N S) (hN0 : 0 ≤ N) (hN6 : N ≤ 1000000) (hp : 2 ≤ (S.1 6).toInt) (hk : S.2 14 (f_X11_top S).1.toNatClampNeg = 2 ∨ S.2 14 (f_X11_top S).1.toNatClampNeg = 3) (x2 : Int32) :
    q_X11_carried_111 S (f_X11_top S).1 x2 ∧ CO (N + 1) S (b_X11_carried_111 S (f_X11_top S).1 x2).2 := by
  have hr := h.ra
  have t := top_in hr (by omega)
  have n0 := h.1.1 0 (by omega)
  have e0 : hN S 0 = (S.1 6).toInt := rfl
  have n6 := iNat (x := S.1 6) (by omega)
  have i2 : (2 : Int32).toInt = 2 := by decide
  have e2 := iSub (x := S.1 6) (y := 2) (by rw [i2]; omega) (by rw [i2]; omega)
  rw [i2] at e2
  have k2 := iNat (x := S.1 6 - 2) (by omega)
  obtain ⟨k, hkk⟩ : ∃ k : Nat, (S.1 6).toInt = k + 2 := ⟨(S.1 6).toNatClampNeg - 2, by omega⟩
  have ek : (S.1 6 - 2).toNatClampNeg = k := by omega
  have em : (f_X11_top S).1.toNatClampNeg = hM S 0 (k + 1) := by
    rw [top_m (by omega)]
    congr 1
    omega
  have lm : hL S 0 (k + 1) := ⟨by omega, by omega⟩
  have lt : hL S 0 k := ⟨by omega, by omega⟩
  have vt := h.1.2.1 0 k lt
  have wm := h.1.2.2.2.2.1 0 (k + 1) lm
  have wt := h.1.2.2.2.2.1 0 k lt
  have ch := h.1.2.2.2.2.2.2.2.1 0 k lm
  have c3 := h.1.2.2.2.2.2.2.2.2
  rw [em] at hk
  have cc := ch.2.1 hk
  unfold q_X11_carried_111 b_X11_carried_111
  rw [ek]
  have v1 : vp_in (S.2 31 k) 90 := vIn vt.1 vt.2.1
  have v2 : vp_in (f_X11_top S).1 90 := vIn t.1 t.2
  have et : (S.2 31 k).toNatClampNeg = hM S 0 k := rfl
  obtain ⟨p, x6, e6, q1, q2, q3, q4⟩ := change_i hr v1 v2 (by rw [et]; exact wt.2.1) (by rw [em]; exact wm.2.1) (by rw [em, et]; exact ⟨wm.2.2.1, wm.2.2.2.1, cc.2.1⟩) (by rw [em, et]; exact cc.2.2)
  rw [em] at e6
  rw [et] at q3 q4
  rw [em] at q4
  generalize (f_X11_change S (S.2 31 k) (f_X11_top S).1).2 = T at p q1 q2 q3 q4
  have rT : RA T := by
    unfold RA
    rw [q1, q2 31 (by omega) (by omega) (by omega) (by omega) (by omega), q2 32 (by omega) (by omega) (by omega) (by omega) (by omega)]
    exact hr
  have hpT : 1 ≤ (T.1 6).toInt := by rw [q1]; omega
  refine ⟨⟨vIn (by omega) (by omega), p, goes_p rT hpT, True.intro⟩, ?_⟩
  -- the row without its top, in which the words change
  have g := goes_i h (show 1 ≤ (S.1 6).toInt by omega)
  have eg := goes_e S
  have eT := goes_e T
  have tn := topN (S := S) (by omega)
  have eg1 : ∀ j, j ≠ 6 → (f_X11_goes S).2.1 j = S.1 j := fun j a => by rw [eg]; exact upd_ne a
  show CO (N + 1) S (f_X11_goes T).2
  have top' : (T.2 31 (T.1 6 - 1).toNatClampNeg).toNatClampNeg = (S.2 31 (S.1 6 - 1).toNatClampNeg).toNatClampNeg := by
    rw [q1, q2 31 (by omega) (by omega) (by omega) (by omega) (by omega)]
  have r1 : (f_X11_goes T).2.1 = (f_X11_goes S).2.1 := by
    rw [eT, eg]
    show upd T.1 6 (T.1 6 - 1) = upd S.1 6 (S.1 6 - 1)
    rw [q1]
  have rk : ∀ j, j ≠ 13 → (f_X11_goes T).2.2 j = T.2 j := fun j a => by rw [eT]; exact sA_k a
  have sk : ∀ j, j ≠ 13 → (f_X11_goes S).2.2 j = S.2 j := fun j a => by rw [eg]; exact sA_k a
  have r13 : (f_X11_goes T).2.2 13 = (f_X11_goes S).2.2 13 := by
    rw [eT, eg]
    show upd (T.2 13) _ 0 = upd (S.2 13) _ 0
    rw [top', q2 13 (by omega) (by omega) (by omega) (by omega) (by omega)]
  have ro : ∀ j, j ≠ 19 → j ≠ 20 → j ≠ 21 → j ≠ 26 → j ≠ 28 → (f_X11_goes T).2.2 j = (f_X11_goes S).2.2 j := fun j a b c d e => by
    by_cases z : j = 13
    · rw [z]
      exact r13
    · rw [rk j z, sk j z]
      exact q2 j a b c d e
  have r19 : (f_X11_goes T).2.2 19 = upd (S.2 19) (hM S 0 k) (S.2 19 (hM S 0 k) + x6) := by rw [rk 19 (by omega), q3]
  have r20 : (f_X11_goes T).2.2 20 = T.2 20 := rk 20 (by omega)
  have r21 : (f_X11_goes T).2.2 21 = T.2 21 := rk 21 (by omega)
  have pN : hN (f_X11_goes S).2 0 = k + 1 := by
    rw [eg]
    show (S.1 6 - 1).toInt = _
    omega
  have pM : ∀ i, hM (f_X11_goes S).2 0 i = hM S 0 i := fun i => by rw [eg]; rfl
  have cw : 0 ≤ (S.2 19 (hM S 0 k)).toInt + x6.toInt ∧ (S.2 19 (hM S 0 k)).toInt + x6.toInt ≤ 400 := ar1 wt.2.1 wm.2.1 ⟨wm.2.2.1, wm.2.2.2.1⟩ cc.2.1 cc.2.2 e6
  have nw := iAdd (x := S.2 19 (hM S 0 k)) (y := x6) (by omega) (by omega)
  generalize (f_X11_goes T).2 = R at r1 rk r13 ro r19 r20 r21
  generalize (f_X11_goes S).2 = P at g r1 sk r13 ro pN pM eg1
  have s20 := sk 20 (by omega)
  have s21 := sk 21 (by omega)
  have s22 := sk 22 (by omega)
  have s23 := sk 23 (by omega)
  have s19 := sk 19 (by omega)
  have s14 := sk 14 (by omega)
  have s31 : ∀ i, hL P 0 i → (S.2 31 i).toNatClampNeg = hM P 0 i := fun i _ => (pM i).symm
  have gt : S.2 14 (hM S 0 k) ≠ 3 := fun y => by
    rcases hk with z | z
    · exact (ch.2.2.2 z).2 y
    · have := ch.2.2.1 z
      rw [y] at this
      exact absurd this (by decide)
  refine ⟨⟨?_, ?_, ?_⟩, ?_, ?_⟩
  · refine g.1.change k (hM S 0 k) (by omega) pN (pM k) (by rw [r1]) r13 (ro 14 (by omega) (by omega) (by omega) (by omega) (by omega)) (ro 22 (by omega) (by omega) (by omega) (by omega) (by omega)) (ro 23 (by omega) (by omega) (by omega) (by omega) (by omega)) ?_ ?_ ?_ ?_ ?_ ?_ ?_
    · intro x a b
      rw [r19, s19]
      exact upd_ne b
    · rw [r19, upd_eq, nw]
      exact cw
    · intro x a
      rw [r20, r21, s20, s21, s22, s23]
      refine (q4 x a).imp (fun q => q) (fun q => ⟨q.1, fun i b => ?_, fun f => ?_⟩)
      · rw [pM i]
        refine q.2.1 i ?_
        have b2 := b.2
        omega
      · have u1 := q.2.2.1
        have u2 := q.2.2.2
        have a1 := wm.2.1
        have a2 := wm.2.2
        have ar := ar2 hN0 hN6 a1 a2 e6 f
        have f20 := iAdd (x := S.2 20 x) (y := x6) ar.1.1 ar.1.2
        have f21 := iAdd (x := S.2 21 x) (y := x6) ar.2.1 ar.2.2
        rw [u2.1, u2.2, f20, f21]
        exact ar3 a1 a2 e6 f u1
    · rw [s14]
      exact gt
    · intro y z
      rw [s14] at y
      rw [s19, s20, s21, pM, r19, upd_eq, nw]
      have k3 : S.2 14 (hM S 0 (k + 1)) = 3 := hk.resolve_left (fun w => (ch.2.2.2 w).1 y)
      obtain ⟨j, hj⟩ : ∃ j, k = j + 1 := ⟨k - 1, by omega⟩
      subst hj
      have w := c3 0 j lm k3
      have ej : j + 1 - 1 = j := by omega
      rw [ej]
      exact ar4 e6 w
    · intro g' q
      rcases g' with _ | _ | r
      · refine ⟨?_, Iff.rfl⟩
        show (R.1 6).toInt = (P.1 6).toInt
        rw [r1]
      · refine ⟨?_, ?_⟩
        · show (R.1 35).toInt = (P.1 35).toInt
          rw [r1]
        · show R.1 36 ≠ 0 ↔ P.1 36 ≠ 0
          rw [r1]
      · refine ⟨?_, ?_⟩
        · show (R.2 34 r).toInt = (P.2 34 r).toInt
          rw [ro 34 (by omega) (by omega) (by omega) (by omega) (by omega)]
        · show R.2 37 r ≠ 0 ↔ P.2 37 r ≠ 0
          rw [ro 37 (by omega) (by omega) (by omega) (by omega) (by omega)]
    · intro g' i a
      rcases g' with _ | _ | r
      · show R.2 31 i = P.2 31 i
        rw [ro 31 (by omega) (by omega) (by omega) (by omega) (by omega)]
      · show R.2 32 i = P.2 32 i
        rw [ro 32 (by omega) (by omega) (by omega) (by omega) (by omega)]
      · show R.2 33 (9 * r + i) = P.2 33 (9 * r + i)
        rw [ro 33 (by omega) (by omega) (by omega) (by omega) (by omega)]
  · refine g.2.1.mono (ro 34 (by omega) (by omega) (by omega) (by omega) (by omega)) ?_ ?_
    · rintro ⟨i, a, b⟩
      have m : hM R 0 i = hM P 0 i := by
        show (R.2 31 i).toNatClampNeg = (P.2 31 i).toNatClampNeg
        rw [ro 31 (by omega) (by omega) (by omega) (by omega) (by omega)]
      rw [m, ro 14 (by omega) (by omega) (by omega) (by omega) (by omega)] at b
      refine ⟨i, ⟨a.1, ?_⟩, b⟩
      have a2 : (i : Int) < (R.1 6).toInt := a.2
      rw [r1] at a2
      exact a2
    · rintro ⟨a, b⟩
      have a : 0 < (R.1 35).toInt := a
      have b : R.1 36 ≠ 0 := b
      rw [r1] at a b
      exact ⟨a, b⟩
  · have z := g.2.2
    unfold hZ at z ⊢
    rw [r1, ro 37 (by omega) (by omega) (by omega) (by omega) (by omega)]
    exact z
  · rw [r1, eg1 7 (by omega)]
  · rw [r1, eg1 8 (by omega)]
