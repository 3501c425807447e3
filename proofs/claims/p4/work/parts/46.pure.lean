/-! ===== act: from does ===== -/
theorem numbers_p (x : Int32) : p_X12_numbers x := by
  unfold p_X12_numbers
  repeat' split
  all_goals first | exact True.intro | skip
  refine ⟨in_p _ _ _, ?_⟩
  split <;> exact True.intro
theorem ent_in {e : Int32} (h : 0 ≤ e.toInt ∧ e.toInt < 600) {k : Int32} (hk : 0 ≤ k.toInt ∧ k.toInt ≤ 5) : vp_in (6 * e) 3600 ∧ vp_in (6 * e + k) 3600 := by
  have e6 : (6 : Int32).toInt = 6 := by decide
  have m := iMul (x := 6) (y := e) (n := 6 * e.toInt) (by rw [e6]) (by omega) (by omega)
  have a := iAdd (x := 6 * e) (y := k) (by rw [m]; omega) (by rw [m]; omega)
  rw [m] at a
  exact ⟨vIn (by omega) (by omega), vIn (by omega) (by omega)⟩
theorem act_101 (S : HS) (x1 x2 x3 x4 x5 x6 x7 x9 y0 : Int32) {e : Int32} (h : 0 ≤ e.toInt ∧ e.toInt < 600) : q_X11_act_101 S x1 x2 x3 x4 x5 x6 x7 (6 * e) x9 y0 (6 * e + 1) := by
  have k1 := (ent_in h (k := 1) (by decide)).2
  have k2 := (ent_in h (k := 2) (by decide)).2
  have k3 := (ent_in h (k := 3) (by decide)).2
  have k4 := (ent_in h (k := 4) (by decide)).2
  have k5 := (ent_in h (k := 5) (by decide)).2
  have a : ∀ S y, q_X11_act_163 S x1 x2 x3 x4 x5 x6 x7 (6 * e) x9 y (6 * e + 4) := fun S y => ⟨k4, k5, True.intro⟩
  have b : ∀ S y, q_X11_act_142 S x1 x2 x3 x4 x5 x6 x7 (6 * e) x9 y (6 * e + 3) := fun S y => by
    refine ⟨k3, ?_⟩
    split <;> exact a _ _
  have c : ∀ S y, q_X11_act_121 S x1 x2 x3 x4 x5 x6 x7 (6 * e) x9 y (6 * e + 2) := fun S y => by
    refine ⟨k2, ?_⟩
    split <;> exact b _ _
  refine ⟨k1, ?_⟩
  split <;> exact c _ _
theorem act_32 {S : HS} (x1 x2 x3 x4 x5 x6 : Int32) (hp : x6 ≤ 0 → (p_X11_does (sI S 10 x6) x1 x2 x3 x4 x5 ∧ 0 ≤ ((f_X11_does (sI S 10 x6) x1 x2 x3 x4 x5).2.1 7).toInt ∧ ((f_X11_does (sI S 10 x6) x1 x2 x3 x4 x5).2.1 7).toInt < 600)) : q_X11_act_32 S x1 x2 x3 x4 x5 x6 := by
  unfold q_X11_act_32
  split
  · rename_i z
    have d := hp z
    refine ⟨d.1, numbers_p _, (ent_in d.2 (k := 0) (by decide)).1, ?_⟩
    split <;> exact act_101 _ _ _ _ _ _ _ _ _ _ d.2
  · exact True.intro
/-- act returns, where its reason is read in a good state and what it does returns and leaves the count of entries below 600 -/
theorem act_p {S : HS} (h : RA S) (k : RK S) (x1 x2 x3 x4 x5 : Int32)
    (hp : (f_X11_reason S x1 x2 x3 x4 x5).1 = 0 → S.1 7 ≠ 600 → (p_X11_does (sI S 10 0) x1 x2 x3 x4 x5 ∧ 0 ≤ ((f_X11_does (sI S 10 0) x1 x2 x3 x4 x5).2.1 7).toInt ∧ ((f_X11_does (sI S 10 0) x1 x2 x3 x4 x5).2.1 7).toInt < 600)) : p_X11_act S x1 x2 x3 x4 x5 := by
  refine ⟨reasons_p h k _ _ _ _ _, ?_⟩
  rw [sf_X11_reason]
  have n := nf_X11_reason S x1 x2 x3 x4 x5
  unfold NN at n
  unfold q_X11_act_a11
  split
  · rename_i z
    split
    · exact act_32 _ _ _ _ _ _ (fun q => absurd q (by decide))
    · rename_i y
      rw [z]
      exact act_32 _ _ _ _ _ _ (fun _ => hp z y)
  · rename_i z
    refine act_32 _ _ _ _ _ _ (fun q => absurd (iEq.mpr ?_) z)
    have a := iLe.mp n
    have b := iLe.mp q
    omega
