/-! ===== carried: a MAIN's words are written down; the row is tabled ===== -/
theorem main_q {x1 : Int32} (hx : 0 ≤ x1.toInt ∧ x1.toInt < 90) (x2 : Int32) : ∀ (n : Nat) (S : HS) (x : Int32), RA S → 1 ≤ (S.1 6).toInt → (S.2 19 x1.toNatClampNeg).toInt ≤ 400 → 0 ≤ x.toInt → x.toInt ≤ 400 → (400 - x.toInt < n) → lq_X11_carried_70 n S x1 x2 x := by
  intro n
  induction n with
  | zero => intro S x h hp hw h1 h2 h3; omega
  | succ n ih =>
    intro S x h hp h4 h1 h2 h3
    rw [lq_X11_carried_70]
    unfold ps_X11_carried_70 st_X11_carried_70
    have v : vp_in x1 90 := vIn hx.1 hx.2
    by_cases c : S.2 19 x1.toNatClampNeg ≤ x
    · rw [if_pos c, if_pos c]
      exact ⟨⟨v, goes_p h hp, True.intro⟩, True.intro⟩
    · rw [if_neg c, if_neg c]
      have c := mt iLe.mpr c
      have e := iAdd (x := x) (y := 1) (by rw [i1]; omega) (by rw [i1]; omega)
      rw [i1] at e
      have e4 : (400 : Int32).toInt = 400 := by decide
      have m := iMul (x := 400) (y := x1) (n := 400 * x1.toInt) (by rw [e4]) (by omega) (by omega)
      have a := iAdd (x := 400 * x1) (y := x) (by rw [m]; omega) (by rw [m]; omega)
      rw [m] at a
      exact ⟨⟨v, vIn (by omega) (by omega), vIn h1 (by omega), True.intro⟩, ih (sA S 38 _ _) (x + 1) h hp h4 (by omega) (by omega) (by omega)⟩
theorem table_q {x3 : Int32} (hx : 0 ≤ x3.toInt ∧ x3.toInt ≤ 7) (x1 x2 : Int32) : ∀ (n : Nat) (S : HS) (x : Int32), (S.1 6).toInt ≤ 9 → 0 ≤ x.toInt → x.toInt ≤ (S.1 6).toInt → (S.1 6).toInt - x.toInt < n → lq_X11_carried_198 n S x1 x2 x3 x := by
  intro n
  induction n with
  | zero => intro S x h h1 h2 h3; omega
  | succ n ih =>
    intro S x h h1 h2 h3
    rw [lq_X11_carried_198]
    unfold ps_X11_carried_198 st_X11_carried_198
    have v : vp_in x3 8 := vIn hx.1 (by omega)
    by_cases c : S.1 6 ≤ x
    · rw [if_pos c, if_pos c]
      exact ⟨⟨v, v, True.intro⟩, True.intro⟩
    · rw [if_neg c, if_neg c]
      have c := mt iLe.mpr c
      have e := iAdd (x := x) (y := 1) (by rw [i1]; omega) (by rw [i1]; omega)
      rw [i1] at e
      have e9 : (9 : Int32).toInt = 9 := by decide
      have m := iMul (x := 9) (y := x3) (n := 9 * x3.toInt) (by rw [e9]) (by omega) (by omega)
      have a := iAdd (x := 9 * x3) (y := x) (by rw [m]; omega) (by rw [m]; omega)
      rw [m] at a
      exact ⟨⟨vIn h1 (by omega), vIn (by omega) (by omega), True.intro⟩, ih (sA S 33 _ _) (x + 1) h (by omega) (by show _ ≤ (S.1 6).toInt; omega) (by show (S.1 6).toInt - _ < _; omega)⟩
