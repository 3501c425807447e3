/-! ===== is it pending; loops of what is carried ===== -/
theorem isPending_q {S : HS} (h : RA S) (x1 : Int32) : ∀ (n : Nat) (x : Int32), 0 ≤ x.toInt → x.toInt ≤ (S.1 6).toInt → (S.1 6).toInt - x.toInt < n → lq_X11_isPending_2 n S x1 x := by
  intro n
  induction n with
  | zero => intro x h1 h2 h3; omega
  | succ n ih =>
    intro x h1 h2 h3
    rw [lq_X11_isPending_2]
    unfold ps_X11_isPending_2 st_X11_isPending_2
    have hp := h.2.1
    by_cases c : S.1 6 ≤ x
    · rw [if_pos c, if_pos c]
      exact ⟨True.intro, True.intro⟩
    · rw [if_neg c, if_neg c]
      have c := mt iLe.mpr c
      have e := iAdd (x := x) (y := 1) (by rw [i1]; omega) (by rw [i1]; omega)
      rw [i1] at e
      refine ⟨⟨vIn h1 (by omega), by split <;> exact True.intro⟩, ?_⟩
      by_cases z : S.2 31 x.toNatClampNeg = x1
      · rw [if_pos z]
        exact True.intro
      · rw [if_neg z]
        exact ih (x + 1) (by omega) (by omega) (by omega)
theorem isPending_p {S : HS} (h : RA S) (x1 : Int32) : p_X11_isPending S x1 :=
  isPending_q h x1 100000 0 (by rw [i0]; omega) (by rw [i0]; have := h.2.1; omega) (by rw [i0]; have := h.2.1; omega)
/-- adjourned: every seat is cleared -/
theorem adj_q (x1 x2 : Int32) : ∀ (n : Nat) (S : HS) (x : Int32), (S.1 0).toInt ≤ 200 → 0 ≤ x.toInt → x.toInt ≤ (S.1 0).toInt → (S.1 0).toInt - x.toInt < n → lq_X11_carried_157 n S x1 x2 x := by
  intro n
  induction n with
  | zero => intro S x h h1 h2 h3; omega
  | succ n ih =>
    intro S x h h1 h2 h3
    rw [lq_X11_carried_157]
    unfold ps_X11_carried_157 st_X11_carried_157
    by_cases c : S.1 0 ≤ x
    · rw [if_pos c, if_pos c]
      exact ⟨True.intro, True.intro⟩
    · rw [if_neg c, if_neg c]
      have c := mt iLe.mpr c
      have e := iAdd (x := x) (y := 1) (by rw [i1]; omega) (by rw [i1]; omega)
      rw [i1] at e
      exact ⟨⟨vIn h1 (by omega), True.intro⟩, ih (sA S 11 _ _) (x + 1) h (by omega) (by show _ ≤ (S.1 0).toInt; omega) (by show (S.1 0).toInt - _ < _; omega)⟩
