/-! ===== what acts do, piece by piece: every index lies in its row ===== -/
theorem i200 : (200 : Int32).toInt = 200 := by decide
/-- a slot's ballot of a seat -/
theorem bal_in {x y : Int32} (hx : 0 ≤ x.toInt ∧ x.toInt < 90) (hy : 0 ≤ y.toInt ∧ y.toInt < 200) : vp_in (200 * x + y) 18000 := by
  have m := iMul (x := 200) (y := x) (n := 200 * x.toInt) (by rw [i200]) (by omega) (by omega)
  have a := iAdd (x := 200 * x) (y := y) (by rw [m]; omega) (by rw [m]; omega)
  rw [m] at a
  exact vIn (by omega) (by omega)
theorem anew_q {x1 : Int32} (hx : 0 ≤ x1.toInt ∧ x1.toInt < 90) : ∀ (n : Nat) (S : HS) (x : Int32), 0 ≤ x.toInt → x.toInt ≤ 200 → 200 - x.toInt < n → lq_X11_anew_43 n S x1 x := by
  intro n
  induction n with
  | zero => intro S x h1 h2 h3; omega
  | succ n ih =>
    intro S x h1 h2 h3
    rw [lq_X11_anew_43]
    unfold ps_X11_anew_43 st_X11_anew_43
    by_cases c : 200 ≤ x
    · rw [if_pos c, if_pos c]
      exact ⟨True.intro, True.intro⟩
    · rw [if_neg c, if_neg c]
      have c := mt iLe.mpr c
      rw [i200] at c
      have e := iAdd (x := x) (y := 1) (by rw [i1]; omega) (by rw [i1]; omega)
      rw [i1] at e
      exact ⟨⟨bal_in hx ⟨h1, by omega⟩, True.intro⟩, ih _ (x + 1) (by omega) (by omega) (by omega)⟩
theorem anew_p (S : HS) {x1 : Int32} (hx : 0 ≤ x1.toInt ∧ x1.toInt < 90) : p_X11_anew S x1 :=
  ⟨vIn hx.1 hx.2, vIn hx.1 hx.2, vIn hx.1 hx.2, vIn hx.1 hx.2, anew_q hx 100000 _ 0 (by rw [i0]; omega) (by rw [i0]; omega) (by rw [i0]; omega)⟩
theorem voters_q {S : HS} (h : RA S) {x1 : Int32} (hx : 0 ≤ x1.toInt ∧ x1.toInt < 90) : ∀ (n : Nat) (x2 x : Int32), 0 ≤ x.toInt → x.toInt ≤ (S.1 0).toInt → (S.1 0).toInt - x.toInt < n → lq_X11_voters_4 n S x1 x2 x := by
  intro n
  induction n with
  | zero => intro x2 x h1 h2 h3; omega
  | succ n ih =>
    intro x2 x h1 h2 h3
    rw [lq_X11_voters_4]
    unfold ps_X11_voters_4 st_X11_voters_4
    have hs := h.1
    by_cases c : S.1 0 ≤ x
    · rw [if_pos c, if_pos c]
      exact ⟨True.intro, True.intro⟩
    · rw [if_neg c, if_neg c]
      have c := mt iLe.mpr c
      have e := iAdd (x := x) (y := 1) (by rw [i1]; omega) (by rw [i1]; omega)
      rw [i1] at e
      refine ⟨⟨bal_in hx ⟨h1, by omega⟩, ?_⟩, ?_⟩
      · split <;> exact True.intro
      · by_cases z : 2 ≤ (S.2 29 ((200 * x1) + x).toNatClampNeg)
        · rw [if_pos z]
          exact ih _ (x + 1) (by omega) (by omega) (by omega)
        · rw [if_neg z]
          exact ih _ (x + 1) (by omega) (by omega) (by omega)
theorem voters_p {S : HS} (h : RA S) {x1 : Int32} (hx : 0 ≤ x1.toInt ∧ x1.toInt < 90) : p_X11_voters S x1 :=
  voters_q h hx 100000 0 0 (by rw [i0]; omega) (by rw [i0]; have := h.1; omega) (by rw [i0]; have := h.1; omega)
theorem carries_p (S : HS) (x1 x2 x3 : Int32) : p_X11_carries S x1 x2 x3 := by
  unfold p_X11_carries
  repeat' split
  all_goals exact ⟨rfl, True.intro⟩
theorem goes_p {S : HS} (h : RA S) (hp : 1 ≤ (S.1 6).toInt) : p_X11_goes S := by
  have t := top_in h hp
  exact ⟨top_p h hp, vIn t.1 t.2, True.intro⟩
/-- dropping the draft reads the drafted slots alone -/
theorem dropDraft_q : ∀ (n : Nat) (S : HS) (x : Int32), RA S → 0 ≤ x.toInt → x.toInt ≤ (S.1 35).toInt → (S.1 35).toInt - x.toInt < n → lq_X11_dropDraft_2 n S x := by
  intro n
  induction n with
  | zero => intro S x h h1 h2 h3; omega
  | succ n ih =>
    intro S x h h1 h2 h3
    rw [lq_X11_dropDraft_2]
    unfold ps_X11_dropDraft_2 st_X11_dropDraft_2
    have hd := h.2.2.1
    by_cases c : S.1 35 ≤ x
    · rw [if_pos c, if_pos c]
      exact ⟨True.intro, True.intro⟩
    · rw [if_neg c, if_neg c]
      have c := mt iLe.mpr c
      have e := iAdd (x := x) (y := 1) (by rw [i1]; omega) (by rw [i1]; omega)
      rw [i1] at e
      have r := h.2.2.2.2 x.toNatClampNeg (by rw [iNat h1]; omega)
      exact ⟨⟨vIn h1 (by omega), vIn r.1 r.2, True.intro⟩, ih (sA S 13 _ _) (x + 1) h (by omega) (by show _ ≤ (S.1 35).toInt; omega) (by show (S.1 35).toInt - _ < _; omega)⟩
theorem dropDraft_p {S : HS} (h : RA S) : p_X11_dropDraft S :=
  dropDraft_q 100000 S 0 h (by rw [i0]; omega) (by rw [i0]; have := h.2.2.1; omega) (by rw [i0]; have := h.2.2.1; omega)
