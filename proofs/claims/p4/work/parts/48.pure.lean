/-! ===== a new slot, a word added, laying, moving ===== -/
theorem newSlot_q (S : HS) (x1 : Int32) {y : Nat} (hy : y < 90) (hf : S.2 13 y = 0) : ∀ (n : Nat) (x : Int32), 0 ≤ x.toInt → x.toInt ≤ y → 90 - x.toInt < n → lq_X11_newSlot_2 n S x1 x := by
  intro n
  induction n with
  | zero => intro x h1 h2 h3; omega
  | succ n ih =>
    intro x h1 h2 h3
    rw [lq_X11_newSlot_2]
    unfold ps_X11_newSlot_2 st_X11_newSlot_2
    have v : vp_in x 90 := vIn h1 (by omega)
    by_cases z : S.2 13 x.toNatClampNeg = 0
    · rw [if_pos z, if_pos z]
      exact ⟨⟨v, v, v, v, v, v, v, v, v, v, v, anew_p _ ⟨h1, by omega⟩, v, True.intro⟩, True.intro⟩
    · rw [if_neg z, if_neg z]
      have e := iAdd (x := x) (y := 1) (by rw [i1]; omega) (by rw [i1]; omega)
      rw [i1] at e
      have d : x.toNatClampNeg ≠ y := fun q => z (by rw [q]; exact hf)
      have k := iNat h1
      exact ⟨⟨v, True.intro⟩, ih (x + 1) (by omega) (by omega) (by omega)⟩
/-- a new slot is found where one is free -/
theorem newSlot_p {S : HS} (x1 : Int32) (h : ∃ y : Nat, y < 90 ∧ S.2 13 y = 0) : p_X11_newSlot S x1 := by
  obtain ⟨y, hy, hf⟩ := h
  exact newSlot_q S x1 hy hf 100000 0 (by rw [i0]; omega) (by rw [i0]; omega) (by rw [i0]; omega)
theorem addWord_p {S : HS} (h : RA S) (hd : 1 ≤ (S.1 35).toInt) (x1 : Int32) (q : 0 ≤ (S.2 19 (S.2 32 (0 : Int32).toNatClampNeg).toNatClampNeg).toInt ∧ (S.2 19 (S.2 32 (0 : Int32).toNatClampNeg).toNatClampNeg).toInt < 400) : p_X11_addWord S x1 := by
  have d := draft0_in h hd
  have d0 : vp_in 0 9 := vIn (by rw [i0]; omega) (by rw [i0]; omega)
  have v := vIn (n := 90) d.1 d.2
  have e4 : (400 : Int32).toInt = 400 := by decide
  have m := iMul (x := 400) (y := S.2 32 (0 : Int32).toNatClampNeg) (n := 400 * (S.2 32 (0 : Int32).toNatClampNeg).toInt) (by rw [e4]) (by omega) (by omega)
  have a := iAdd (x := 400 * S.2 32 (0 : Int32).toNatClampNeg) (y := S.2 19 (S.2 32 (0 : Int32).toNatClampNeg).toNatClampNeg) (by rw [m]; omega) (by rw [m]; omega)
  rw [m] at a
  unfold p_X11_addWord
  split
  · exact True.intro
  · exact ⟨d0, v, vIn (by omega) (by omega), v, v, True.intro⟩
theorem lay_q {x1 : Int32} (hx : 0 ≤ x1.toInt ∧ x1.toInt ≤ 7) : ∀ (n : Nat) (S : HS) (x2 x : Int32), (S.1 35).toInt ≤ 9 → 0 ≤ x.toInt → x.toInt ≤ (S.1 35).toInt → (S.1 35).toInt - x.toInt < n → lq_X11_lay_67 n S x1 x2 x := by
  intro n
  induction n with
  | zero => intro S x2 x h9 h1 h2 h3; omega
  | succ n ih =>
    intro S x2 x h9 h1 h2 h3
    rw [lq_X11_lay_67]
    unfold ps_X11_lay_67 st_X11_lay_67
    have v : vp_in x1 8 := vIn hx.1 (by omega)
    by_cases c : S.1 35 ≤ x
    · rw [if_pos c, if_pos c]
      exact ⟨⟨v, v, True.intro⟩, True.intro⟩
    · rw [if_neg c, if_neg c]
      have c := mt iLe.mpr c
      have e := iAdd (x := x) (y := 1) (by rw [i1]; omega) (by rw [i1]; omega)
      rw [i1] at e
      have e9 : (9 : Int32).toInt = 9 := by decide
      have m := iMul (x := 9) (y := x1) (n := 9 * x1.toInt) (by rw [e9]) (by omega) (by omega)
      have a := iAdd (x := 9 * x1) (y := x) (by rw [m]; omega) (by rw [m]; omega)
      rw [m] at a
      exact ⟨⟨vIn h1 (by omega), vIn (by omega) (by omega), True.intro⟩, ih (sA S 33 _ _) x2 (x + 1) h9 (by omega) (by show _ ≤ (S.1 35).toInt; omega) (by show (S.1 35).toInt - _ < _; omega)⟩
theorem lay_d {S : HS} (h : RA S) (hd : 1 ≤ (S.1 35).toInt) {x1 : Int32} (hx : 0 ≤ x1.toInt ∧ x1.toInt ≤ 7)
    (ht : S.1 36 = 0 → S.2 25 (S.2 32 (0 : Int32).toNatClampNeg).toNatClampNeg = 0 → (S.2 14 (S.2 32 (0 : Int32).toNatClampNeg).toNatClampNeg = 2 ∨ S.2 14 (S.2 32 (0 : Int32).toNatClampNeg).toNatClampNeg = 3) → 1 ≤ (S.1 6).toInt) : p_X11_lay S x1 := by
  have d := draft0_in h hd
  have d0 : vp_in 0 9 := vIn (by rw [i0]; omega) (by rw [i0]; omega)
  have v := vIn (n := 90) d.1 d.2
  have u := h.2.2.1
  have l65 : ∀ T : HS, (T.1 35) = S.1 35 → q_X11_lay_65 T x1 (S.2 32 (0 : Int32).toNatClampNeg) := fun T e => lay_q hx 100000 T _ 0 (by rw [e]; omega) (by rw [i0]; omega) (by rw [i0, e]; omega) (by rw [i0, e]; omega)
  have l58 : ∀ T : HS, (T.1 35) = S.1 35 → q_X11_lay_58 T x1 (S.2 32 (0 : Int32).toNatClampNeg) := fun T e => ⟨v, l65 _ e⟩
  have l43 : 1 ≤ (S.1 6).toInt → q_X11_lay_43 S x1 (S.2 32 (0 : Int32).toNatClampNeg) := fun hp => by
    have t := top_in h hp
    refine ⟨top_p h hp, ?_⟩
    rw [top_s]
    exact ⟨vIn t.1 t.2, v, l58 _ rfl⟩
  refine ⟨d0, ?_⟩
  split
  · rename_i z
    refine ⟨v, ?_⟩
    split
    · rename_i y
      refine ⟨v, ?_⟩
      split
      · rename_i w
        exact l43 (ht z y (Or.inl w))
      · refine ⟨v, ?_⟩
        split
        · rename_i w
          exact l43 (ht z y (Or.inr w))
        · exact l58 S rfl
    · exact l58 S rfl
  · exact l65 S rfl
theorem move_q : ∀ (n : Nat) (S : HS) (x1 x : Int32), 0 ≤ (S.1 6).toInt → (S.1 6).toInt + (S.1 35).toInt ≤ 9 → 0 ≤ x.toInt → x.toInt ≤ (S.1 35).toInt → (S.1 35).toInt - x.toInt < n → lq_X11_move_77 n S x1 x := by
  intro n
  induction n with
  | zero => intro S x1 x g h9 h1 h2 h3; omega
  | succ n ih =>
    intro S x1 x g h9 h1 h2 h3
    rw [lq_X11_move_77]
    unfold ps_X11_move_77 st_X11_move_77
    by_cases c : S.1 35 ≤ x
    · rw [if_pos c, if_pos c]
      exact ⟨True.intro, True.intro⟩
    · rw [if_neg c, if_neg c]
      have c := mt iLe.mpr c
      have e := iAdd (x := x) (y := 1) (by rw [i1]; omega) (by rw [i1]; omega)
      rw [i1] at e
      have a := iAdd (x := S.1 6) (y := x) (by omega) (by omega)
      exact ⟨⟨vIn h1 (by omega), vIn (by omega) (by omega), True.intro⟩, ih (sA S 31 _ _) x1 (x + 1) g h9 (by omega) (by show _ ≤ (S.1 35).toInt; omega) (by show (S.1 35).toInt - _ < _; omega)⟩
theorem move_d {S : HS} (h : RA S) (hd : 1 ≤ (S.1 35).toInt) (hs : (S.1 6).toInt + (S.1 35).toInt ≤ 9) (x1 : Int32)
    (ht : S.1 36 = 0 → (S.2 14 (S.2 32 (0 : Int32).toNatClampNeg).toNatClampNeg = 2 ∨ S.2 14 (S.2 32 (0 : Int32).toNatClampNeg).toNatClampNeg = 3) → 1 ≤ (S.1 6).toInt) : p_X11_move S x1 := by
  have d := draft0_in h hd
  have d0 : vp_in 0 9 := vIn (by rw [i0]; omega) (by rw [i0]; omega)
  have v := vIn (n := 90) d.1 d.2
  have u := h.2.2.1
  have w := h.2.1
  have m75 : ∀ T : HS, T.1 35 = S.1 35 → T.1 6 = S.1 6 → q_X11_move_75 T x1 := fun T e f => move_q 100000 T x1 0 (by rw [f]; omega) (by rw [e, f]; omega) (by rw [i0]; omega) (by rw [i0, e]; omega) (by rw [i0, e]; omega)
  have m68 : ∀ T : HS, ∀ y, T.1 35 = S.1 35 → T.1 6 = S.1 6 → q_X11_move_68 T x1 (S.2 32 (0 : Int32).toNatClampNeg) y := fun T y e f => ⟨v, m75 _ e f⟩
  have m39 : ∀ y : Int32, (y = 0 ∨ 1 ≤ (S.1 6).toInt) → q_X11_move_39 S x1 (S.2 32 (0 : Int32).toNatClampNeg) y := fun y q => by
    unfold q_X11_move_39
    split
    · exact m68 S _ rfl rfl
    · rename_i z
      have hp := q.resolve_left z
      have t := top_in h hp
      refine ⟨v, ?_⟩
      split
      · refine ⟨top_p h hp, ?_⟩
        rw [top_s]
        exact ⟨vIn t.1 t.2, v, m68 _ _ rfl rfl⟩
      · exact m68 S _ rfl rfl
  unfold p_X11_move
  split
  · rename_i z
    refine ⟨d0, v, ?_⟩
    split
    · rename_i y
      exact m39 1 (Or.inr (ht z (Or.inl y)))
    · refine ⟨v, ?_⟩
      split
      · rename_i y
        exact m39 1 (Or.inr (ht z (Or.inr y)))
      · exact m39 0 (Or.inl rfl)
  · exact m75 S rfl rfl
