/-! ===== the model's looks ===== -/
theorem in_ofS {v n : Int32} (hn : -1 ≤ n.toInt - 1 ∧ n.toInt ≤ 100000) (q : ¬ f_X12_in v 0 (n - 1) = 0) : 0 ≤ v.toInt ∧ v.toInt < n.toInt := by
  have a := in_of q
  have e := iSub (x := n) (y := 1) (by rw [i1]; omega) (by rw [i1]; omega)
  rw [i1] at e
  rw [i0, e] at a
  omega
/-- a motion's words, in their row -/
theorem tx_in {S : HS} {y x : Int32} (hy : 0 ≤ y.toInt ∧ y.toInt < 90) (hx : 0 ≤ x.toInt ∧ x.toInt < 400) : vp_in ((400 * y) + x) 36000 := by
  have m := iMul (x := 400) (y := y) (n := 400 * y.toInt) (by rw [i400]) (by omega) (by omega)
  have a := iAdd (x := 400 * y) (y := x) (by rw [m]; omega) (by rw [m]; omega)
  rw [m] at a
  exact vIn (by omega) (by omega)
theorem text_i {S : HS} (h : HA S) (x1 x2 : Int32) : p_X11_text S x1 x2 ∧ (f_X11_text S x1 x2).2 = S := by
  have b87 : ∀ y, (y = (-1) ∨ ((0 ≤ y.toInt ∧ y.toInt < 90) ∧ (0 ≤ (S.2 19 y.toNatClampNeg).toInt ∧ (S.2 19 y.toNatClampNeg).toInt ≤ 400))) → q_X11_text_87 S x1 x2 y ∧ (b_X11_text_87 S x1 x2 y).2 = S := fun y q => by
    unfold q_X11_text_87 b_X11_text_87
    by_cases z : y = (-1)
    · rw [if_pos z, if_pos z]
      exact ⟨True.intro, rfl⟩
    · rw [if_neg z, if_neg z]
      have q := q.resolve_left z
      by_cases w : f_X12_in x2 0 ((S.2 19 y.toNatClampNeg) - 1) = 0
      · rw [if_pos w, if_pos w]
        exact ⟨⟨vIn q.1.1 q.1.2, in_p _ _ _, True.intro⟩, rfl⟩
      · rw [if_neg w, if_neg w]
        have a := in_ofS ⟨by omega, by omega⟩ w
        exact ⟨⟨vIn q.1.1 q.1.2, in_p _ _ _, tx_in (S := S) q.1 ⟨a.1, by omega⟩, True.intro⟩, rfl⟩
  have live : ∀ g i, hL S g i → (0 ≤ (hC S g i).toInt ∧ (hC S g i).toInt < 90) ∧ (0 ≤ (S.2 19 (hC S g i).toNatClampNeg).toInt ∧ (S.2 19 (hC S g i).toNatClampNeg).toInt ≤ 400) := fun g i a => by
    have v := h.1.1.2.1 g i a
    have w := h.1.1.2.2.2.2.1 g i a
    exact ⟨⟨v.1, v.2.1⟩, w.2.1⟩
  have r := h.1.ra
  have zz := h.1.2.2
  unfold p_X11_text f_X11_text
  by_cases z1 : x1 = (-1)
  · rw [if_pos z1, if_pos z1]
    by_cases z2 : f_X12_in x2 0 ((S.1 39) - 1) = 0
    · rw [if_pos z2, if_pos z2]
      exact ⟨⟨in_p _ _ _, True.intro⟩, rfl⟩
    · rw [if_neg z2, if_neg z2]
      have a := in_of z2
      have im : (-1 : Int32).toInt = -1 := by decide
      have e := iSub (x := S.1 39) (y := 1) (by rw [i1]; have := zz.2.1; omega) (by rw [i1]; have := zz.2.1; omega)
      rw [i1] at e
      rw [i0, e] at a
      have := zz.2.1
      exact ⟨⟨in_p _ _ _, vIn a.1 (by omega), True.intro⟩, rfl⟩
  rw [if_neg z1, if_neg z1]
  by_cases z2 : x1 = 9
  · rw [if_pos z2, if_pos z2]
    by_cases z3 : S.1 35 ≤ 0
    · rw [if_pos z3, if_pos z3]
      exact b87 (-1) (Or.inl rfl)
    rw [if_neg z3, if_neg z3]
    have z3 := mt iLe.mpr z3
    rw [i0] at z3
    by_cases z4 : S.1 36 = 0
    · rw [if_pos z4, if_pos z4]
      have l := live 1 0 ⟨by omega, by show ((0 : Nat) : Int) < (S.1 35).toInt; omega⟩
      have b := b87 (S.2 32 (0 : Int32).toNatClampNeg) (Or.inr (by rw [zn0]; exact l))
      exact ⟨⟨vIn (by rw [i0]; omega) (by rw [i0]; omega), b.1⟩, b.2⟩
    · rw [if_neg z4, if_neg z4]
      exact b87 (-1) (Or.inl rfl)
  rw [if_neg z2, if_neg z2]
  by_cases z3 : f_X12_in x1 0 ((S.1 6) - 1) = 0
  · rw [if_pos z3, if_pos z3]
    have b := b87 (-1) (Or.inl rfl)
    exact ⟨⟨in_p _ _ _, b.1⟩, b.2⟩
  · rw [if_neg z3, if_neg z3]
    have n6 := r.2.1
    have a := in_ofS ⟨by omega, by omega⟩ z3
    have k := iNat a.1
    have l := live 0 x1.toNatClampNeg ⟨by omega, by show _ < (S.1 6).toInt; omega⟩
    have b := b87 (S.2 31 x1.toNatClampNeg) (Or.inr l)
    exact ⟨⟨in_p _ _ _, vIn a.1 (by omega), b.1⟩, b.2⟩
theorem m_text {M : MS} (h : MI M) (x1 x2 : Int32) : p_X12_text M x1 x2 ∧ MI (f_X12_text M x1 x2).2 := by
  have a := text_i h.1 x1 x2
  unfold p_X12_text f_X12_text
  rw [a.2]
  exact ⟨⟨a.1, True.intro⟩, h⟩
theorem m_pending {M : MS} (h : MI M) (x1 x2 : Int32) : p_X12_pending M x1 x2 ∧ MI (f_X12_pending M x1 x2).2 := by
  have r := h.1.1.ra
  have vo : ∀ y, (f_X11_voters M.2.1 y).2 = M.2.1 := by
    have key : ∀ (n : Nat) (S : HS) (x1 x2 x3 : Int32), (lp_X11_voters_4 n S x1 x2 x3).2 = S := by
      intro n
      induction n with
      | zero => intro S x1 x2 x3; rfl
      | succ n ih =>
        intro S x1 x2 x3
        rw [lp_X11_voters_4]
        unfold st_X11_voters_4
        by_cases c : S.1 0 ≤ x3
        · rw [if_pos c]
        · rw [if_neg c]
          by_cases z : 2 ≤ (S.2 29 ((200 * x1) + x3).toNatClampNeg)
          · rw [if_pos z]
            exact ih _ _ _ _
          · rw [if_neg z]
            exact ih _ _ _ _
    exact fun y => key 100000 M.2.1 y 0 0
  unfold p_X12_pending f_X12_pending
  by_cases z : f_X12_in x1 0 ((M.2.1.1 6) - 1) = 0
  · rw [if_pos z, if_pos z]
    exact ⟨⟨in_p _ _ _, True.intro⟩, h⟩
  rw [if_neg z, if_neg z]
  have n6 := r.2.1
  have a := in_ofS ⟨by omega, by omega⟩ z
  have k := iNat a.1
  have v := r.2.2.2.1 x1.toNatClampNeg (by omega)
  have vs : vp_in (M.2.1.2 31 x1.toNatClampNeg) 90 := vIn v.1 v.2
  have v9 : vp_in x1 9 := vIn a.1 (by omega)
  refine (fun (q : (if x2 = 0 then _ else _) ∧ _) => ⟨⟨in_p _ _ _, v9, q.1⟩, q.2⟩) ?_
  by_cases c0 : x2 = 0
  · rw [if_pos c0, if_pos c0]; exact ⟨⟨vs, True.intro⟩, h⟩
  rw [if_neg c0, if_neg c0]
  by_cases c1 : x2 = 1
  · rw [if_pos c1, if_pos c1]; exact ⟨⟨vs, True.intro⟩, h⟩
  rw [if_neg c1, if_neg c1]
  by_cases c2 : x2 = 2
  · rw [if_pos c2, if_pos c2]; exact ⟨⟨vs, True.intro⟩, h⟩
  rw [if_neg c2, if_neg c2]
  by_cases c3 : x2 = 3
  · rw [if_pos c3, if_pos c3]; exact ⟨⟨vs, True.intro⟩, h⟩
  rw [if_neg c3, if_neg c3]
  by_cases c4 : x2 = 4
  · rw [if_pos c4, if_pos c4]; exact ⟨⟨vs, True.intro⟩, h⟩
  rw [if_neg c4, if_neg c4]
  by_cases c5 : x2 = 5
  · rw [if_pos c5, if_pos c5]; exact ⟨⟨vs, True.intro⟩, h⟩
  rw [if_neg c5, if_neg c5]
  by_cases c6 : x2 = 6
  · rw [if_pos c6, if_pos c6]; exact ⟨⟨vs, True.intro⟩, h⟩
  rw [if_neg c6, if_neg c6]
  by_cases c7 : x2 = 7
  · rw [if_pos c7, if_pos c7]; exact ⟨⟨vs, True.intro⟩, h⟩
  rw [if_neg c7, if_neg c7]
  by_cases c8 : x2 = 8
  · rw [if_pos c8, if_pos c8]
    split
    · exact ⟨⟨vs, True.intro⟩, h⟩
    · exact ⟨⟨vs, True.intro⟩, h⟩
  rw [if_neg c8, if_neg c8]
  by_cases c9 : x2 = 9
  · rw [if_pos c9, if_pos c9, vo]
    exact ⟨⟨voters_p r v, True.intro⟩, h⟩
  rw [if_neg c9, if_neg c9]
  exact ⟨True.intro, h⟩
theorem m_ballot {M : MS} (h : MI M) (x1 : Int32) : p_X12_ballot M x1 ∧ MI (f_X12_ballot M x1).2 := by
  have r := h.1.1.ra
  unfold p_X12_ballot f_X12_ballot
  by_cases z : M.2.1.1 6 = 0
  · rw [if_pos z, if_pos z]
    exact ⟨True.intro, h⟩
  rw [if_neg z, if_neg z]
  have hp := pend_pos r z
  by_cases w : f_X12_in x1 0 ((M.2.1.1 0) - 1) = 0
  · rw [if_pos w, if_pos w]
    exact ⟨⟨in_p _ _ _, True.intro⟩, h⟩
  rw [if_neg w, if_neg w]
  have n0 := r.1
  have a := in_ofS ⟨by omega, by omega⟩ w
  have t := top_in r hp
  rw [top_s]
  have e : mH M M.2.1 = M := rfl
  rw [e]
  have b := bal_in t (y := x1) ⟨a.1, by omega⟩
  unfold q_X12_ballot_a46 b_X12_ballot_a46
  split
  · exact ⟨⟨in_p _ _ _, top_p r hp, b, True.intro⟩, h⟩
  · exact ⟨⟨in_p _ _ _, top_p r hp, b, True.intro⟩, h⟩
theorem m_result {M : MS} (h : MI M) (x1 x2 : Int32) : p_X12_result M x1 x2 ∧ MI (f_X12_result M x1 x2).2 := by
  unfold p_X12_result f_X12_result
  by_cases z : f_X12_in x1 0 ((M.2.1.1 8) - 1) = 0
  · rw [if_pos z, if_pos z]
    exact ⟨⟨in_p _ _ _, True.intro⟩, h⟩
  rw [if_neg z, if_neg z]
  by_cases w : f_X12_in x2 0 4 = 0
  · rw [if_pos w, if_pos w]
    exact ⟨⟨in_p _ _ _, in_p _ _ _, True.intro⟩, h⟩
  rw [if_neg w, if_neg w]
  have n8 := h.1.2.2
  have n7 := h.1.2.1
  have a := in_ofS ⟨by omega, by omega⟩ z
  have b := in_of w
  have e4 : (4 : Int32).toInt = 4 := by decide
  have e5 : (5 : Int32).toInt = 5 := by decide
  rw [i0, e4] at b
  have m := iMul (x := 5) (y := x1) (n := 5 * x1.toInt) (by rw [e5]) (by omega) (by omega)
  have c := iAdd (x := 5 * x1) (y := x2) (by omega) (by omega)
  exact ⟨⟨in_p _ _ _, in_p _ _ _, vIn (by omega) (by omega), True.intro⟩, h⟩
theorem m_journal {M : MS} (h : MI M) (x1 x2 : Int32) : p_X12_journal M x1 x2 ∧ MI (f_X12_journal M x1 x2).2 := by
  unfold p_X12_journal f_X12_journal
  by_cases z : f_X12_in x1 0 ((M.2.1.1 7) - 1) = 0
  · rw [if_pos z, if_pos z]
    exact ⟨⟨in_p _ _ _, True.intro⟩, h⟩
  rw [if_neg z, if_neg z]
  by_cases w : f_X12_in x2 0 5 = 0
  · rw [if_pos w, if_pos w]
    exact ⟨⟨in_p _ _ _, in_p _ _ _, True.intro⟩, h⟩
  rw [if_neg w, if_neg w]
  have n7 := h.1.2.1
  have a := in_ofS ⟨by omega, by omega⟩ z
  have b := in_of w
  have e5 : (5 : Int32).toInt = 5 := by decide
  rw [i0, e5] at b
  exact ⟨⟨in_p _ _ _, in_p _ _ _, (c6 ⟨a.1, by omega⟩ b).2, True.intro⟩, h⟩
theorem m_seat {M : MS} (h : MI M) (x1 : Int32) : p_X12_seat M x1 ∧ MI (f_X12_seat M x1).2 := by
  unfold p_X12_seat f_X12_seat
  by_cases z : f_X12_in x1 0 ((M.2.1.1 0) - 1) = 0
  · rw [if_pos z, if_pos z]
    exact ⟨⟨in_p _ _ _, True.intro⟩, h⟩
  rw [if_neg z, if_neg z]
  have n0 := h.1.1.ra.1
  have a := in_ofS ⟨by omega, by omega⟩ z
  split
  · exact ⟨⟨in_p _ _ _, vIn a.1 (by omega), True.intro⟩, h⟩
  · exact ⟨⟨in_p _ _ _, vIn a.1 (by omega), True.intro⟩, h⟩
theorem m_count {M : MS} (h : MI M) (x1 : Int32) : p_X12_count M x1 ∧ MI (f_X12_count M x1).2 := by
  have r := h.1.1.ra
  unfold p_X12_count f_X12_count
  by_cases c0 : x1 = 0
  · rw [if_pos c0, if_pos c0]; exact ⟨True.intro, h⟩
  rw [if_neg c0, if_neg c0]
  by_cases c1 : x1 = 1
  · rw [if_pos c1, if_pos c1]; exact ⟨True.intro, h⟩
  rw [if_neg c1, if_neg c1]
  by_cases c2 : x1 = 2
  · rw [if_pos c2, if_pos c2]; exact ⟨True.intro, h⟩
  rw [if_neg c2, if_neg c2]
  by_cases c3 : x1 = 3
  · rw [if_pos c3, if_pos c3]; exact ⟨True.intro, h⟩
  rw [if_neg c3, if_neg c3]
  by_cases c4 : x1 = 4
  · rw [if_pos c4, if_pos c4]; exact ⟨True.intro, h⟩
  rw [if_neg c4, if_neg c4]
  by_cases c5 : x1 = 5
  · rw [if_pos c5, if_pos c5]; exact ⟨True.intro, h⟩
  rw [if_neg c5, if_neg c5]
  by_cases c6 : x1 = 6
  · rw [if_pos c6, if_pos c6]; exact ⟨True.intro, h⟩
  rw [if_neg c6, if_neg c6]
  by_cases c7 : x1 = 7
  · rw [if_pos c7, if_pos c7]
    by_cases z : M.2.1.1 35 = 0
    · rw [if_pos z, if_pos z]; exact ⟨True.intro, h⟩
    rw [if_neg z, if_neg z]
    have z := mt iEq.mpr z
    rw [i0] at z
    have n35 := r.2.2.1
    have d := draft0_in r (by omega)
    by_cases w : M.2.1.1 36 = 0
    · rw [if_pos w, if_pos w]; exact ⟨⟨vIn (by rw [i0]; omega) (by rw [i0]; omega), vIn d.1 d.2, True.intro⟩, h⟩
    · rw [if_neg w, if_neg w]; exact ⟨True.intro, h⟩
  rw [if_neg c7, if_neg c7]
  by_cases c8 : x1 = 8
  · rw [if_pos c8, if_pos c8]; exact ⟨True.intro, h⟩
  rw [if_neg c8, if_neg c8]
  by_cases c9 : x1 = 9
  · rw [if_pos c9, if_pos c9]; exact ⟨True.intro, h⟩
  rw [if_neg c9, if_neg c9]
  by_cases c10 : x1 = 10
  · rw [if_pos c10, if_pos c10]; exact ⟨True.intro, h⟩
  rw [if_neg c10, if_neg c10]
  by_cases c11 : x1 = 11
  · rw [if_pos c11, if_pos c11]; exact ⟨True.intro, h⟩
  rw [if_neg c11, if_neg c11]
  by_cases c12 : x1 = 12
  · rw [if_pos c12, if_pos c12]; exact ⟨True.intro, h⟩
  rw [if_neg c12, if_neg c12]
  exact ⟨True.intro, h⟩
/-- what lies at a place -/
theorem lies {S : HS} (h : HA S) {x1 : Int32} (hx : 0 ≤ x1.toInt ∧ x1.toInt ≤ 7) (q : ¬ S.2 34 x1.toNatClampNeg = 0) : vp_in (9 * x1) 72 ∧ (0 ≤ (S.2 33 (9 * x1).toNatClampNeg).toInt ∧ (S.2 33 (9 * x1).toNatClampNeg).toInt < 90) ∧ (0 ≤ (S.2 19 (S.2 33 (9 * x1).toNatClampNeg).toNatClampNeg).toInt ∧ (S.2 19 (S.2 33 (9 * x1).toNatClampNeg).toNatClampNeg).toInt ≤ 400) := by
  have k := iNat hx.1
  have c := c9' hx
  have n := h.1.1.1 (x1.toNatClampNeg + 2) (by omega)
  have e : hN S (x1.toNatClampNeg + 2) = (S.2 34 x1.toNatClampNeg).toInt := rfl
  have q := mt iEq.mpr q
  rw [i0] at q
  have l : hL S (x1.toNatClampNeg + 2) 0 := ⟨by omega, by omega⟩
  have v := h.1.1.2.1 _ _ l
  have w := h.1.1.2.2.2.2.1 _ _ l
  rw [c.1]
  exact ⟨c.2, ⟨v.1, v.2.1⟩, w.2.1⟩
theorem m_lying {M : MS} (h : MI M) (x1 x2 : Int32) : p_X12_lying M x1 x2 ∧ MI (f_X12_lying M x1 x2).2 := by
  unfold p_X12_lying f_X12_lying
  by_cases z : f_X12_in x1 0 7 = 0
  · rw [if_pos z, if_pos z]
    exact ⟨⟨in_p _ _ _, True.intro⟩, h⟩
  rw [if_neg z, if_neg z]
  have a := in_07 z
  have v8 : vp_in x1 8 := vIn a.1 (by omega)
  by_cases w : M.2.1.2 34 x1.toNatClampNeg = 0
  · rw [if_pos w, if_pos w]
    exact ⟨⟨in_p _ _ _, v8, True.intro⟩, h⟩
  rw [if_neg w, if_neg w]
  have l := lies h.1 a w
  by_cases y : f_X12_in x2 0 ((M.2.1.2 19 (M.2.1.2 33 (9 * x1).toNatClampNeg).toNatClampNeg) - 1) = 0
  · rw [if_pos y, if_pos y]
    exact ⟨⟨in_p _ _ _, v8, l.1, vIn l.2.1.1 l.2.1.2, in_p _ _ _, True.intro⟩, h⟩
  · rw [if_neg y, if_neg y]
    have b := in_ofS ⟨by omega, by omega⟩ y
    exact ⟨⟨in_p _ _ _, v8, l.1, vIn l.2.1.1 l.2.1.2, in_p _ _ _, tx_in (S := M.2.1) l.2.1 ⟨b.1, by omega⟩, True.intro⟩, h⟩
