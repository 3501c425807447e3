/-! ===== taking from the desk ===== -/
theorem take_q {x1 : Int32} (hx : 0 ≤ x1.toInt ∧ x1.toInt ≤ 7) : ∀ (n : Nat) (T : HS) (x : Int32), (1 ≤ (T.2 34 x1.toNatClampNeg).toInt ∧ (T.2 34 x1.toNatClampNeg).toInt ≤ 9) → (T.2 37 x1.toNatClampNeg = 0 ∨ T.2 37 x1.toNatClampNeg = 1) →
    (∀ i : Int32, 0 ≤ i.toInt → i.toInt < (T.2 34 x1.toNatClampNeg).toInt → 0 ≤ (T.2 33 (9 * x1 + i).toNatClampNeg).toInt ∧ (T.2 33 (9 * x1 + i).toNatClampNeg).toInt < 90) →
    (∀ i : Nat, (i : Int) < x.toInt → 0 ≤ (T.2 32 i).toInt ∧ (T.2 32 i).toInt < 90) → 0 ≤ x.toInt → x.toInt ≤ (T.2 34 x1.toNatClampNeg).toInt → (T.2 34 x1.toNatClampNeg).toInt - x.toInt < n → lq_X11_take_2 n T x1 x := by
  intro n
  induction n with
  | zero => intro T x hc hb h33 h32 h1 h2 h3; omega
  | succ n ih =>
    intro T x hc hb h33 h32 h1 h2 h3
    rw [lq_X11_take_2]
    unfold ps_X11_take_2 st_X11_take_2
    have v : vp_in x1 8 := vIn hx.1 (by omega)
    have d0 : vp_in 0 9 := vIn (by rw [i0]; omega) (by rw [i0]; omega)
    by_cases c : T.2 34 x1.toNatClampNeg ≤ x
    · rw [if_pos c, if_pos c]
      have c := iLe.mp c
      have r := h32 (0 : Int32).toNatClampNeg (by rw [iNat (by rw [i0]; omega), i0]; omega)
      have s : vp_in (T.2 32 (0 : Int32).toNatClampNeg) 90 := vIn r.1 r.2
      have b : narrow .boolean (.int (T.2 37 x1.toNatClampNeg)) = .int (T.2 37 x1.toNatClampNeg) ∧ fits .boolean (.int (T.2 37 x1.toNatClampNeg)) = true := by
        rcases hb with q | q <;> rw [q] <;> exact ⟨rfl, rfl⟩
      refine ⟨⟨v, v, v, b, v, d0, s, ?_⟩, True.intro⟩
      split
      · exact ⟨d0, s, True.intro⟩
      · exact True.intro
    · rw [if_neg c, if_neg c]
      have c := mt iLe.mpr c
      have e := iAdd (x := x) (y := 1) (by rw [i1]; omega) (by rw [i1]; omega)
      rw [i1] at e
      have e9 : (9 : Int32).toInt = 9 := by decide
      have m := iMul (x := 9) (y := x1) (n := 9 * x1.toInt) (by rw [e9]) (by omega) (by omega)
      have a := iAdd (x := 9 * x1) (y := x) (by rw [m]; omega) (by rw [m]; omega)
      rw [m] at a
      have r := h33 x h1 (by omega)
      have k := iNat h1
      refine ⟨⟨v, vIn (by omega) (by omega), vIn h1 (by omega), True.intro⟩, ih (sA T 32 _ _) (x + 1) hc hb h33 (fun i hi => ?_) (by omega) (by show _ ≤ (T.2 34 x1.toNatClampNeg).toInt; omega) (by show (T.2 34 x1.toNatClampNeg).toInt - _ < _; omega)⟩
      show 0 ≤ (upd (T.2 32) x.toNatClampNeg (T.2 33 (9 * x1 + x).toNatClampNeg) i).toInt ∧ (upd (T.2 32) x.toNatClampNeg (T.2 33 (9 * x1 + x).toNatClampNeg) i).toInt < 90
      unfold upd
      split
      · exact r
      · exact h32 i (by omega)
theorem take_p {S : HS} {x1 : Int32} (hx : 0 ≤ x1.toInt ∧ x1.toInt ≤ 7) (hc : 1 ≤ (S.2 34 x1.toNatClampNeg).toInt ∧ (S.2 34 x1.toNatClampNeg).toInt ≤ 9) (hb : S.2 37 x1.toNatClampNeg = 0 ∨ S.2 37 x1.toNatClampNeg = 1)
    (h33 : ∀ i : Int32, 0 ≤ i.toInt → i.toInt < (S.2 34 x1.toNatClampNeg).toInt → 0 ≤ (S.2 33 (9 * x1 + i).toNatClampNeg).toInt ∧ (S.2 33 (9 * x1 + i).toNatClampNeg).toInt < 90) : p_X11_take S x1 :=
  take_q hx 100000 S 0 hc hb h33 (fun i hi => by rw [i0] at hi; omega) (by rw [i0]; omega) (by rw [i0]; omega) (by rw [i0]; omega)
