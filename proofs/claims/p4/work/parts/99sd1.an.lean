/-! ===== a motion made anew, on both sides ===== -/
section
variable {wF : Prop × (Nat → Int32) × Int32 × (Nat → Int32)} {E E0 : Nat → Prop} {x : Nat} {S S1 S2 S3 : Cst} {T T1 T2 : Nat → List Nat} {F F1 : List Nat} {col c1 : Nat → Nat} {H H2 H3 : HS} {N : Int}
theorem anew_v {x1 : Int32} (h1 : 0 ≤ x1.toInt ∧ x1.toInt < 90) : ∀ (n : Nat) (S : HS) (b : Int32), 0 ≤ b.toInt → b.toInt ≤ 200 → 200 - b.toInt < n → ∃ u, (lp_X11_anew_43 n S x1 b).2 = sR S 29 u ∧ (∀ s, b.toNatClampNeg ≤ s → s < 200 → u (200 * x1.toNatClampNeg + s) = 2) ∧ ∀ j, (∀ s, b.toNatClampNeg ≤ s → s < 200 → j ≠ 200 * x1.toNatClampNeg + s) → u j = S.2 29 j := by
  have e2 : (200 : Int32).toInt = 200 := by decide
  intro n
  induction n with
  | zero => intro S b p1 p2 p3; omega
  | succ n ih =>
    intro S b p1 p2 p3
    have k := iNat p1
    rw [lp_X11_anew_43]
    unfold st_X11_anew_43
    by_cases c : 200 ≤ b
    · have := iLe.mp c
      rw [e2] at this
      rw [if_pos c]
      exact ⟨S.2 29, by rw [sR_id], fun s h3 h4 => by omega, fun _ _ => rfl⟩
    · have c' := mt iLe.mpr c
      rw [e2] at c'
      have e := iAdd (x := b) (y := 1) (by rw [i1]; omega) (by rw [i1]; omega)
      rw [i1] at e
      have k2 := iNat (x := b + 1) (by omega)
      rw [if_neg c]
      obtain ⟨u, q1, q2, q3⟩ := ih (sA S 29 ((200 * x1) + b).toNatClampNeg (vp_nar .byte 2)) (b + 1) (by omega) (by omega) (by omega)
      rw [sR_sA] at q1
      have bx := bx_v h1 (s := b) ⟨p1, by omega⟩
      refine ⟨u, q1, fun s h3 h4 => ?_, fun j hj => ?_⟩
      · by_cases y : s = b.toNatClampNeg
        · rw [q3 _ (fun s' h5 h6 y' => by omega), y]
          show (if 29 = 29 then upd (S.2 29) ((200 * x1) + b).toNatClampNeg (vp_nar .byte 2) else S.2 29) _ = 2
          rw [if_pos rfl, bx]
          unfold upd
          rw [if_pos rfl]
          rfl
        · exact q2 s (by omega) h4
      · rw [q3 j (fun s' h5 h6 => hj s' (by omega) h6)]
        show (if 29 = 29 then upd (S.2 29) ((200 * x1) + b).toNatClampNeg (vp_nar .byte 2) else S.2 29) _ = _
        rw [if_pos rfl, bx]
        unfold upd
        rw [if_neg (hj _ (Nat.le_refl _) (by omega))]
theorem anew_vv {x : Int32} (h1 : 0 ≤ x.toInt ∧ x.toInt < 90) (S : HS) : ∃ u, (f_X11_anew S x).2 = sR (aN S x) 29 u ∧ (∀ s, (0 : Int32).toNatClampNeg ≤ s → s < 200 → u (200 * x.toNatClampNeg + s) = 2) ∧ ∀ j, (∀ s, (0 : Int32).toNatClampNeg ≤ s → s < 200 → j ≠ 200 * x.toNatClampNeg + s) → u j = (aN S x).2 29 j :=
  anew_v h1 100000 _ 0 (by rw [i0]; omega) (by rw [i0]; omega) (by rw [i0]; omega)
theorem newSlot_w (k : Int32) {y : Nat} (hy : y < 90) : ∀ (n : Nat) (S : HS) (x : Int32), S.2 13 y = 0 → 0 ≤ x.toInt → x.toInt ≤ y → 90 - x.toInt < n →
    ∃ z u, (0 ≤ z.toInt ∧ z.toInt < 90) ∧ S.2 13 z.toNatClampNeg = 0 ∧ lp_X11_newSlot_2 n S k x = (z, sA (sR (aN (nL S k z) z) 29 u) 16 z.toNatClampNeg (-1)) ∧ (∀ s, s < 200 → u (200 * z.toNatClampNeg + s) = 2) ∧ ∀ m i, m ≠ z.toNatClampNeg → i < 200 → u (200 * m + i) = S.2 29 (200 * m + i) := by
  intro n
  induction n with
  | zero => intro S x hf h1 h2 h3; omega
  | succ n ih =>
    intro S x hf h1 h2 h3
    rw [lp_X11_newSlot_2]
    unfold st_X11_newSlot_2
    by_cases z : S.2 13 x.toNatClampNeg = 0
    · rw [if_pos z]
      obtain ⟨u, q, q2, q3⟩ := anew_vv (x := x) ⟨h1, by omega⟩ (nL S k x)
      rw [zn0] at q2 q3
      refine ⟨x, u, ⟨h1, by omega⟩, z, ?_, fun s hs => q2 s (Nat.zero_le _) hs, fun m i hm hi => ?_⟩
      · show b_X11_newSlot_a92 (f_X11_anew (nL S k x) x).2 k x = _
        rw [q]
        rfl
      · have e : (aN (nL S k x) x).2 29 = S.2 29 := rfl
        rw [← e]
        exact q3 _ (fun s _ hs y => hm (by omega))
    · rw [if_neg z]
      have e := iAdd (x := x) (y := 1) (by rw [i1]; omega) (by rw [i1]; omega)
      rw [i1] at e
      have d : x.toNatClampNeg ≠ y := fun q => z (by rw [q]; exact hf)
      have k := iNat h1
      exact ih S (x + 1) hf (by omega) (by omega) (by omega)
theorem newSlot_v {S : HS} (k : Int32) (h : ∃ y : Nat, y < 90 ∧ S.2 13 y = 0) :
    ∃ z u, (0 ≤ z.toInt ∧ z.toInt < 90) ∧ S.2 13 z.toNatClampNeg = 0 ∧ f_X11_newSlot S k = (z, sA (sR (aN (nL S k z) z) 29 u) 16 z.toNatClampNeg (-1)) ∧ (∀ s, s < 200 → u (200 * z.toNatClampNeg + s) = 2) ∧ ∀ m i, m ≠ z.toNatClampNeg → i < 200 → u (200 * m + i) = S.2 29 (200 * m + i) := by
  obtain ⟨y, hy, hf⟩ := h
  exact newSlot_w k hy 100000 S 0 hf (by rw [i0]; omega) (by rw [i0]; omega) (by rw [i0]; omega)
end
