section
variable {wF : Prop × (Nat → Int32) × Int32 × (Nat → Int32)} {E E0 : Nat → Prop} {x : Nat} {S S1 S2 S3 : Cst} {T T1 T2 : Nat → List Nat} {F F1 : List Nat} {col c1 : Nat → Nat} {H H2 H3 : HS} {N : Int}
/-- a new motion's numbers -/
def nM (S : Cst) (q : Nat) (v : Int32) : Prop :=
  (giC S q 0 = 0 ∧ giC S q 1 = 0 ∧ giC S q 2 = v ∧ giC S q 3 = -1 ∧ giC S q 4 = -1 ∧ giC S q 5 = 0 ∧ giC S q 6 = 0) ∧ (giC S q 7 = 0 ∧ giC S q 8 = 0 ∧ giC S q 9 = 0 ∧ giC S q 10 = 0 ∧ giC S q 11 = 0) ∧ (∀ s, s < 200 → giC S (q + 3) s = 0) ∧ (giC S q 14).toInt = 0
theorem fill_v {z : Nat} : ∀ (n : Nat) (S2 : Cst) (b : Int32), 0 ≤ b.toInt → b.toInt ≤ 200 → 200 - b.toInt < n → (∀ s, b.toNatClampNeg ≤ s → s < 200 → giC (lp_K7_fill_031fb_5 z n S2 0 b (Int32.ofNat 200)).2 z s = 0) ∧ (∀ s, s < b.toNatClampNeg → giC (lp_K7_fill_031fb_5 z n S2 0 b (Int32.ofNat 200)).2 z s = giC S2 z s) ∧ (∀ q k, q ≠ z → giC (lp_K7_fill_031fb_5 z n S2 0 b (Int32.ofNat 200)).2 q k = giC S2 q k) ∧ (lp_K7_fill_031fb_5 z n S2 0 b (Int32.ofNat 200)).2.1 = S2.1 := by
  have h2 : (Int32.ofNat 200).toInt = 200 := by decide
  intro n
  induction n with
  | zero => intro S2 b h1 h3 h4; omega
  | succ n ih =>
    intro S2 b h1 h3 h4
    have k := iNat h1
    rw [lp_K7_fill_031fb_5]
    unfold st_K7_fill_031fb_5
    by_cases c : Int32.ofNat 200 ≤ b
    · have := iLe.mp c
      rw [h2] at this
      rw [if_pos c]
      exact ⟨fun s h5 h6 => by omega, fun _ _ => rfl, fun _ _ _ => rfl, rfl⟩
    · rw [if_neg c]
      have c := mt iLe.mpr c
      rw [h2] at c
      have e := iAdd (x := b) (y := 1) (by rw [i1]; omega) (by rw [i1]; omega)
      rw [i1] at e
      have k2 := iNat (x := b + 1) (by omega)
      obtain ⟨q1, q2, q3, q4⟩ := ih (siC S2 z b.toNatClampNeg (vp_nar .byte 0)) (b + 1) (by omega) (by omega) (by omega)
      refine ⟨fun s h5 h6 => ?_, fun s h5 => ?_, fun q k n => ?_, q4⟩
      · by_cases y : s = b.toNatClampNeg
        · have := q2 s (by omega)
          dsimp only
          rw [this, gi_si, if_pos ⟨rfl, y⟩]
          rfl
        · exact q1 s (by omega) h6
      · have := q2 s (by omega)
        dsimp only
        rw [this, gi_si, if_neg (fun y => by omega)]
      · have := q3 q k n
        dsimp only
        rw [this, gi_si, if_neg (fun y => n y.1)]
theorem vCn_0 {q : Nat} : ∀ n, vCn S1 q n = 0 → ∀ s, s < n → giC S1 (q + 3) s = 0 := by
  intro n
  induction n with
  | zero => intro _ s hs; omega
  | succ n ih =>
    intro h s hs
    rw [vCn] at h
    by_cases y : giC S1 (q + 3) n = 0
    · rw [if_pos y] at h
      by_cases z : s = n
      · rw [z]
        exact y
      · exact ih (by omega) s (by omega)
    · rw [if_neg y] at h
      omega
end
