/-! ===== words in place of a span: the reference, in full ===== -/
section
variable {wF : Prop × (Nat → Int32) × Int32 × (Nat → Int32)} {S : HS}
theorem isP_l {S : HS} (h6 : (S.1 6).toInt ≤ 9) (x1 : Int32) : ∀ (n : Nat) (x : Int32), 0 ≤ x.toInt → x.toInt ≤ 9 → (S.1 6).toInt - x.toInt < n → (∀ i : Nat, x.toInt ≤ i → (i : Int) < (S.1 6).toInt → S.2 31 i ≠ x1) → (lp_X11_isPending_2 (n + 1) S x1 x).1 = 0 := by
  intro n
  induction n with
  | zero =>
    intro x h1 h9 h2 h3
    rw [lp_X11_isPending_2]
    unfold st_X11_isPending_2
    rw [if_pos (iLe.mpr (by omega))]
  | succ n ih =>
    intro x h1 h9 h2 h3
    rw [lp_X11_isPending_2]
    unfold st_X11_isPending_2
    by_cases c : S.1 6 ≤ x
    · rw [if_pos c]
    · rw [if_neg c]
      have c := mt iLe.mpr c
      have e := iAdd (x := x) (y := 1) (by rw [i1]; omega) (by rw [i1]; omega)
      rw [i1] at e
      have k := iNat h1
      rw [if_neg (h3 x.toNatClampNeg (by omega) (by omega))]
      exact ih (x + 1) (by omega) (by omega) (by omega) (fun i a b => h3 i (by omega) b)
theorem isP_iff {S : HS} (h : RA S) (x1 : Int32) : (f_X11_isPending S x1).1 = 0 ↔ ∀ i : Nat, (i : Int) < (S.1 6).toInt → S.2 31 i ≠ x1 :=
  ⟨(isPending_i h x1).2, fun y => isP_l h.2.1.2 x1 99999 0 (by rw [i0]; omega) (by rw [i0]; omega) (by rw [i0]; have := h.2.1; omega) (fun i _ b => y i b)⟩
/-- whether a motion follows -/
def fC (S : HS) (x1 x2 a x9 : Int32) : Prop := S.2 13 x9.toNatClampNeg ≠ 0 ∧ x9 ≠ x2 ∧ S.2 25 x9.toNatClampNeg ≠ 0 ∧ S.2 26 x9.toNatClampNeg = 0 ∧ S.2 23 x9.toNatClampNeg = S.2 22 x1.toNatClampNeg ∧ (∀ i : Nat, (i : Int) < (S.1 6).toInt → S.2 31 i ≠ x9) ∧ a < S.2 21 x9.toNatClampNeg
def cR (S r : HS) (x1 x2 a b x6 x9 : Int32) : Prop :=
  (fC S x1 x2 a x9 → S.2 20 x9.toNatClampNeg < b → r.2 20 x9.toNatClampNeg = S.2 20 x9.toNatClampNeg ∧ r.2 21 x9.toNatClampNeg = S.2 21 x9.toNatClampNeg ∧ r.2 26 x9.toNatClampNeg = 1) ∧
  (fC S x1 x2 a x9 → ¬ S.2 20 x9.toNatClampNeg < b → r.2 20 x9.toNatClampNeg = S.2 20 x9.toNatClampNeg + x6 ∧ r.2 21 x9.toNatClampNeg = S.2 21 x9.toNatClampNeg + x6 ∧ r.2 26 x9.toNatClampNeg = S.2 26 x9.toNatClampNeg) ∧
  (¬ fC S x1 x2 a x9 → r.2 20 x9.toNatClampNeg = S.2 20 x9.toNatClampNeg ∧ r.2 21 x9.toNatClampNeg = S.2 21 x9.toNatClampNeg ∧ r.2 26 x9.toNatClampNeg = S.2 26 x9.toNatClampNeg)
/-- the loop has gone from x on -/
def cV (S r : HS) (x1 x2 a b x6 x : Int32) : Prop := r.1 = S.1 ∧ (∀ k, k ≠ 20 → k ≠ 21 → k ≠ 26 → r.2 k = S.2 k) ∧ (∀ j : Nat, (j : Int) < x.toInt → r.2 20 j = S.2 20 j ∧ r.2 21 j = S.2 21 j ∧ r.2 26 j = S.2 26 j) ∧ ∀ y : Int32, x.toInt ≤ y.toInt → y.toInt < 90 → cR S r x1 x2 a b x6 y
theorem cV.step {S S1 r : HS} {x1 x2 a b x6 x : Int32} (hx : 0 ≤ x.toInt ∧ x.toInt < 90) (h : cV S1 r x1 x2 a b x6 (x + 1)) (e : (x + 1).toInt = x.toInt + 1) (s1 : S1.1 = S.1) (s2 : ∀ k, k ≠ 20 → k ≠ 21 → k ≠ 26 → S1.2 k = S.2 k) (s3 : ∀ j, j ≠ x.toNatClampNeg → S1.2 20 j = S.2 20 j ∧ S1.2 21 j = S.2 21 j ∧ S1.2 26 j = S.2 26 j) (c : cR S S1 x1 x2 a b x6 x) : cV S r x1 x2 a b x6 x := by
  obtain ⟨p1, p2, p3, p4⟩ := h
  have kx := iNat hx.1
  have rx := p3 x.toNatClampNeg (by omega)
  refine ⟨p1.trans s1, fun k a b c => (p2 k a b c).trans (s2 k a b c), fun j hj => ?_, fun y h1 h2 => ?_⟩
  · have y := p3 j (by omega)
    have z := s3 j (by omega)
    exact ⟨y.1.trans z.1, y.2.1.trans z.2.1, y.2.2.trans z.2.2⟩
  · by_cases w : y = x
    · subst w
      obtain ⟨c1, c2, c3⟩ := c
      unfold cR
      rw [rx.1, rx.2.1, rx.2.2]
      exact ⟨c1, c2, c3⟩
    · have ky := iNat (x := y) (by omega)
      have nw := mt iEq.mpr w
      have z := s3 y.toNatClampNeg (by omega)
      have q := p4 y (by omega) h2
      unfold cR fC at q ⊢
      rw [s1, s2 13 (by decide) (by decide) (by decide), s2 25 (by decide) (by decide) (by decide), s2 23 (by decide) (by decide) (by decide), s2 22 (by decide) (by decide) (by decide), s2 31 (by decide) (by decide) (by decide), z.1, z.2.1, z.2.2] at q
      exact q
theorem chg_v {x1 x2 x3 x4 x5 x6 x7 x8 : Int32} : ∀ (n : Nat) (S : HS) (x : Int32), RA S → 0 ≤ x.toInt → x.toInt ≤ 90 → 90 - x.toInt < n → cV S (lp_X11_change_194 n S x1 x2 x3 x4 x5 x6 x7 x8 x).2 x1 x2 x3 x4 x6 x := by
  have e90 : (90 : Int32).toInt = 90 := by decide
  intro n
  induction n with
  | zero => intro S x h a b c; omega
  | succ n ih =>
    intro S x h a b c
    rw [lp_X11_change_194]
    unfold st_X11_change_194 b_X11_change_a259 b_X11_change_326
    by_cases z : 90 ≤ x
    · have z' := iLe.mp z
      rw [e90] at z'
      rw [if_pos z]
      exact ⟨rfl, fun _ _ _ _ => rfl, fun _ _ => ⟨rfl, rfl, rfl⟩, fun y h1 h2 => by omega⟩
    have z' := mt iLe.mpr z
    rw [e90] at z'
    have e := iAdd (x := x) (y := 1) (by rw [i1]; omega) (by rw [i1]; omega)
    rw [i1] at e
    have hx : 0 ≤ x.toInt ∧ x.toInt < 90 := ⟨a, by omega⟩
    rw [if_neg z]
    have no : ∀ p : ¬ fC S x1 x2 x3 x, cV S (lp_X11_change_194 n S x1 x2 x3 x4 x5 x6 x7 x8 (x + 1)).2 x1 x2 x3 x4 x6 x := fun p =>
      cV.step hx (ih S (x + 1) h (by omega) (by omega) (by omega)) e rfl (fun _ _ _ _ => rfl) (fun _ _ => ⟨rfl, rfl, rfl⟩) ⟨fun y => absurd y p, fun y => absurd y p, fun _ => ⟨rfl, rfl, rfl⟩⟩
    by_cases z1 : S.2 13 x.toNatClampNeg = 0
    · rw [if_pos z1]
      exact no (fun y => y.1 z1)
    rw [if_neg z1]
    by_cases z2 : x = x2
    · rw [if_pos z2]
      exact no (fun y => y.2.1 z2)
    rw [if_neg z2]
    by_cases z3 : S.2 25 x.toNatClampNeg = 0
    · rw [if_pos z3]
      exact no (fun y => y.2.2.1 z3)
    rw [if_neg z3]
    by_cases z4 : S.2 26 x.toNatClampNeg = 0
    rotate_left
    · rw [if_neg z4]
      exact no (fun y => z4 y.2.2.2.1)
    rw [if_pos z4]
    by_cases z5 : S.2 23 x.toNatClampNeg = S.2 22 x1.toNatClampNeg
    rotate_left
    · rw [if_neg z5]
      exact no (fun y => z5 y.2.2.2.2.1)
    rw [if_pos z5, (isPending_i h x).1]
    by_cases z6 : (f_X11_isPending S x).1 = 0
    rotate_left
    · rw [if_neg z6]
      exact no (fun y => z6 ((isP_iff h x).mpr y.2.2.2.2.2.1))
    rw [if_pos z6]
    by_cases z7 : x3 < S.2 21 x.toNatClampNeg
    rotate_left
    · rw [if_neg z7]
      exact no (fun y => z7 y.2.2.2.2.2.2)
    rw [if_pos z7]
    have ok : fC S x1 x2 x3 x := ⟨z1, z2, z3, z4, z5, (isP_iff h x).mp z6, z7⟩
    by_cases z8 : S.2 20 x.toNatClampNeg < x4
    · rw [if_pos z8]
      exact cV.step hx (ih (sA S 26 x.toNatClampNeg (vp_nar .boolean 1)) (x + 1) h (by omega) (by omega) (by omega)) e rfl (fun k _ _ c => sA_k c) (fun j nj => ⟨rfl, rfl, upd_ne nj⟩) ⟨fun _ _ => ⟨rfl, rfl, upd_eq⟩, fun _ y => absurd z8 y, fun y => absurd ok y⟩
    · rw [if_neg z8]
      exact cV.step hx (ih (sA (sA S 20 x.toNatClampNeg ((S.2 20 x.toNatClampNeg) + x6)) 21 x.toNatClampNeg ((S.2 21 x.toNatClampNeg) + x6)) (x + 1) h (by omega) (by omega) (by omega)) e rfl (fun k a b _ => (sA_k b).trans (sA_k a)) (fun j nj => ⟨upd_ne nj, upd_ne nj, rfl⟩) ⟨fun _ y => absurd y z8, fun _ _ => ⟨upd_eq, upd_eq, rfl⟩, fun y => absurd ok y⟩
/-! the texts -/
theorem ti_v {x8 x9 x6 : Int32} {t p : Nat} (h8 : x8.toInt = 400 * (t : Int)) (ht : t < 90) (h9 : 0 ≤ x9.toInt ∧ x9.toInt < 400) (h6 : x9.toInt + x6.toInt = p) (hp : p < 400) : ((x8 + x9) + x6).toNatClampNeg = 400 * t + p ∧ (x8 + x9).toNatClampNeg = 400 * t + x9.toNatClampNeg := by
  have a := iAdd (x := x8) (y := x9) (by omega) (by omega)
  have b := iAdd (x := x8 + x9) (y := x6) (by rw [a]; omega) (by rw [a]; omega)
  have k := iNat (x := (x8 + x9) + x6) (by omega)
  have k2 := iNat (x := x8 + x9) (by omega)
  have k9 := iNat h9.1
  exact ⟨by omega, by omega⟩
/-- texts alone are other ones -/
def tO (S S' : HS) : Prop := S'.1 = S.1 ∧ ∀ k, k ≠ 28 → S'.2 k = S.2 k
theorem t142 {x1 x2 x3 x4 x5 x6 x7 x8 : Int32} {t m a : Nat} (h8 : x8.toInt = 400 * (t : Int)) (ht : t < 90) (h2 : 0 ≤ x2.toInt ∧ x2.toInt < 90) (hm : x2.toNatClampNeg = m) (tm : t ≠ m) (h3 : x3.toInt = a) (h35 : (a : Int) + x5.toInt ≤ 400) : ∀ (n : Nat) (S : HS) (x : Int32), 0 ≤ x.toInt → x.toInt ≤ 400 → 400 - x.toInt < n → ∃ S', lp_X11_change_142 n S x1 x2 x3 x4 x5 x6 x7 x8 x = lp_X11_change_194 100000 (sA S' 19 x1.toNatClampNeg (x7 + x6)) x1 x2 x3 x4 x5 x6 x7 x8 0 ∧ tO S S' ∧ (∀ i : Nat, x.toInt ≤ i → (i : Int) < x5.toInt → S'.2 28 (400 * t + (a + i)) = S.2 28 (400 * m + i)) ∧ ∀ p, (∀ i : Nat, x.toInt ≤ i → (i : Int) < x5.toInt → p ≠ 400 * t + (a + i)) → S'.2 28 p = S.2 28 p := by
  intro n
  induction n with
  | zero => intro S x h1 h9 hn; omega
  | succ n ih =>
    intro S x h1 h9 hn
    rw [lp_X11_change_142]
    unfold st_X11_change_142
    by_cases c : x5 ≤ x
    · have c' := iLe.mp c
      rw [if_pos c]
      exact ⟨S, rfl, ⟨rfl, fun _ _ => rfl⟩, fun i a b => by omega, fun _ _ => rfl⟩
    · have c' := mt iLe.mpr c
      have e := iAdd (x := x) (y := 1) (by rw [i1]; omega) (by rw [i1]; omega)
      rw [i1] at e
      have k := iNat h1
      have ix : ((x8 + x3) + x).toNatClampNeg = 400 * t + (a + x.toNatClampNeg) := (ti_v h8 ht (x9 := x3) ⟨by omega, by omega⟩ (x6 := x) (p := a + x.toNatClampNeg) (by omega) (by omega)).1
      have iy := tx_x h2 (s := x) ⟨h1, by omega⟩
      rw [if_neg c, ix, iy, hm]
      obtain ⟨S', q1, q2, q3, q4⟩ := ih (sA S 28 (400 * t + (a + x.toNatClampNeg)) (S.2 28 (400 * m + x.toNatClampNeg))) (x + 1) (by omega) (by omega) (by omega)
      have u : ∀ p, (sA S 28 (400 * t + (a + x.toNatClampNeg)) (S.2 28 (400 * m + x.toNatClampNeg))).2 28 p = upd (S.2 28) (400 * t + (a + x.toNatClampNeg)) (S.2 28 (400 * m + x.toNatClampNeg)) p := fun p => rfl
      refine ⟨S', q1, ⟨q2.1, fun k y => (q2.2 k y).trans (sA_k y)⟩, fun i l1 l2 => ?_, fun p hp => ?_⟩
      · by_cases y : i = x.toNatClampNeg
        · rw [q4 _ (fun i' a' b' w => by omega), u, y, upd_eq]
        · rw [q3 i (by omega) l2, u, upd_ne (by omega)]
      · rw [q4 p (fun i' a' b' => hp i' (by omega) b'), u, upd_ne (hp x.toNatClampNeg (by omega) (by omega))]
theorem t103 {x1 x2 x3 x4 x5 x6 x7 x8 : Int32} {t : Nat} (h8 : x8.toInt = 400 * (t : Int)) (ht : t < 90) (h6 : x6.toInt < 0) (h7 : x7.toInt ≤ 400) : ∀ (n : Nat) (S : HS) (x : Int32), 0 ≤ x.toInt → 0 ≤ x.toInt + x6.toInt → x.toInt ≤ 400 → 400 - x.toInt < n → ∃ S', lp_X11_change_103 n S x1 x2 x3 x4 x5 x6 x7 x8 x = b_X11_change_139 S' x1 x2 x3 x4 x5 x6 x7 x8 ∧ tO S S' ∧ (∀ i p : Nat, x.toInt ≤ i → (i : Int) < x7.toInt → (p : Int) = i + x6.toInt → S'.2 28 (400 * t + p) = S.2 28 (400 * t + i)) ∧ ∀ p, (∀ i p' : Nat, x.toInt ≤ i → (i : Int) < x7.toInt → (p' : Int) = i + x6.toInt → p ≠ 400 * t + p') → S'.2 28 p = S.2 28 p := by
  intro n
  induction n with
  | zero => intro S x h1 h1' h9 hn; omega
  | succ n ih =>
    intro S x h1 h1' h9 hn
    rw [lp_X11_change_103]
    unfold st_X11_change_103
    by_cases c : x7 ≤ x
    · have c' := iLe.mp c
      rw [if_pos c]
      exact ⟨S, rfl, ⟨rfl, fun _ _ => rfl⟩, fun i p a b => by omega, fun _ _ => rfl⟩
    · have c' := mt iLe.mpr c
      have e := iAdd (x := x) (y := 1) (by rw [i1]; omega) (by rw [i1]; omega)
      rw [i1] at e
      have k := iNat h1
      obtain ⟨px, hpx⟩ : ∃ px : Nat, (px : Int) = x.toInt + x6.toInt := ⟨(x.toInt + x6.toInt).toNat, by omega⟩
      obtain ⟨ix, iy⟩ := ti_v h8 ht (x9 := x) ⟨h1, by omega⟩ (x6 := x6) (p := px) hpx.symm (by omega)
      rw [if_neg c, ix, iy]
      obtain ⟨S', q1, q2, q3, q4⟩ := ih (sA S 28 (400 * t + px) (S.2 28 (400 * t + x.toNatClampNeg))) (x + 1) (by omega) (by omega) (by omega) (by omega)
      have u : ∀ p, (sA S 28 (400 * t + px) (S.2 28 (400 * t + x.toNatClampNeg))).2 28 p = upd (S.2 28) (400 * t + px) (S.2 28 (400 * t + x.toNatClampNeg)) p := fun p => rfl
      refine ⟨S', q1, ⟨q2.1, fun k y => (q2.2 k y).trans (sA_k y)⟩, fun i p l1 l2 l3 => ?_, fun p hp => ?_⟩
      · by_cases y : i = x.toNatClampNeg
        · have : p = px := by omega
          subst this
          rw [q4 _ (fun i' p' a' b' c' w => by omega), u, y, upd_eq]
        · rw [q3 i p (by omega) l2 l3, u, upd_ne (by omega)]
      · rw [q4 p (fun i' p' a' b' c' => hp i' p' (by omega) b' c'), u, upd_ne (hp x.toNatClampNeg px (by omega) (by omega) (by omega))]
theorem t58 {x1 x2 x3 x4 x5 x6 x7 x8 : Int32} {t : Nat} (h8 : x8.toInt = 400 * (t : Int)) (ht : t < 90) (h6 : 0 < x6.toInt) (h7 : x7.toInt + x6.toInt ≤ 400) (h4 : 0 ≤ x4.toInt) : ∀ (n : Nat) (S : HS) (x : Int32), -1 ≤ x.toInt → x.toInt < x7.toInt → x.toInt + 1 < n → ∃ S', lp_X11_change_58 n S x1 x2 x3 x4 x5 x6 x7 x8 x = b_X11_change_94 S' x1 x2 x3 x4 x5 x6 x7 x8 ∧ tO S S' ∧ (∀ i p : Nat, x4.toInt ≤ i → (i : Int) ≤ x.toInt → (p : Int) = i + x6.toInt → S'.2 28 (400 * t + p) = S.2 28 (400 * t + i)) ∧ ∀ p, (∀ i p' : Nat, x4.toInt ≤ i → (i : Int) ≤ x.toInt → (p' : Int) = i + x6.toInt → p ≠ 400 * t + p') → S'.2 28 p = S.2 28 p := by
  have em : (-1 : Int32).toInt = -1 := by decide
  intro n
  induction n with
  | zero => intro S x h1 h9 hn; omega
  | succ n ih =>
    intro S x h1 h9 hn
    rw [lp_X11_change_58]
    unfold st_X11_change_58
    by_cases c : x < x4
    · have c' := iLt.mp c
      rw [if_pos c]
      exact ⟨S, rfl, ⟨rfl, fun _ _ => rfl⟩, fun i p a b => by omega, fun _ _ => rfl⟩
    · have c' := mt iLt.mpr c
      have e := iAdd (x := x) (y := -1) (by rw [em]; omega) (by rw [em]; omega)
      rw [em] at e
      have k := iNat (x := x) (by omega)
      obtain ⟨px, hpx⟩ : ∃ px : Nat, (px : Int) = x.toInt + x6.toInt := ⟨(x.toInt + x6.toInt).toNat, by omega⟩
      obtain ⟨ix, iy⟩ := ti_v h8 ht (x9 := x) ⟨by omega, by omega⟩ (x6 := x6) (p := px) hpx.symm (by omega)
      rw [if_neg c, ix, iy]
      obtain ⟨S', q1, q2, q3, q4⟩ := ih (sA S 28 (400 * t + px) (S.2 28 (400 * t + x.toNatClampNeg))) (x + -1) (by omega) (by omega) (by omega)
      have u : ∀ p, (sA S 28 (400 * t + px) (S.2 28 (400 * t + x.toNatClampNeg))).2 28 p = upd (S.2 28) (400 * t + px) (S.2 28 (400 * t + x.toNatClampNeg)) p := fun p => rfl
      refine ⟨S', q1, ⟨q2.1, fun k y => (q2.2 k y).trans (sA_k y)⟩, fun i p l1 l2 l3 => ?_, fun p hp => ?_⟩
      · by_cases y : i = x.toNatClampNeg
        · have : p = px := by omega
          subst this
          rw [q4 _ (fun i' p' a' b' c' w => by omega), u, y, upd_eq]
        · rw [q3 i p l1 (by omega) l3, u, upd_ne (by omega)]
      · rw [q4 p (fun i' p' a' b' c' => hp i' p' a' (by omega) c'), u, upd_ne (hp x.toNatClampNeg px (by omega) (by omega) (by omega))]
end
