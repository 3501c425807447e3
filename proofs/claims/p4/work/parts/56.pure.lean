/-! ===== a new slot ===== -/
theorem anew_l : ∀ (n : Nat) (S : HS) (x1 x : Int32), ∃ u, (lp_X11_anew_43 n S x1 x).2 = sR S 29 u := by
  intro n
  induction n with
  | zero => intro S x1 x; exact ⟨S.2 29, by rw [sR_id]; rfl⟩
  | succ n ih =>
    intro S x1 x
    rw [lp_X11_anew_43]
    unfold st_X11_anew_43
    by_cases c : 200 ≤ x
    · rw [if_pos c]
      exact ⟨S.2 29, by rw [sR_id]⟩
    · rw [if_neg c]
      obtain ⟨u, q⟩ := ih (sA S 29 ((200 * x1) + x).toNatClampNeg (vp_nar .byte 2)) x1 (x + 1)
      rw [sR_sA] at q
      exact ⟨u, q⟩
/-- another one than before: its born number, nothing done with it -/
def aN (S : HS) (x : Int32) : HS := sA (sA (sA (sA (sI S 30 ((S.1 30) + 1)) 22 x.toNatClampNeg ((S.1 30) + 1)) 17 x.toNatClampNeg 0) 18 x.toNatClampNeg 0) 24 x.toNatClampNeg 0
theorem anew_e (S : HS) (x : Int32) : ∃ u, (f_X11_anew S x).2 = sR (aN S x) 29 u := anew_l 100000 _ x 0
/-- a slot as newSlot leaves it, but for its ballots -/
def nL (S : HS) (k x : Int32) : HS := (sA (sA (sA (sA (sA (sA (sA (sA (sA (sA S 13 x.toNatClampNeg 1) 14 x.toNatClampNeg k) 15 x.toNatClampNeg (-1)) 19 x.toNatClampNeg 0) 20 x.toNatClampNeg 0) 21 x.toNatClampNeg 0) 23 x.toNatClampNeg 0) 25 x.toNatClampNeg 0) 26 x.toNatClampNeg 0) 27 x.toNatClampNeg 0)
theorem newSlot_l (k : Int32) {y : Nat} (hy : y < 90) : ∀ (n : Nat) (S : HS) (x : Int32), S.2 13 y = 0 → 0 ≤ x.toInt → x.toInt ≤ y → 90 - x.toInt < n →
    ∃ z u, (0 ≤ z.toInt ∧ z.toInt < 90) ∧ S.2 13 z.toNatClampNeg = 0 ∧ lp_X11_newSlot_2 n S k x = (z, sA (sR (aN (nL S k z) z) 29 u) 16 z.toNatClampNeg (-1)) := by
  intro n
  induction n with
  | zero => intro S x hf h1 h2 h3; omega
  | succ n ih =>
    intro S x hf h1 h2 h3
    rw [lp_X11_newSlot_2]
    unfold st_X11_newSlot_2
    by_cases z : S.2 13 x.toNatClampNeg = 0
    · rw [if_pos z]
      obtain ⟨u, q⟩ := anew_e (nL S k x) x
      refine ⟨x, u, ⟨h1, by omega⟩, z, ?_⟩
      show b_X11_newSlot_a92 (f_X11_anew (nL S k x) x).2 k x = _
      rw [q]
      rfl
    · rw [if_neg z]
      have e := iAdd (x := x) (y := 1) (by rw [i1]; omega) (by rw [i1]; omega)
      rw [i1] at e
      have d : x.toNatClampNeg ≠ y := fun q => z (by rw [q]; exact hf)
      have k := iNat h1
      exact ih S (x + 1) hf (by omega) (by omega) (by omega)
theorem newSlot_e {S : HS} (k : Int32) (h : ∃ y : Nat, y < 90 ∧ S.2 13 y = 0) :
    ∃ z u, (0 ≤ z.toInt ∧ z.toInt < 90) ∧ S.2 13 z.toNatClampNeg = 0 ∧ f_X11_newSlot S k = (z, sA (sR (aN (nL S k z) z) 29 u) 16 z.toNatClampNeg (-1)) := by
  obtain ⟨y, hy, hf⟩ := h
  exact newSlot_l k hy 100000 S 0 hf (by rw [i0]; omega) (by rw [i0]; omega) (by rw [i0]; omega)
/-! ===== a slot is free: the places are fewer ===== -/
theorem pigeon : ∀ (n : Nat) (f : Nat → Nat), (∀ i, i < n + 1 → f i < n) → ¬ (∀ i j, i < n + 1 → j < n + 1 → f i = f j → i = j) := by
  intro n
  induction n with
  | zero => intro f h; have := h 0 (by omega); omega
  | succ n ih =>
    intro f h inj
    -- the value n is moved to where n + 1 stood
    refine ih (fun i => if f i = n then f (n + 1) else f i) (fun i hi => ?_) (fun i j hi hj e => ?_)
    · by_cases z : f i = n
      · rw [if_pos z]
        have a := h (n + 1) (by omega)
        have b : f (n + 1) ≠ n := fun y => by
          have := inj i (n + 1) (by omega) (by omega) (z.trans y.symm)
          omega
        omega
      · rw [if_neg z]
        have := h i (by omega)
        omega
    · by_cases z : f i = n
      · by_cases y : f j = n
        · exact inj i j (by omega) (by omega) (z.trans y.symm)
        · rw [if_pos z, if_neg y] at e
          have := inj (n + 1) j (by omega) (by omega) e
          omega
      · by_cases y : f j = n
        · rw [if_neg z, if_pos y] at e
          have := inj i (n + 1) (by omega) (by omega) e
          omega
        · rw [if_neg z, if_neg y] at e
          exact inj i j (by omega) (by omega) e
theorem slot_free {N : Int} {S : HS} (h : HC N S) (g0 : Nat) (hg : g0 < 10) (q : hN S g0 ≤ 8) : ∃ y : Nat, y < 90 ∧ S.2 13 y = 0 := by
  refine Classical.byContradiction (fun z => ?_)
  have u : ∀ m, m < 90 → S.2 13 m ≠ 0 := fun m a b => z ⟨m, a, b⟩
  -- every slot has a place, coded below 89
  have ex : ∀ m, ∃ c, m < 90 → c < 89 ∧ ∃ g i, hL S g i ∧ hM S g i = m ∧ ((9 * g + i ≠ 9 * g0 + 8) ∧ c = if 9 * g + i = 89 then 9 * g0 + 8 else 9 * g + i) := fun m => by
    by_cases a : m < 90
    · obtain ⟨g, i, b, e⟩ := h.2.2.1 m a (u m a)
      have b2 := b.2
      have b1 := b.1
      have n := h.1 g b1
      have ne : 9 * g + i ≠ 9 * g0 + 8 := fun y => by
        have : g = g0 := by omega
        subst this
        omega
      refine ⟨_, fun _ => ⟨?_, g, i, b, e, ne, rfl⟩⟩
      split
      · omega
      · omega
    · exact ⟨0, fun b => absurd b a⟩
  obtain ⟨f, hf⟩ := Classical.axiomOfChoice ex
  refine pigeon 89 f (fun i hi => (hf i (by omega)).1) (fun i j hi hj e => ?_)
  obtain ⟨-, g, a, l, m, n, c⟩ := hf i (by omega)
  obtain ⟨-, g', a', l', m', n', c'⟩ := hf j (by omega)
  have l2 := l.2
  have l2' := l'.2
  have k := h.1 g l.1
  have k' := h.1 g' l'.1
  rw [c, c'] at e
  have w : 9 * g + a = 9 * g' + a' := by
    split at e <;> split at e <;> omega
  have wg : g = g' := by omega
  have wa : a = a' := by omega
  rw [← m, ← m', wg, wa]
