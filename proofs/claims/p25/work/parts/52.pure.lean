section
/-! ===== a Hall's invariant: rows of motions (0 the pending ones, 1 the drafted ones, p + 2 those that lie at p) ===== -/
/-- a row of a state replaced -/
def sR (S : HS) (k : Nat) (u : Nat → Int32) : HS := (S.1, fun j => if j = k then u else S.2 j)
def hN (S : HS) : Nat → Int
  | 0 => (S.1 6).toInt
  | 1 => (S.1 35).toInt
  | p + 2 => (S.2 34 p).toInt
def hC (S : HS) : Nat → Nat → Int32
  | 0, i => S.2 31 i
  | 1, i => S.2 32 i
  | p + 2, i => S.2 33 (9 * p + i)
def hT (S : HS) : Nat → Prop
  | 0 => True
  | 1 => S.1 36 ≠ 0
  | p + 2 => S.2 37 p ≠ 0
def hM (S : HS) (g i : Nat) : Nat := (hC S g i).toNatClampNeg
def hL (S : HS) (g i : Nat) : Prop := g < 10 ∧ (i : Int) < hN S g
/-- a motion's own numbers -/
def uW (N : Int) (S : HS) (m : Nat) : Prop := (1 ≤ (S.2 14 m).toInt ∧ (S.2 14 m).toInt ≤ 9) ∧ (0 ≤ (S.2 19 m).toInt ∧ (S.2 19 m).toInt ≤ 400) ∧ (0 ≤ (S.2 20 m).toInt ∧ (S.2 20 m).toInt ≤ (S.2 21 m).toInt ∧ (S.2 21 m).toInt ≤ 400 * (N + 1))
/-- a motion y right above x -/
def uC (S : HS) (x y : Nat) : Prop := S.2 14 y ≠ 1 ∧ (S.2 14 y = 2 ∨ S.2 14 y = 3 → S.2 23 y = S.2 22 x ∧ (S.2 21 y).toInt ≤ (S.2 19 x).toInt ∧ (S.2 19 x).toInt + (S.2 19 y).toInt - ((S.2 21 y).toInt - (S.2 20 y).toInt) ≤ 400) ∧ (S.2 14 y = 3 → S.2 14 x = 2) ∧ (S.2 14 y = 2 → S.2 14 x ≠ 2 ∧ S.2 14 x ≠ 3)
def u3 (S : HS) (z x y : Nat) : Prop := S.2 14 y = 3 → (S.2 19 z).toInt + ((S.2 19 x).toInt + (S.2 19 y).toInt - ((S.2 21 y).toInt - (S.2 20 y).toInt)) - ((S.2 21 x).toInt - (S.2 20 x).toInt) ≤ 400
/-- two motions are made apart -/
def hU (S : HS) : Prop := ∀ g i g' i', hL S g i → hL S g' i' → S.2 22 (hM S g i) = S.2 22 (hM S g' i') → g = g' ∧ i = i'
def HC (N : Int) (S : HS) : Prop :=
  (∀ g, g < 10 → 0 ≤ hN S g ∧ hN S g ≤ 9 ∧ (¬ hT S g → hN S g ≤ 1)) ∧
  (∀ g i, hL S g i → 0 ≤ (hC S g i).toInt ∧ (hC S g i).toInt < 90 ∧ S.2 13 (hM S g i) ≠ 0) ∧
  (∀ m, m < 90 → S.2 13 m ≠ 0 → ∃ g i, hL S g i ∧ hM S g i = m) ∧
  (∀ g, hL S g 0 → hT S g → S.2 14 (hM S g 0) = 1) ∧
  (∀ g i, hL S g i → uW N S (hM S g i)) ∧
  (∀ g i, hL S g i → 0 ≤ (S.1 30 - S.2 22 (hM S g i)).toInt ∧ (S.1 30 - S.2 22 (hM S g i)).toInt < N) ∧
  hU S ∧
  (∀ g i, hL S g (i + 1) → uC S (hM S g i) (hM S g (i + 1))) ∧
  (∀ g i, hL S g (i + 2) → u3 S (hM S g i) (hM S g (i + 1)) (hM S g (i + 2)))
theorem HC.d {N : Int} {S : HS} (h : HC N S) {g i g' i' : Nat} (a : hL S g i) (b : hL S g' i') (e : hM S g i = hM S g' i') : g = g' ∧ i = i' :=
  h.2.2.2.2.2.2.1 g i g' i' a b (by rw [e])
theorem HC.lt {N : Int} {S : HS} (h : HC N S) {g i : Nat} (a : hL S g i) : hM S g i < 90 := by
  have v := h.2.1 g i a
  have k := iNat v.1
  unfold hM
  omega
theorem hL.le {S : HS} {g i j : Nat} (a : hL S g j) (b : i ≤ j) : hL S g i := ⟨a.1, by have := a.2; omega⟩
/-- later: nothing but the bounds grows -/
theorem HC.up {N M : Int} {S : HS} (h : HC N S) (q : N ≤ M) : HC M S := by
  obtain ⟨h1, h2, h3, h4, h5, h6, h7, h8, h9⟩ := h
  refine ⟨h1, h2, h3, h4, fun g i a => ?_, fun g i a => ?_, h7, h8, h9⟩
  · obtain ⟨w1, w2, w3⟩ := h5 g i a
    exact ⟨w1, w2, w3.1, w3.2.1, by omega⟩
  · have := h6 g i a
    omega
/-- the motions' own numbers are the same in both states -/
def uE (S' S : HS) : Prop := S'.2 14 = S.2 14 ∧ S'.2 19 = S.2 19 ∧ S'.2 20 = S.2 20 ∧ S'.2 21 = S.2 21 ∧ S'.2 22 = S.2 22
/-- the end of a row goes -/
theorem HC.pop {N : Int} {S S' : HS} (h : HC N S) (g0 : Nat) (b : S'.1 30 = S.1 30) (e : uE S' S) (e23 : S'.2 23 = S.2 23)
    (n0 : 0 ≤ hN S' g0 ∧ hN S' g0 ≤ hN S g0) (nn : ∀ g, g < 10 → g ≠ g0 → hN S' g = hN S g) (cc : ∀ g i, hL S' g i → hC S' g i = hC S g i) (tt : ∀ g, g < 10 → (hT S' g ↔ hT S g))
    (u0 : ∀ i, hL S g0 i → ¬ hL S' g0 i → S'.2 13 (hM S g0 i) = 0) (u1 : ∀ m, m < 90 → (∀ i, hL S g0 i → ¬ hL S' g0 i → hM S g0 i ≠ m) → S'.2 13 m = S.2 13 m) : HC N S' := by
  have hh := h
  obtain ⟨h1, h2, h3, h4, h5, h6, h7, h8, h9⟩ := h
  obtain ⟨e14, e19, e20, e21, e22⟩ := e
  have sub : ∀ g i, hL S' g i → hL S g i := fun g i a => by
    by_cases z : g = g0
    · subst z
      exact ⟨a.1, by have := a.2; omega⟩
    · exact ⟨a.1, by rw [← nn g a.1 z]; exact a.2⟩
  have mm : ∀ g i, hL S' g i → hM S' g i = hM S g i := fun g i a => by unfold hM; rw [cc g i a]
  refine ⟨fun g q => ?_, fun g i a => ?_, fun m q z => ?_, fun g a t => ?_, fun g i a => ?_, fun g i a => ?_, fun g i g' i' a b q => ?_, fun g i a => ?_, fun g i a => ?_⟩
  · by_cases z : g = g0
    · subst z
      have := h1 g q
      refine ⟨n0.1, by omega, fun t => ?_⟩
      have := this.2.2 (fun y => t ((tt g q).mpr y))
      omega
    · rw [nn g q z, tt g q]
      exact h1 g q
  · rw [mm g i a, cc g i a]
    have v := h2 g i (sub g i a)
    refine ⟨v.1, v.2.1, ?_⟩
    rw [u1 _ (hh.lt (sub g i a))]
    · exact v.2.2
    · intro j c d y
      obtain ⟨y1, y2⟩ := hh.d c (sub g i a) y
      subst y1
      subst y2
      exact d a
  · by_cases y : ∀ i, hL S g0 i → ¬ hL S' g0 i → hM S g0 i ≠ m
    · rw [u1 m q y] at z
      obtain ⟨g, i, a, w⟩ := h3 m q z
      have a' : hL S' g i := by
        by_cases x : g = g0
        · subst x
          exact Classical.byContradiction (fun c => y i a c w)
        · exact ⟨a.1, by rw [nn g a.1 x]; exact a.2⟩
      exact ⟨g, i, a', by rw [mm g i a']; exact w⟩
    · refine absurd z (fun z => y (fun i a c w => z ?_))
      rw [← w]
      exact u0 i a c
  · rw [e14, mm g 0 a]
    exact h4 g (sub g 0 a) ((tt g a.1).mp t)
  · rw [mm g i a]
    have w := h5 g i (sub g i a)
    unfold uW at w ⊢
    rw [e14, e19, e20, e21]
    exact w
  · rw [mm g i a, b, e22]
    exact h6 g i (sub g i a)
  · rw [mm g i a, mm g' i' b, e22] at q
    exact h7 g i g' i' (sub g i a) (sub g' i' b) q
  · rw [mm g i (a.le (by omega)), mm g _ a]
    have w := h8 g i (sub _ _ a)
    unfold uC at w ⊢
    rw [e14, e19, e20, e21, e22, e23]
    exact w
  · rw [mm g i (a.le (by omega)), mm g _ (a.le (by omega)), mm g _ a]
    have w := h9 g i (sub _ _ a)
    unfold u3 at w ⊢
    rw [e14, e19, e20, e21]
    exact w
/-- a row of motions is put behind another one -/
theorem HC.xfer {N : Int} {S S' : HS} (h : HC N S) (s d k : Nat) (hs : s < 10) (hd : d < 10) (sd : s ≠ d) (hk : (k : Int) = hN S d) (b : S'.1 30 = S.1 30) (e : uE S' S) (e13 : S'.2 13 = S.2 13)
    (e23 : ∀ g i, hL S g i → (g = s → i ≠ 0) → S'.2 23 (hM S g i) = S.2 23 (hM S g i))
    (ns : hN S' s = 0) (nd : hN S' d = hN S d + hN S s) (nd9 : hN S' d ≤ 9) (nt : ¬ hT S' d → hN S' d ≤ 1)
    (no : ∀ g, g < 10 → g ≠ s → g ≠ d → hN S' g = hN S g ∧ (hT S' g ↔ hT S g) ∧ ∀ i : Nat, (i : Int) < hN S g → hC S' g i = hC S g i)
    (c0 : ∀ i, i < k → hC S' d i = hC S d i) (c1 : ∀ i : Nat, (i : Int) < hN S s → hC S' d (k + i) = hC S s i)
    (kk : k = 0 → 0 < hN S s → hT S' d → S.2 14 (hM S s 0) = 1) (kd : 0 < k → hT S' d → hT S d)
    (k1 : 0 < k → hN S s ≤ 1) (jj : 0 < k → 0 < hN S s → uC S' (hM S d (k - 1)) (hM S s 0)) (j3 : 1 < k → 0 < hN S s → u3 S (hM S d (k - 2)) (hM S d (k - 1)) (hM S s 0)) : HC N S' := by
  have hh := h
  obtain ⟨h1, h2, h3, h4, h5, h6, h7, h8, h9⟩ := h
  obtain ⟨e14, e19, e20, e21, e22⟩ := e
  -- where each place of S' stood in S
  have old : ∀ g i, hL S' g i → ∃ g1 i1, hL S g1 i1 ∧ hC S' g i = hC S g1 i1 ∧ ((g ≠ d ∧ g ≠ s ∧ g1 = g ∧ i1 = i) ∨ (g = d ∧ i < k ∧ g1 = d ∧ i1 = i) ∨ (g = d ∧ k ≤ i ∧ g1 = s ∧ i1 = i - k)) := fun g i a => by
    have a2 := a.2
    by_cases z : g = d
    · subst z
      by_cases y : i < k
      · exact ⟨g, i, ⟨a.1, by omega⟩, c0 i y, Or.inr (Or.inl ⟨rfl, y, rfl, rfl⟩)⟩
      · refine ⟨s, i - k, ⟨hs, by omega⟩, ?_, Or.inr (Or.inr ⟨rfl, by omega, rfl, rfl⟩)⟩
        have := c1 (i - k) (by omega)
        rw [← this]
        congr 1
        omega
    · by_cases y : g = s
      · subst y
        omega
      · have := no g a.1 y z
        exact ⟨g, i, ⟨a.1, by omega⟩, this.2.2 i (by omega), Or.inl ⟨z, y, rfl, rfl⟩⟩
  have mo : ∀ g i g1 i1, hC S' g i = hC S g1 i1 → hM S' g i = hM S g1 i1 := fun g i g1 i1 q => by unfold hM; rw [q]
  refine ⟨fun g q => ?_, fun g i a => ?_, fun m q z => ?_, fun g a t => ?_, fun g i a => ?_, fun g i a => ?_, fun g i g' i' a b q => ?_, fun g i a => ?_, fun g i a => ?_⟩
  · by_cases z : g = d
    · subst z
      have w1 := h1 g hd
      have w2 := h1 s hs
      exact ⟨by omega, nd9, nt⟩
    · by_cases y : g = s
      · subst y
        exact ⟨by omega, by omega, fun _ => by omega⟩
      · have w := no g q y z
        rw [w.1, w.2.1]
        exact h1 g q
  · obtain ⟨g1, i1, a1, c, -⟩ := old g i a
    rw [mo _ _ _ _ c, c, e13]
    exact h2 g1 i1 a1
  · rw [e13] at z
    obtain ⟨g, i, a, w⟩ := h3 m q z
    have a2 := a.2
    by_cases x : g = s
    · subst x
      refine ⟨d, k + i, ⟨hd, by omega⟩, ?_⟩
      rw [mo _ _ _ _ (c1 i a2)]
      exact w
    · by_cases y : g = d
      · subst y
        have w2 := h1 s hs
        refine ⟨g, i, ⟨hd, by omega⟩, ?_⟩
        rw [mo _ _ _ _ (c0 i (by omega))]
        exact w
      · have v := no g a.1 x y
        refine ⟨g, i, ⟨a.1, by omega⟩, ?_⟩
        rw [mo _ _ _ _ (v.2.2 i a2)]
        exact w
  · rw [e14]
    have a2 := a.2
    by_cases x : g = d
    · subst x
      by_cases y : k = 0
      · have c := c1 0 (by omega)
        rw [y] at c
        rw [mo _ _ _ _ c]
        exact kk y (by omega) t
      · rw [mo _ _ _ _ (c0 0 (by omega))]
        exact h4 g ⟨hd, by omega⟩ (kd (by omega) t)
    · by_cases y : g = s
      · subst y
        omega
      · have v := no g a.1 y x
        rw [mo _ _ _ _ (v.2.2 0 (by omega))]
        exact h4 g ⟨a.1, by omega⟩ (v.2.1.mp t)
  · obtain ⟨g1, i1, a1, c, -⟩ := old g i a
    rw [mo _ _ _ _ c]
    have w := h5 g1 i1 a1
    unfold uW at w ⊢
    rw [e14, e19, e20, e21]
    exact w
  · obtain ⟨g1, i1, a1, c, -⟩ := old g i a
    rw [mo _ _ _ _ c, b, e22]
    exact h6 g1 i1 a1
  · obtain ⟨g1, i1, a1, c, r⟩ := old g i a
    obtain ⟨g2, i2, a2, c2, r2⟩ := old g' i' b
    rw [mo _ _ _ _ c, mo _ _ _ _ c2, e22] at q
    obtain ⟨q1, q2⟩ := h7 g1 i1 g2 i2 a1 a2 q
    omega
  · obtain ⟨g1, i1, a1, c, r⟩ := old g i (a.le (by omega))
    obtain ⟨g2, i2, a2, c2, r2⟩ := old g (i + 1) a
    rw [mo _ _ _ _ c, mo _ _ _ _ c2]
    by_cases z : g1 = g2
    · subst z
      have z2 : i2 = i1 + 1 := by omega
      subst z2
      have w := h8 g1 i1 a2
      unfold uC at w ⊢
      rw [e14, e19, e20, e21, e22, e23 g1 (i1 + 1) a2 (fun _ => by omega)]
      exact w
    · have s1 : g1 = d := by omega
      have s2 : g2 = s := by omega
      have s3 : i1 = k - 1 := by omega
      have s4 : i2 = 0 := by omega
      subst s1
      subst s2
      subst s3
      subst s4
      exact jj (by omega) (by have := a2.2; omega)
  · obtain ⟨g1, i1, a1, c, r⟩ := old g i (a.le (by omega))
    obtain ⟨g2, i2, a2, c2, r2⟩ := old g (i + 1) (a.le (by omega))
    obtain ⟨g3, i3, a3, c3, r3⟩ := old g (i + 2) a
    rw [mo _ _ _ _ c, mo _ _ _ _ c2, mo _ _ _ _ c3]
    have f : u3 S (hM S g1 i1) (hM S g2 i2) (hM S g3 i3) := by
      by_cases z : g1 = g3
      · have y : g2 = g1 := by omega
        subst z
        subst y
        have z2 : i2 = i1 + 1 := by omega
        have z3 : i3 = i1 + 2 := by omega
        subst z2
        subst z3
        exact h9 _ i1 a3
      · have b1 := a1.2
        have b2 := a2.2
        have b3 := a3.2
        have s1 : g1 = d := by omega
        have s3 : g3 = s := by omega
        subst s3
        have hk1 := k1 (by omega)
        have s2 : g2 = d := by
          rcases r2 with r2 | r2 | r2
          · omega
          · omega
          · obtain ⟨r2a, r2b, r2c, r2d⟩ := r2
            omega
        have s4 : i1 = k - 2 := by omega
        have s5 : i2 = k - 1 := by omega
        have s6 : i3 = 0 := by omega
        subst s1
        subst s2
        subst s4
        subst s5
        subst s6
        exact j3 (by omega) (by omega)
    unfold u3 at f ⊢
    rw [e14, e19, e20, e21]
    exact f
end
section
/-! ===== a new motion; a motion changed ===== -/
theorem ageS {b s : Int32} {N : Int} (h : 0 ≤ (b - s).toInt ∧ (b - s).toInt < N) (q : N ≤ 1000000) : (b + 1 - s).toInt = (b - s).toInt + 1 := by
  have e : b + 1 - s = (b - s) + 1 := by
    rw [Int32.sub_eq_add_neg, Int32.sub_eq_add_neg, Int32.add_assoc, Int32.add_comm 1, ← Int32.add_assoc]
  rw [e, iAdd (by rw [i1]; omega) (by rw [i1]; omega), i1]
theorem ageN {b s : Int32} {N : Int} (h : 0 ≤ (b - s).toInt ∧ (b - s).toInt < N) (q : N ≤ 1000000) : s ≠ b + 1 := by
  intro e
  have a := ageS h q
  rw [← e, Int32.sub_self, i0] at a
  omega
theorem HC.push {N : Int} {S S' : HS} (h : HC N S) (s k m : Nat) (hN0 : 0 ≤ N) (hN6 : N ≤ 1000000) (hs : s < 10) (hk : (k : Int) = hN S s) (fr : S.2 13 m = 0)
    (b : S'.1 30 = S.1 30 + 1) (bm : S'.2 22 m = S.1 30 + 1)
    (eo : ∀ x, x < 90 → x ≠ m → S'.2 13 x = S.2 13 x ∧ S'.2 14 x = S.2 14 x ∧ S'.2 19 x = S.2 19 x ∧ S'.2 20 x = S.2 20 x ∧ S'.2 21 x = S.2 21 x ∧ S'.2 22 x = S.2 22 x ∧ S'.2 23 x = S.2 23 x)
    (u : S'.2 13 m ≠ 0) (w : uW (N + 1) S' m) (ns : hN S' s = k + 1) (n9 : k + 1 ≤ 9) (no : ∀ g, g < 10 → g ≠ s → hN S' g = hN S g ∧ (hT S' g ↔ hT S g))
    (co : ∀ g i, hL S g i → hC S' g i = hC S g i) (cn : (hC S' s k).toInt = m) (hm : m < 90) (nt : ¬ hT S' s → k = 0) (kk : k = 0 → hT S' s → S'.2 14 m = 1) (kd : 0 < k → hT S' s → hT S s)
    (k9 : 0 < k → S'.2 14 m = 9) : HC (N + 1) S' := by
  have hh := h
  obtain ⟨h1, h2, h3, h4, h5, h6, h7, h8, h9⟩ := h
  have n3 : ∀ x : Int32, x = 9 → x ≠ 1 ∧ x ≠ 2 ∧ x ≠ 3 := fun x q => by subst q; decide
  have old : ∀ g i, hL S' g i → (hL S g i ∧ hC S' g i = hC S g i ∧ hM S' g i = hM S g i ∧ hM S g i < 90 ∧ hM S g i ≠ m) ∨ (g = s ∧ i = k ∧ hM S' g i = m) := fun g i a => by
    have a2 := a.2
    by_cases z : hL S g i
    · refine Or.inl ⟨z, co g i z, by unfold hM; rw [co g i z], hh.lt z, fun q => ?_⟩
      have := (h2 g i z).2.2
      rw [q] at this
      exact this fr
    · have y : g = s := Classical.byContradiction (fun y => z ⟨a.1, by rw [← (no g a.1 y).1]; exact a2⟩)
      subst y
      have y : i = k := Classical.byContradiction (fun y => z ⟨a.1, by omega⟩)
      subst y
      refine Or.inr ⟨rfl, rfl, ?_⟩
      have := iNat (x := hC S' g i) (by omega)
      unfold hM
      omega
  have new : hL S' s k := ⟨hs, by omega⟩
  have kp : ∀ g i, hL S g i → hL S' g i := fun g i a => by
    have a2 := a.2
    by_cases z : g = s
    · subst z
      exact ⟨a.1, by omega⟩
    · exact ⟨a.1, by rw [(no g a.1 z).1]; exact a2⟩
  have nm : hM S' s k = m := by
    have := iNat (x := hC S' s k) (by omega)
    unfold hM
    omega
  refine ⟨fun g q => ?_, fun g i a => ?_, fun x q z => ?_, fun g a t => ?_, fun g i a => ?_, fun g i a => ?_, fun g i g' i' a c q => ?_, fun g i a => ?_, fun g i a => ?_⟩
  · by_cases z : g = s
    · subst z
      exact ⟨by omega, by omega, fun t => by have := nt t; omega⟩
    · have v := no g q z
      rw [v.1, v.2]
      exact h1 g q
  · rcases old g i a with ⟨o1, o2, u3, o4, o5⟩ | ⟨o1, o2, u3⟩
    · rw [u3, o2, (eo _ o4 o5).1]
      exact h2 g i o1
    · rw [u3]
      subst o1
      subst o2
      exact ⟨by omega, by omega, u⟩
  · by_cases y : x = m
    · subst y
      exact ⟨s, k, new, nm⟩
    · rw [(eo x q y).1] at z
      obtain ⟨g, i, a, v⟩ := h3 x q z
      refine ⟨g, i, kp g i a, ?_⟩
      rw [← v]
      unfold hM
      rw [co g i a]
  · rcases old g 0 a with ⟨o1, o2, u3, o4, o5⟩ | ⟨o1, o2, u3⟩
    · rw [u3, (eo _ o4 o5).2.1]
      refine h4 g o1 ?_
      by_cases z : g = s
      · subst z
        exact kd (by have := o1.2; omega) t
      · exact (no g a.1 z).2.mp t
    · rw [u3]
      subst o1
      exact kk o2.symm t
  · rcases old g i a with ⟨o1, o2, u3, o4, o5⟩ | ⟨o1, o2, u3⟩
    · rw [u3]
      have v := h5 g i o1
      have z := eo _ o4 o5
      unfold uW at v ⊢
      rw [z.2.1, z.2.2.1, z.2.2.2.1, z.2.2.2.2.1]
      exact ⟨v.1, v.2.1, v.2.2.1, v.2.2.2.1, by omega⟩
    · rw [u3]
      exact w
  · rcases old g i a with ⟨o1, o2, u3, o4, o5⟩ | ⟨o1, o2, u3⟩
    · rw [u3, (eo _ o4 o5).2.2.2.2.2.1, b]
      have v := h6 g i o1
      have := ageS v hN6
      omega
    · rw [u3, bm, b, Int32.sub_self, i0]
      omega
  · rcases old g i a with ⟨o1, o2, u3, o4, o5⟩ | ⟨o1, o2, u3⟩
    · rcases old g' i' c with ⟨p1, p2, p3, p4, p5⟩ | ⟨p1, p2, p3⟩
      · rw [u3, p3, (eo _ o4 o5).2.2.2.2.2.1, (eo _ p4 p5).2.2.2.2.2.1] at q
        exact h7 g i g' i' o1 p1 q
      · rw [u3, p3, (eo _ o4 o5).2.2.2.2.2.1, bm] at q
        exact absurd q (ageN (h6 g i o1) hN6)
    · rcases old g' i' c with ⟨p1, p2, p3, p4, p5⟩ | ⟨p1, p2, p3⟩
      · rw [u3, p3, bm, (eo _ p4 p5).2.2.2.2.2.1] at q
        exact absurd q.symm (ageN (h6 g' i' p1) hN6)
      · exact ⟨o1.trans p1.symm, o2.trans p2.symm⟩
  · rcases old g (i + 1) a with ⟨o1, o2, u3, o4, o5⟩ | ⟨o1, o2, u3⟩
    · rcases old g i (a.le (by omega)) with ⟨p1, p2, p3, p4, p5⟩ | ⟨p1, p2, p3⟩
      · rw [u3, p3]
        have v := h8 g i o1
        have z := eo _ o4 o5
        have y := eo _ p4 p5
        unfold uC at v ⊢
        rw [z.2.1, z.2.2.1, z.2.2.2.1, z.2.2.2.2.1, z.2.2.2.2.2.2, y.2.1, y.2.2.1, y.2.2.2.2.2.1]
        exact v
      · have := o1.2
        subst p1
        omega
    · rw [u3]
      have n := n3 _ (k9 (by omega))
      exact ⟨n.1, fun q => by rcases q with q | q; exact absurd q n.2.1; exact absurd q n.2.2, fun q => absurd q n.2.2, fun q => absurd q n.2.1⟩
  · rcases old g (i + 2) a with ⟨o1, o2, u3', o4, o5⟩ | ⟨o1, o2, u3'⟩
    · rcases old g i (a.le (by omega)) with ⟨p1, p2, p3, p4, p5⟩ | ⟨p1, p2, p3⟩
      · rcases old g (i + 1) (a.le (by omega)) with ⟨r1, r2, r3, r4, r5⟩ | ⟨r1, r2, r3⟩
        · rw [u3', p3, r3]
          have v := h9 g i o1
          have z := eo _ o4 o5
          have y := eo _ p4 p5
          have x := eo _ r4 r5
          unfold u3 at v ⊢
          rw [z.2.1, z.2.2.1, z.2.2.2.1, z.2.2.2.2.1, y.2.2.1, x.2.2.1, x.2.2.2.1, x.2.2.2.2.1]
          exact v
        · have := o1.2
          subst r1
          omega
      · have := o1.2
        subst p1
        omega
    · rw [u3']
      have n := n3 _ (k9 (by omega))
      exact fun q => absurd q n.2.2
/-- the one motion of a row of one is changed -/
theorem HC.slot {N M : Int} {S S' : HS} (h : HC N S) (g0 m : Nat) (hNM : N ≤ M) (hg : g0 < 10) (h1' : hN S g0 = 1) (hm : hM S g0 0 = m)
    (b : S'.1 30 = S.1 30) (e13 : S'.2 13 = S.2 13) (e14 : S'.2 14 = S.2 14) (e22 : S'.2 22 = S.2 22)
    (eo : ∀ x, x < 90 → x ≠ m → S'.2 19 x = S.2 19 x ∧ S'.2 20 x = S.2 20 x ∧ S'.2 21 x = S.2 21 x ∧ S'.2 23 x = S.2 23 x)
    (w : uW M S' m) (no : ∀ g, g < 10 → hN S' g = hN S g ∧ (hT S' g ↔ hT S g)) (co : ∀ g i, hL S g i → hC S' g i = hC S g i) : HC M S' := by
  have hh := h.up hNM
  obtain ⟨h1, h2, h3, h4, h5, h6, h7, h8, h9⟩ := hh
  have sub : ∀ g i, hL S' g i → hL S g i := fun g i a => ⟨a.1, by rw [← (no g a.1).1]; exact a.2⟩
  have mm : ∀ g i, hL S' g i → hM S' g i = hM S g i := fun g i a => by unfold hM; rw [co g i (sub g i a)]
  have me : ∀ g i, hL S g i → 0 < i → hM S g i < 90 ∧ hM S g i ≠ m := fun g i a z => by
    refine ⟨h.lt a, fun q => ?_⟩
    have y := h.d a (show hL S g0 0 from ⟨hg, by omega⟩) (q.trans hm.symm)
    omega
  refine ⟨fun g q => ?_, fun g i a => ?_, fun x q z => ?_, fun g a t => ?_, fun g i a => ?_, fun g i a => ?_, fun g i g' i' a c q => ?_, fun g i a => ?_, fun g i a => ?_⟩
  · rw [(no g q).1, (no g q).2]
    exact h1 g q
  · rw [mm g i a, co g i (sub g i a), e13]
    exact h2 g i (sub g i a)
  · rw [e13] at z
    obtain ⟨g, i, a, v⟩ := h3 x q z
    refine ⟨g, i, ⟨a.1, by rw [(no g a.1).1]; exact a.2⟩, ?_⟩
    rw [← v]
    unfold hM
    rw [co g i a]
  · rw [mm g 0 a, e14]
    exact h4 g (sub g 0 a) ((no g a.1).2.mp t)
  · rw [mm g i a]
    by_cases z : hM S g i = m
    · rw [z]
      exact w
    · have y := eo _ (h.lt (sub g i a)) z
      have v := h5 g i (sub g i a)
      unfold uW at v ⊢
      rw [e14, y.1, y.2.1, y.2.2.1]
      exact v
  · rw [mm g i a, b, e22]
    exact h6 g i (sub g i a)
  · rw [mm g i a, mm g' i' c, e22] at q
    exact h7 g i g' i' (sub g i a) (sub g' i' c) q
  · rw [mm g (i + 1) a, mm g i (a.le (by omega))]
    have v := h8 g i (sub _ _ a)
    have z := me g (i + 1) (sub _ _ a) (by omega)
    have y := eo _ z.1 z.2
    have x : S'.2 19 (hM S g i) = S.2 19 (hM S g i) := by
      by_cases x : hM S g i = m
      · have x2 := h.d (sub g i (a.le (by omega))) (show hL S g0 0 from ⟨hg, by omega⟩) (x.trans hm.symm)
        have := (sub _ _ a).2
        obtain ⟨x2, x3⟩ := x2
        subst x2
        omega
      · exact (eo _ (h.lt (sub g i (a.le (by omega)))) x).1
    unfold uC at v ⊢
    rw [e14, e22, y.1, y.2.1, y.2.2.1, y.2.2.2, x]
    exact v
  · rw [mm g (i + 2) a, mm g i (a.le (by omega)), mm g (i + 1) (a.le (by omega))]
    have v := h9 g i (sub _ _ a)
    have z := me g (i + 2) (sub _ _ a) (by omega)
    have y := eo _ z.1 z.2
    have z' := me g (i + 1) (sub _ _ (a.le (by omega))) (by omega)
    have y' := eo _ z'.1 z'.2
    have x : S'.2 19 (hM S g i) = S.2 19 (hM S g i) := by
      by_cases x : hM S g i = m
      · have x2 := h.d (sub g i (a.le (by omega))) (show hL S g0 0 from ⟨hg, by omega⟩) (x.trans hm.symm)
        have := (sub _ _ a).2
        obtain ⟨x2, x3⟩ := x2
        subst x2
        omega
      · exact (eo _ (h.lt (sub g i (a.le (by omega)))) x).1
    unfold u3 at v ⊢
    rw [e14, y.1, y.2.1, y.2.2.1, x, y'.1, y'.2.1, y'.2.2.1]
    exact v
/-- a motion is another one than before -/
theorem HC.fresh {N : Int} {S S' : HS} (h : HC N S) (g0 m : Nat) (hN0 : 0 ≤ N) (hN6 : N ≤ 1000000) (hg : g0 < 10) (h1' : hN S g0 = 1) (hm : hM S g0 0 = m)
    (b : S'.1 30 = S.1 30 + 1) (bm : S'.2 22 m = S.1 30 + 1) (e13 : S'.2 13 = S.2 13) (e14 : S'.2 14 = S.2 14) (e19 : S'.2 19 = S.2 19) (e20 : S'.2 20 = S.2 20) (e21 : S'.2 21 = S.2 21) (e23 : S'.2 23 = S.2 23)
    (eo : ∀ x, x < 90 → x ≠ m → S'.2 22 x = S.2 22 x)
    (no : ∀ g, g < 10 → hN S' g = hN S g ∧ (hT S' g ↔ hT S g)) (co : ∀ g i, hL S g i → hC S' g i = hC S g i) : HC (N + 1) S' := by
  obtain ⟨h1, h2, h3, h4, h5, h6, h7, h8, h9⟩ := h.up (show N ≤ N + 1 by omega)
  have sub : ∀ g i, hL S' g i → hL S g i := fun g i a => ⟨a.1, by rw [← (no g a.1).1]; exact a.2⟩
  have mm : ∀ g i, hL S' g i → hM S' g i = hM S g i := fun g i a => by unfold hM; rw [co g i (sub g i a)]
  have l0 : hL S g0 0 := ⟨hg, by omega⟩
  refine ⟨fun g q => ?_, fun g i a => ?_, fun x q z => ?_, fun g a t => ?_, fun g i a => ?_, fun g i a => ?_, fun g i g' i' a c q => ?_, fun g i a => ?_, fun g i a => ?_⟩
  · rw [(no g q).1, (no g q).2]
    exact h1 g q
  · rw [mm g i a, co g i (sub g i a), e13]
    exact h2 g i (sub g i a)
  · rw [e13] at z
    obtain ⟨g, i, a, v⟩ := h3 x q z
    refine ⟨g, i, ⟨a.1, by rw [(no g a.1).1]; exact a.2⟩, ?_⟩
    rw [← v]
    unfold hM
    rw [co g i a]
  · rw [mm g 0 a, e14]
    exact h4 g (sub g 0 a) ((no g a.1).2.mp t)
  · rw [mm g i a]
    have v := h5 g i (sub g i a)
    unfold uW at v ⊢
    rw [e14, e19, e20, e21]
    exact v
  · rw [mm g i a, b]
    by_cases z : hM S g i = m
    · rw [z, bm, Int32.sub_self, i0]
      omega
    · rw [eo _ (h.lt (sub g i a)) z]
      have v := h.2.2.2.2.2.1 g i (sub g i a)
      have := ageS v hN6
      omega
  · have a' := sub g i a
    have c' := sub g' i' c
    rw [mm g i a, mm g' i' c] at q
    by_cases z : hM S g i = m
    · by_cases y : hM S g' i' = m
      · exact h.d a' c' (z.trans y.symm)
      · rw [z, bm, eo _ (h.lt c') y] at q
        exact absurd q.symm (ageN (h.2.2.2.2.2.1 g' i' c') hN6)
    · by_cases y : hM S g' i' = m
      · rw [y, bm, eo _ (h.lt a') z] at q
        exact absurd q (ageN (h.2.2.2.2.2.1 g i a') hN6)
      · rw [eo _ (h.lt a') z, eo _ (h.lt c') y] at q
        exact h7 g i g' i' a' c' q
  · rw [mm g (i + 1) a, mm g i (a.le (by omega))]
    have v := h8 g i (sub _ _ a)
    have x : hM S g i ≠ m := fun x => by
      have x2 := h.d (sub g i (a.le (by omega))) l0 (x.trans hm.symm)
      have := (sub _ _ a).2
      obtain ⟨x2, x3⟩ := x2
      subst x2
      omega
    unfold uC at v ⊢
    rw [e14, e19, e20, e21, e23, eo _ (h.lt (sub g i (a.le (by omega)))) x]
    exact v
  · rw [mm g (i + 2) a, mm g i (a.le (by omega)), mm g (i + 1) (a.le (by omega))]
    have v := h9 g i (sub _ _ a)
    unfold u3 at v ⊢
    rw [e14, e19, e20, e21]
    exact v
end
section
/-! ===== a motion's words change ===== -/
theorem HC.change {N M : Int} {S S' : HS} (h : HC N S) (k t : Nat) (hNM : N ≤ M) (hk : hN S 0 = k + 1) (ht : hM S 0 k = t)
    (b : S'.1 30 = S.1 30) (e13 : S'.2 13 = S.2 13) (e14 : S'.2 14 = S.2 14) (e22 : S'.2 22 = S.2 22) (e23 : S'.2 23 = S.2 23)
    (e19 : ∀ x, x < 90 → x ≠ t → S'.2 19 x = S.2 19 x) (wn : 0 ≤ (S'.2 19 t).toInt ∧ (S'.2 19 t).toInt ≤ 400)
    (ef : ∀ x, x < 90 → (S'.2 20 x = S.2 20 x ∧ S'.2 21 x = S.2 21 x) ∨ (S.2 23 x = S.2 22 t ∧ (∀ i, hL S 0 i → hM S 0 i ≠ x) ∧ ((0 ≤ (S.2 20 x).toInt ∧ (S.2 20 x).toInt ≤ (S.2 21 x).toInt ∧ (S.2 21 x).toInt ≤ 400 * (N + 1)) → 0 ≤ (S'.2 20 x).toInt ∧ (S'.2 20 x).toInt ≤ (S'.2 21 x).toInt ∧ (S'.2 21 x).toInt ≤ 400 * (M + 1))))
    (n3 : S.2 14 t ≠ 3) (w2 : S.2 14 t = 2 → 0 < k → (S.2 19 (hM S 0 (k - 1))).toInt + (S'.2 19 t).toInt - ((S.2 21 t).toInt - (S.2 20 t).toInt) ≤ 400)
    (no : ∀ g, g < 10 → hN S' g = hN S g ∧ (hT S' g ↔ hT S g)) (co : ∀ g i, hL S g i → hC S' g i = hC S g i) : HC M S' := by
  obtain ⟨h1, h2, h3, h4, h5, h6, h7, h8, h9⟩ := h.up hNM
  have sub : ∀ g i, hL S' g i → hL S g i := fun g i a => ⟨a.1, by rw [← (no g a.1).1]; exact a.2⟩
  have mm : ∀ g i, hL S' g i → hM S' g i = hM S g i := fun g i a => by unfold hM; rw [co g i (sub g i a)]
  have lt : hL S 0 k := ⟨by omega, by omega⟩
  -- who is not the last of the row 0 has its words
  have ew : ∀ g i, hL S g (i + 1) → S'.2 19 (hM S g i) = S.2 19 (hM S g i) := fun g i a => by
    refine e19 _ (h.lt (a.le (by omega))) (fun q => ?_)
    have x := h.d (a.le (by omega)) lt (q.trans ht.symm)
    have := a.2
    obtain ⟨x2, x3⟩ := x
    subst x2
    omega
  -- who amends the one right below it has its span
  have es : ∀ g i, hL S g (i + 1) → (S.2 14 (hM S g (i + 1)) = 2 ∨ S.2 14 (hM S g (i + 1)) = 3) → S'.2 20 (hM S g (i + 1)) = S.2 20 (hM S g (i + 1)) ∧ S'.2 21 (hM S g (i + 1)) = S.2 21 (hM S g (i + 1)) := fun g i a q => by
    rcases ef _ (h.lt a) with f | f
    · exact f
    · have c := ((h8 g i a).2.1 q).1
      rw [f.1, ← ht] at c
      have x := h7 0 k g i lt (a.le (by omega)) c
      have := a.2
      obtain ⟨x2, x3⟩ := x
      subst x2
      omega
  have st : ∀ i, hL S 0 i → S'.2 20 (hM S 0 i) = S.2 20 (hM S 0 i) ∧ S'.2 21 (hM S 0 i) = S.2 21 (hM S 0 i) := fun i a => by
    rcases ef _ (h.lt a) with f | f
    · exact f
    · exact absurd rfl (f.2.1 i a)
  refine ⟨fun g q => ?_, fun g i a => ?_, fun x q z => ?_, fun g a t => ?_, fun g i a => ?_, fun g i a => ?_, fun g i g' i' a c q => ?_, fun g i a => ?_, fun g i a => ?_⟩
  · rw [(no g q).1, (no g q).2]
    exact h1 g q
  · rw [mm g i a, co g i (sub g i a), e13]
    exact h2 g i (sub g i a)
  · rw [e13] at z
    obtain ⟨g, i, a, v⟩ := h3 x q z
    refine ⟨g, i, ⟨a.1, by rw [(no g a.1).1]; exact a.2⟩, ?_⟩
    rw [← v]
    unfold hM
    rw [co g i a]
  · rw [mm g 0 a, e14]
    exact h4 g (sub g 0 a) ((no g a.1).2.mp t)
  · rw [mm g i a]
    have v := h.2.2.2.2.1 g i (sub g i a)
    refine ⟨by rw [e14]; exact v.1, ?_, ?_⟩
    · by_cases z : hM S g i = t
      · rw [z]
        exact wn
      · rw [e19 _ (h.lt (sub g i a)) z]
        exact v.2.1
    · rcases ef _ (h.lt (sub g i a)) with f | f
      · rw [f.1, f.2]
        have := v.2.2
        omega
      · exact f.2.2 v.2.2
  · rw [mm g i a, b, e22]
    exact h6 g i (sub g i a)
  · rw [mm g i a, mm g' i' c, e22] at q
    exact h7 g i g' i' (sub g i a) (sub g' i' c) q
  · rw [mm g (i + 1) a, mm g i (a.le (by omega))]
    have a' := sub _ _ a
    have v := h8 g i a'
    unfold uC
    rw [e14, e22, e23]
    refine ⟨v.1, fun q => ?_, v.2.2⟩
    have c := v.2.1 q
    have e := es g i a' q
    rw [e.1, e.2, ew g i a']
    refine ⟨c.1, c.2.1, ?_⟩
    by_cases z : hM S g (i + 1) = t
    · have x := h.d a' lt (z.trans ht.symm)
      obtain ⟨x2, x3⟩ := x
      subst x2
      have q2 : S.2 14 t = 2 := by
        rw [z] at q
        exact q.resolve_right n3
      have w := w2 q2 (by omega)
      have e : k - 1 = i := by omega
      rw [e] at w
      rw [z]
      exact w
    · rw [e19 _ (h.lt a') z]
      exact c.2.2
  · rw [mm g (i + 2) a, mm g i (a.le (by omega)), mm g (i + 1) (a.le (by omega))]
    have a' := sub _ _ a
    have v := h9 g i a'
    have c := h8 g (i + 1) a'
    unfold u3 at v ⊢
    rw [e14]
    intro q
    have q2 := c.2.2.1 q
    have e := es g (i + 1) a' (Or.inr q)
    have e' := es g i (a'.le (by omega)) (Or.inl q2)
    have y : hM S g (i + 2) ≠ t := fun y => n3 (by rw [← y]; exact q)
    rw [e.1, e.2, e'.1, e'.2, ew g i (a'.le (by omega)), ew g (i + 1) a', e19 _ (h.lt a') y]
    exact v q
end
section
/-! ===== a Hall's invariant, whole ===== -/
theorem upd_ne {f : Nat → Int32} {k x : Nat} {v : Int32} (h : x ≠ k) : upd f k v x = f x := by
  unfold upd
  rw [if_neg h]
theorem upd_eq {f : Nat → Int32} {k : Nat} {v : Int32} : upd f k v k = v := by
  unfold upd
  rw [if_pos rfl]
theorem vb0 : vp_nar .boolean 0 = 0 := rfl
theorem vb1 : vp_nar .boolean 1 = 1 := rfl
theorem sR_sA (S : HS) (k i : Nat) (v : Int32) (u : Nat → Int32) : sR (sA S k i v) k u = sR S k u := by
  unfold sR sA
  refine Prod.ext rfl ?_
  funext j
  dsimp only
  by_cases h : j = k
  · rw [if_pos h, if_pos h]
  · rw [if_neg h, if_neg h, if_neg h]
theorem sR_id (S : HS) (k : Nat) : sR S k (S.2 k) = S := by
  unfold sR
  refine Prod.ext rfl ?_
  funext j
  dsimp only
  by_cases h : j = k
  · rw [if_pos h, h]
  · rw [if_neg h]
theorem sA_sR (S : HS) (k i : Nat) (v : Int32) : sA S k i v = sR S k (upd (S.2 k) i v) := rfl
/-- a PENDING motion that will want a place on the desk -/
def wP (S : HS) : Prop := ∃ i, hL S 0 i ∧ (S.2 14 (hM S 0 i) = 4 ∨ S.2 14 (hM S 0 i) = 5 ∨ S.2 14 (hM S 0 i) = 7)
def wD (S : HS) : Prop := 0 < hN S 1 ∧ hT S 1
def hG (S : HS) : Prop := (wP S ∨ wD S → ∃ p, p < 8 ∧ S.2 34 p = 0) ∧ (wP S ∧ wD S → ∃ p q, p < 8 ∧ q < 8 ∧ p ≠ q ∧ S.2 34 p = 0 ∧ S.2 34 q = 0)
def hZ (S : HS) : Prop := (1 ≤ (S.1 0).toInt ∧ (S.1 0).toInt ≤ 200) ∧ (-1 ≤ (S.1 39).toInt ∧ (S.1 39).toInt ≤ 400) ∧ (S.1 36 = 0 ∨ S.1 36 = 1) ∧ (∀ p, p < 8 → S.2 37 p = 0 ∨ S.2 37 p = 1)
def HI (N : Int) (S : HS) : Prop := HC N S ∧ hG S ∧ hZ S
theorem HI.up {N M : Int} {S : HS} (h : HI N S) (q : N ≤ M) : HI M S := ⟨h.1.up q, h.2⟩
/-- what an act leaves -/
def DO (N : Int) (S r : HS) : Prop := HI N r ∧ r.1 7 = S.1 7 ∧ (r.1 8 = S.1 8 ∨ r.1 8 = S.1 8 + 1)
theorem hG.mono {S S' : HS} (h : hG S) (e : S'.2 34 = S.2 34) (a : wP S' → wP S) (b : wD S' → wD S) : hG S' := by
  unfold hG
  rw [e]
  exact ⟨fun q => h.1 (q.elim (fun q => Or.inl (a q)) (fun q => Or.inr (b q))), fun q => h.2 ⟨a q.1, b q.2⟩⟩
theorem HI.ra {N : Int} {S : HS} (h : HI N S) : RA S := by
  have a := h.1.1 0 (by omega)
  have b := h.1.1 1 (by omega)
  refine ⟨h.2.2.1, ⟨a.1, a.2.1⟩, ⟨b.1, b.2.1⟩, fun i q => ?_, fun i q => ?_⟩
  · have v := h.1.2.1 0 i ⟨by omega, q⟩
    exact ⟨v.1, v.2.1⟩
  · have v := h.1.2.1 1 i ⟨by omega, q⟩
    exact ⟨v.1, v.2.1⟩
theorem HI.rk {N : Int} {S : HS} (h : HI N S) : RK S := fun q => h.1.2.2.2.1 0 ⟨by omega, by show ((0 : Nat) : Int) < (S.1 6).toInt; omega⟩ True.intro
/-! ===== the top goes ===== -/
theorem goes_e (S : HS) : (f_X11_goes S).2 = sI (sA S 13 (S.2 31 (S.1 6 - 1).toNatClampNeg).toNatClampNeg 0) 6 (S.1 6 - 1) := rfl
theorem topN {S : HS} (hp : 1 ≤ (S.1 6).toInt) : ((S.1 6 - 1).toInt = (S.1 6).toInt - 1) ∧ (((S.1 6 - 1).toNatClampNeg : Int) = (S.1 6).toInt - 1) := by
  have e := iSub (x := S.1 6) (y := 1) (by rw [i1]; omega) (by rw [i1]; have := Int32.toInt_lt (S.1 6); omega)
  rw [i1] at e
  exact ⟨e, by rw [iNat (by omega), e]⟩
theorem goes_c {N : Int} {S : HS} (h : HC N S) (hp : 1 ≤ (S.1 6).toInt) : HC N (f_X11_goes S).2 := by
  have e := topN hp
  rw [goes_e]
  have l0 : hL S 0 (S.1 6 - 1).toNatClampNeg := ⟨by omega, by show _ < (S.1 6).toInt; omega⟩
  refine h.pop 0 rfl ⟨rfl, rfl, rfl, rfl, rfl⟩ rfl ?_ ?_ ?_ ?_ ?_ ?_
  · show 0 ≤ (S.1 6 - 1).toInt ∧ (S.1 6 - 1).toInt ≤ (S.1 6).toInt
    omega
  · intro g q z
    rcases g with _ | _ | p
    · exact absurd rfl z
    · rfl
    · rfl
  · intro g i a
    rcases g with _ | _ | p
    · rfl
    · rfl
    · rfl
  · intro g q
    rcases g with _ | _ | p
    · exact Iff.rfl
    · exact Iff.rfl
    · exact Iff.rfl
  · intro i a b
    have b2 : ¬ ((i : Int) < (S.1 6 - 1).toInt) := fun c => b ⟨by omega, c⟩
    have a2 : (i : Int) < (S.1 6).toInt := a.2
    have ei : i = (S.1 6 - 1).toNatClampNeg := by omega
    subst ei
    exact upd_eq
  · intro m q z
    refine upd_ne (fun y => z _ l0 (fun c => ?_) ?_)
    · have c2 : (((S.1 6 - 1).toNatClampNeg : Nat) : Int) < (S.1 6 - 1).toInt := c.2
      omega
    · rw [y]
      rfl
theorem goes_f {S : HS} (h : hG S) (hp : 1 ≤ (S.1 6).toInt) : hG (f_X11_goes S).2 := by
  have e := topN hp
  rw [goes_e]
  refine h.mono rfl (fun ⟨i, a, b⟩ => ⟨i, ⟨a.1, ?_⟩, b⟩) (fun q => q)
  have a2 : (i : Int) < (S.1 6 - 1).toInt := a.2
  show (i : Int) < (S.1 6).toInt
  omega
theorem goes_i {N : Int} {S : HS} (h : HI N S) (hp : 1 ≤ (S.1 6).toInt) : HI N (f_X11_goes S).2 := ⟨goes_c h.1 hp, goes_f h.2.1 hp, h.2.2⟩
/-! ===== the draft is dropped ===== -/
theorem dropDraft_l : ∀ (n : Nat) (S : HS) (x : Int32), 0 ≤ x.toInt → x.toInt ≤ (S.1 35).toInt → (S.1 35).toInt ≤ 9 → (S.1 35).toInt - x.toInt < n →
    ∃ u, (lp_X11_dropDraft_2 n S x).2 = sI (sR S 13 u) 35 0 ∧ (∀ i : Nat, x.toInt ≤ i → (i : Int) < (S.1 35).toInt → u (S.2 32 i).toNatClampNeg = 0) ∧ (∀ m, (∀ i : Nat, x.toInt ≤ i → (i : Int) < (S.1 35).toInt → (S.2 32 i).toNatClampNeg ≠ m) → u m = S.2 13 m) ∧ (∀ m, S.2 13 m = 0 → u m = 0) := by
  intro n
  induction n with
  | zero => intro S x h1 h2 h9 h3; omega
  | succ n ih =>
    intro S x h1 h2 h9 h3
    rw [lp_X11_dropDraft_2]
    unfold st_X11_dropDraft_2
    by_cases c : S.1 35 ≤ x
    · rw [if_pos c]
      have c := iLe.mp c
      exact ⟨S.2 13, by rw [sR_id], fun i a b => by omega, fun m _ => rfl, fun m z => z⟩
    · rw [if_neg c]
      have c := mt iLe.mpr c
      have e := iAdd (x := x) (y := 1) (by rw [i1]; omega) (by rw [i1]; omega)
      rw [i1] at e
      have k := iNat h1
      obtain ⟨u, q1, q2, q3, q4⟩ := ih (sA S 13 (S.2 32 x.toNatClampNeg).toNatClampNeg 0) (x + 1) (by omega) (by show _ ≤ (S.1 35).toInt; omega) h9 (by show (S.1 35).toInt - _ < _; omega)
      refine ⟨u, ?_, fun i a b => ?_, fun m z => ?_, fun m z => ?_⟩
      · rw [sR_sA] at q1
        exact q1
      · by_cases y : i = x.toNatClampNeg
        · subst y
          exact q4 _ upd_eq
        · exact q2 i (by omega) b
      · rw [q3 m (fun i a b => z i (by omega) b)]
        exact upd_ne (fun y => z x.toNatClampNeg (by omega) (by omega) y.symm)
      · refine q4 m ?_
        show upd (S.2 13) (S.2 32 x.toNatClampNeg).toNatClampNeg 0 m = 0
        unfold upd
        split
        · rfl
        · exact z
theorem dropDraft_e {N : Int} {S : HS} (h : HC N S) : ∃ u, (f_X11_dropDraft S).2 = sI (sR S 13 u) 35 0 ∧ (∀ i, hL S 1 i → u (hM S 1 i) = 0) ∧ (∀ m, (∀ i, hL S 1 i → hM S 1 i ≠ m) → u m = S.2 13 m) := by
  have a := h.1 1 (by omega)
  have a1 : 0 ≤ (S.1 35).toInt := a.1
  have a2 : (S.1 35).toInt ≤ 9 := a.2.1
  obtain ⟨u, q1, q2, q3, q4⟩ := dropDraft_l 100000 S 0 (by rw [i0]; omega) (by rw [i0]; omega) a2 (by rw [i0]; omega)
  rw [i0] at q2 q3
  exact ⟨u, q1, fun i b => q2 i (by omega) b.2, fun m z => q3 m (fun i _ c => z i ⟨by omega, c⟩)⟩
theorem dropDraft_i {N : Int} {S : HS} (h : HI N S) : HI N (f_X11_dropDraft S).2 ∧ ((f_X11_dropDraft S).2.1 35 = 0) ∧ (f_X11_dropDraft S).2.1 6 = S.1 6 ∧ (f_X11_dropDraft S).2.1 7 = S.1 7 ∧ (f_X11_dropDraft S).2.1 8 = S.1 8 := by
  obtain ⟨u, q1, q2, q3⟩ := dropDraft_e h.1
  rw [q1]
  refine ⟨⟨h.1.pop 1 rfl ⟨rfl, rfl, rfl, rfl, rfl⟩ rfl ?_ ?_ ?_ ?_ ?_ ?_, h.2.1.mono rfl (fun q => q) ?_, h.2.2⟩, rfl, rfl, rfl, rfl⟩
  · have a := h.1.1 1 (by omega)
    exact ⟨by show (0 : Int) ≤ (0 : Int32).toInt; rw [i0]; omega, by show (0 : Int32).toInt ≤ _; rw [i0]; exact a.1⟩
  · intro g q z
    rcases g with _ | _ | p
    · rfl
    · exact absurd rfl z
    · rfl
  · intro g i a
    rcases g with _ | _ | p
    · rfl
    · rfl
    · rfl
  · intro g q
    rcases g with _ | _ | p
    · exact Iff.rfl
    · exact Iff.rfl
    · exact Iff.rfl
  · intro i a b
    exact q2 i a
  · intro m q z
    refine q3 m (fun i a => z i a (fun c => ?_))
    have c2 : (i : Int) < (0 : Int32).toInt := c.2
    rw [i0] at c2
    omega
  · intro q
    have c2 : 0 < (0 : Int32).toInt := q.1
    rw [i0] at c2
    omega
end
section
/-! ===== a new slot ===== -/
theorem anew_l : ∀ (n : Nat) (S : HS) (x1 x : Int32), ∃ u, (lp_X11_anew_43 n S x1 x).2 = sR S 29 u := by
  intro n
  induction n with
  | zero => intro S x1 x; exact ⟨S.2 29, by rw [sR_id]; rfl⟩
  | succ n ih =>
    intro S x1 x
    rw [lp_X11_anew_43]
    unfold st_X11_anew_43
    by_cases c : 200 ≤ x
    · rw [if_pos c]
      exact ⟨S.2 29, by rw [sR_id]⟩
    · rw [if_neg c]
      obtain ⟨u, q⟩ := ih (sA S 29 ((200 * x1) + x).toNatClampNeg (vp_nar .byte 2)) x1 (x + 1)
      rw [sR_sA] at q
      exact ⟨u, q⟩
/-- another one than before: its born number, nothing done with it -/
def aN (S : HS) (x : Int32) : HS := sA (sA (sA (sA (sI S 30 ((S.1 30) + 1)) 22 x.toNatClampNeg ((S.1 30) + 1)) 17 x.toNatClampNeg 0) 18 x.toNatClampNeg 0) 24 x.toNatClampNeg 0
theorem anew_e (S : HS) (x : Int32) : ∃ u, (f_X11_anew S x).2 = sR (aN S x) 29 u := anew_l 100000 _ x 0
/-- a slot as newSlot leaves it, but for its ballots -/
def nL (S : HS) (k x : Int32) : HS := (sA (sA (sA (sA (sA (sA (sA (sA (sA (sA S 13 x.toNatClampNeg 1) 14 x.toNatClampNeg k) 15 x.toNatClampNeg (-1)) 19 x.toNatClampNeg 0) 20 x.toNatClampNeg 0) 21 x.toNatClampNeg 0) 23 x.toNatClampNeg 0) 25 x.toNatClampNeg 0) 26 x.toNatClampNeg 0) 27 x.toNatClampNeg 0)
theorem newSlot_l (k : Int32) {y : Nat} (hy : y < 90) : ∀ (n : Nat) (S : HS) (x : Int32), S.2 13 y = 0 → 0 ≤ x.toInt → x.toInt ≤ y → 90 - x.toInt < n →
    ∃ z u, (0 ≤ z.toInt ∧ z.toInt < 90) ∧ S.2 13 z.toNatClampNeg = 0 ∧ lp_X11_newSlot_2 n S k x = (z, sA (sR (aN (nL S k z) z) 29 u) 16 z.toNatClampNeg (-1)) := by
  intro n
  induction n with
  | zero => intro S x hf h1 h2 h3; omega
  | succ n ih =>
    intro S x hf h1 h2 h3
    rw [lp_X11_newSlot_2]
    unfold st_X11_newSlot_2
    by_cases z : S.2 13 x.toNatClampNeg = 0
    · rw [if_pos z]
      obtain ⟨u, q⟩ := anew_e (nL S k x) x
      refine ⟨x, u, ⟨h1, by omega⟩, z, ?_⟩
      show b_X11_newSlot_a92 (f_X11_anew (nL S k x) x).2 k x = _
      rw [q]
      rfl
    · rw [if_neg z]
      have e := iAdd (x := x) (y := 1) (by rw [i1]; omega) (by rw [i1]; omega)
      rw [i1] at e
      have d : x.toNatClampNeg ≠ y := fun q => z (by rw [q]; exact hf)
      have k := iNat h1
      exact ih S (x + 1) hf (by omega) (by omega) (by omega)
theorem newSlot_e {S : HS} (k : Int32) (h : ∃ y : Nat, y < 90 ∧ S.2 13 y = 0) :
    ∃ z u, (0 ≤ z.toInt ∧ z.toInt < 90) ∧ S.2 13 z.toNatClampNeg = 0 ∧ f_X11_newSlot S k = (z, sA (sR (aN (nL S k z) z) 29 u) 16 z.toNatClampNeg (-1)) := by
  obtain ⟨y, hy, hf⟩ := h
  exact newSlot_l k hy 100000 S 0 hf (by rw [i0]; omega) (by rw [i0]; omega) (by rw [i0]; omega)
/-! ===== a slot is free: the places are fewer ===== -/
theorem pigeon : ∀ (n : Nat) (f : Nat → Nat), (∀ i, i < n + 1 → f i < n) → ¬ (∀ i j, i < n + 1 → j < n + 1 → f i = f j → i = j) := by
  intro n
  induction n with
  | zero => intro f h; have := h 0 (by omega); omega
  | succ n ih =>
    intro f h inj
    -- the value n is moved to where n + 1 stood
    refine ih (fun i => if f i = n then f (n + 1) else f i) (fun i hi => ?_) (fun i j hi hj e => ?_)
    · by_cases z : f i = n
      · rw [if_pos z]
        have a := h (n + 1) (by omega)
        have b : f (n + 1) ≠ n := fun y => by
          have := inj i (n + 1) (by omega) (by omega) (z.trans y.symm)
          omega
        omega
      · rw [if_neg z]
        have := h i (by omega)
        omega
    · by_cases z : f i = n
      · by_cases y : f j = n
        · exact inj i j (by omega) (by omega) (z.trans y.symm)
        · rw [if_pos z, if_neg y] at e
          have := inj (n + 1) j (by omega) (by omega) e
          omega
      · by_cases y : f j = n
        · rw [if_neg z, if_pos y] at e
          have := inj i (n + 1) (by omega) (by omega) e
          omega
        · rw [if_neg z, if_neg y] at e
          exact inj i j (by omega) (by omega) e
theorem slot_free {N : Int} {S : HS} (h : HC N S) (g0 : Nat) (hg : g0 < 10) (q : hN S g0 ≤ 8) : ∃ y : Nat, y < 90 ∧ S.2 13 y = 0 := by
  refine Classical.byContradiction (fun z => ?_)
  have u : ∀ m, m < 90 → S.2 13 m ≠ 0 := fun m a b => z ⟨m, a, b⟩
  -- every slot has a place, coded below 89
  have ex : ∀ m, ∃ c, m < 90 → c < 89 ∧ ∃ g i, hL S g i ∧ hM S g i = m ∧ ((9 * g + i ≠ 9 * g0 + 8) ∧ c = if 9 * g + i = 89 then 9 * g0 + 8 else 9 * g + i) := fun m => by
    by_cases a : m < 90
    · obtain ⟨g, i, b, e⟩ := h.2.2.1 m a (u m a)
      have b2 := b.2
      have b1 := b.1
      have n := h.1 g b1
      have ne : 9 * g + i ≠ 9 * g0 + 8 := fun y => by
        have : g = g0 := by omega
        subst this
        omega
      refine ⟨_, fun _ => ⟨?_, g, i, b, e, ne, rfl⟩⟩
      split
      · omega
      · omega
    · exact ⟨0, fun b => absurd b a⟩
  obtain ⟨f, hf⟩ := Classical.axiomOfChoice ex
  refine pigeon 89 f (fun i hi => (hf i (by omega)).1) (fun i j hi hj e => ?_)
  obtain ⟨-, g, a, l, m, n, c⟩ := hf i (by omega)
  obtain ⟨-, g', a', l', m', n', c'⟩ := hf j (by omega)
  have l2 := l.2
  have l2' := l'.2
  have k := h.1 g l.1
  have k' := h.1 g' l'.1
  rw [c, c'] at e
  have w : 9 * g + a = 9 * g' + a' := by
    split at e <;> split at e <;> omega
  have wg : g = g' := by omega
  have wa : a = a' := by omega
  rw [← m, ← m', wg, wa]
end
section
/-! ===== the acts, one by one: safe, and the invariant is kept ===== -/
theorem DO.of {N : Int} {S r : HS} (h : HI N r) (a : r.1 7 = S.1 7) (b : r.1 8 = S.1 8) : DO N S r := ⟨h, a, Or.inl b⟩
theorem d_17 {N : Int} {S : HS} (h : HI N S) (hp : 1 ≤ (S.1 6).toInt) {x2 : Int32} (hx : vp_in x2 200) (x1 x3 x4 x5 : Int32) :
    (p_X11_top S ∧ q_X11_does_a413 (f_X11_top S).2 x1 x2 x3 x4 x5 (f_X11_top S).1 200) ∧ DO (N + 1) S (b_X11_does_a413 (f_X11_top S).2 x1 x2 x3 x4 x5 (f_X11_top S).1 200).2 := by
  have t := top_in h.ra hp
  have x := vp_in_iff.mp hx
  refine ⟨⟨top_p h.ra hp, bal_in t ⟨x.1, by omega⟩, top_p (S := sA S 29 _ _) h.ra hp, voters_p (S := sA S 29 _ _) h.ra t, True.intro⟩, ?_⟩
  have hv' : ∀ (T : HS) (y : Int32), (f_X11_voters T y).2 = T := by
    have key : ∀ (n : Nat) (S : HS) (x1 x2 x3 : Int32), (lp_X11_voters_4 n S x1 x2 x3).2 = S := by
      intro n
      induction n with
      | zero => intro S x1 x2 x3; rfl
      | succ n ih =>
        intro S x1 x2 x3
        rw [lp_X11_voters_4]
        unfold st_X11_voters_4
        by_cases c : S.1 0 ≤ x3
        · rw [if_pos c]
        · rw [if_neg c]
          by_cases z : 2 ≤ (S.2 29 ((200 * x1) + x3).toNatClampNeg)
          · rw [if_pos z]
            exact ih _ _ _ _
          · rw [if_neg z]
            exact ih _ _ _ _
    exact fun T y => key 100000 T y 0 0
  show DO (N + 1) S (f_X11_voters (sA S 29 _ _) _).2
  rw [hv']
  exact DO.of (h.up (by omega)) rfl rfl
theorem d_10 {N : Int} {S : HS} (h : HI N S) (hN0 : 0 ≤ N) (hN6 : N ≤ 1000000) {x2 : Int32} (hx : 1 ≤ x2.toInt ∧ x2.toInt ≤ 8) (x1 x3 x4 x5 : Int32) :
    (p_X11_dropDraft S ∧ q_X11_does_a287 (f_X11_dropDraft S).2 x1 x2 x3 x4 x5) ∧ DO (N + 1) S (b_X11_does_a287 (f_X11_dropDraft S).2 x1 x2 x3 x4 x5).2 := by
  obtain ⟨d1, d2, d3, d4, d5⟩ := dropDraft_i h
  generalize (f_X11_dropDraft S).2 = D at d1 d2 d3 d4 d5
  have n1 : hN D 1 = 0 := by show (D.1 35).toInt = 0; rw [d2, i0]
  have fr := slot_free d1.1 1 (by omega) (by omega)
  obtain ⟨z, u, z1, z2, z3⟩ := newSlot_e x2 fr
  have zn := iNat z1.1
  refine ⟨⟨dropDraft_p h.ra, newSlot_p x2 fr, vIn (by rw [i0]; omega) (by rw [i0]; omega), True.intro⟩, ?_⟩
  unfold b_X11_does_a287
  rw [z3]
  refine ⟨⟨?_, ?_, ?_⟩, d4, Or.inl d5⟩
  · refine d1.1.push 1 0 z.toNatClampNeg hN0 hN6 (by omega) n1.symm z2 rfl upd_eq (fun x a b => ⟨upd_ne b, upd_ne b, upd_ne b, upd_ne b, upd_ne b, upd_ne b, upd_ne b⟩) ?_ ?_ ?_ (by omega) ?_ ?_ ?_ (by omega) (fun _ => rfl) ?_ (fun q => absurd q (by omega)) (fun q => absurd q (by omega))
    · show upd (D.2 13) z.toNatClampNeg 1 z.toNatClampNeg ≠ 0
      rw [upd_eq]
      decide
    · refine ⟨?_, ?_, ?_⟩
      · show 1 ≤ (upd (D.2 14) z.toNatClampNeg x2 z.toNatClampNeg).toInt ∧ (upd (D.2 14) z.toNatClampNeg x2 z.toNatClampNeg).toInt ≤ 9
        rw [upd_eq]
        omega
      · show 0 ≤ (upd (D.2 19) z.toNatClampNeg 0 z.toNatClampNeg).toInt ∧ (upd (D.2 19) z.toNatClampNeg 0 z.toNatClampNeg).toInt ≤ 400
        rw [upd_eq, i0]
        omega
      · show 0 ≤ (upd (D.2 20) z.toNatClampNeg 0 z.toNatClampNeg).toInt ∧ (upd (D.2 20) z.toNatClampNeg 0 z.toNatClampNeg).toInt ≤ (upd (D.2 21) z.toNatClampNeg 0 z.toNatClampNeg).toInt ∧ (upd (D.2 21) z.toNatClampNeg 0 z.toNatClampNeg).toInt ≤ 400 * (N + 1 + 1)
        rw [upd_eq, upd_eq, i0]
        omega
    · show (1 : Int32).toInt = _
      rw [i1]
      rfl
    · intro g q c
      rcases g with _ | _ | p
      · exact ⟨rfl, Iff.rfl⟩
      · exact absurd rfl c
      · exact ⟨rfl, Iff.rfl⟩
    · intro g i a
      rcases g with _ | _ | p
      · rfl
      · have a2 : (i : Int) < hN D 1 := a.2
        omega
      · rfl
    · show (upd (D.2 32) 0 z 0).toInt = (z.toNatClampNeg : Int)
      rw [upd_eq, zn]
    · intro _ t
      exact absurd rfl t
  · refine d1.2.1.mono rfl ?_ (fun q => absurd rfl q.2)
    rintro ⟨i, a, b⟩
    refine ⟨i, a, ?_⟩
    have l : hL D 0 i := a
    have v := (d1.1.2.1 0 i l).2.2
    have ne : hM D 0 i ≠ z.toNatClampNeg := fun q => v (by rw [q]; exact z2)
    have e : upd (D.2 14) z.toNatClampNeg x2 (hM D 0 i) = D.2 14 (hM D 0 i) := upd_ne ne
    rw [← e]
    exact b
  · exact ⟨d1.2.2.1, d1.2.2.2.1, Or.inl rfl, d1.2.2.2.2.2⟩
theorem d_19 {N : Int} {S : HS} (h : HI N S) (hN0 : 0 ≤ N) (hN6 : N ≤ 1000000) (hp : 1 ≤ (S.1 6).toInt) (h9 : (S.1 6).toInt ≤ 8) (x1 x2 x3 x4 x5 : Int32) :
    (p_X11_newSlot S 9 ∧ q_X11_does_a443 (f_X11_newSlot S 9).2 x1 x2 x3 x4 x5 (f_X11_newSlot S 9).1) ∧ DO (N + 1) S (b_X11_does_a443 (f_X11_newSlot S 9).2 x1 x2 x3 x4 x5 (f_X11_newSlot S 9).1).2 := by
  have fr := slot_free h.1 0 (by omega) (by exact h9)
  obtain ⟨z, u, z1, z2, z3⟩ := newSlot_e 9 fr
  have zn := iNat z1.1
  have pn := iNat (x := S.1 6) (by omega)
  have e9 : (9 : Int32).toInt = 9 := by decide
  refine ⟨⟨newSlot_p 9 fr, ?_⟩, ?_⟩
  · rw [z3]
    exact ⟨vIn z1.1 z1.2, vIn (by show 0 ≤ (S.1 6).toInt; omega) (by show (S.1 6).toInt < _; omega), True.intro⟩
  rw [z3]
  refine ⟨⟨?_, ?_, ?_⟩, rfl, Or.inl rfl⟩
  · refine h.1.push 0 (S.1 6).toNatClampNeg z.toNatClampNeg hN0 hN6 (by omega) (by rw [pn]; rfl) z2 rfl upd_eq (fun x a b => ⟨upd_ne b, upd_ne b, upd_ne b, upd_ne b, upd_ne b, upd_ne b, upd_ne b⟩) ?_ ?_ ?_ (by omega) ?_ ?_ ?_ (by omega) (fun t => absurd True.intro t) (fun q => by omega) (fun _ _ => True.intro) (fun _ => upd_eq)
    · show upd (S.2 13) z.toNatClampNeg 1 z.toNatClampNeg ≠ 0
      rw [upd_eq]
      decide
    · refine ⟨?_, ?_, ?_⟩
      · show 1 ≤ (upd (S.2 14) z.toNatClampNeg 9 z.toNatClampNeg).toInt ∧ (upd (S.2 14) z.toNatClampNeg 9 z.toNatClampNeg).toInt ≤ 9
        rw [upd_eq, e9]
        omega
      · show 0 ≤ (upd (S.2 19) z.toNatClampNeg 0 z.toNatClampNeg).toInt ∧ (upd (S.2 19) z.toNatClampNeg 0 z.toNatClampNeg).toInt ≤ 400
        rw [upd_eq, i0]
        omega
      · show 0 ≤ (upd (S.2 20) z.toNatClampNeg 0 z.toNatClampNeg).toInt ∧ (upd (S.2 20) z.toNatClampNeg 0 z.toNatClampNeg).toInt ≤ (upd (S.2 21) z.toNatClampNeg 0 z.toNatClampNeg).toInt ∧ (upd (S.2 21) z.toNatClampNeg 0 z.toNatClampNeg).toInt ≤ 400 * (N + 1 + 1)
        rw [upd_eq, upd_eq, i0]
        omega
    · show (S.1 6 + 1).toInt = _
      rw [iAdd (by rw [i1]; omega) (by rw [i1]; omega), i1]
      omega
    · intro g q c
      rcases g with _ | _ | p
      · exact absurd rfl c
      · exact ⟨rfl, Iff.rfl⟩
      · exact ⟨rfl, Iff.rfl⟩
    · intro g i a
      rcases g with _ | _ | p
      · have a2 : (i : Int) < (S.1 6).toInt := a.2
        show upd (S.2 31) (S.1 6).toNatClampNeg z i = S.2 31 i
        exact upd_ne (by omega)
      · rfl
      · rfl
    · show (upd (S.2 31) (S.1 6).toNatClampNeg z (S.1 6).toNatClampNeg).toInt = (z.toNatClampNeg : Int)
      rw [upd_eq, zn]
  · refine h.2.1.mono rfl ?_ (fun q => q)
    rintro ⟨i, a, b⟩
    have a2 : (i : Int) < (S.1 6 + 1).toInt := a.2
    rw [iAdd (by rw [i1]; omega) (by rw [i1]; omega), i1] at a2
    by_cases c : i = (S.1 6).toNatClampNeg
    · subst c
      have m : (upd (S.2 31) (S.1 6).toNatClampNeg z (S.1 6).toNatClampNeg).toNatClampNeg = z.toNatClampNeg := by rw [upd_eq]
      have b' : upd (S.2 14) z.toNatClampNeg 9 (upd (S.2 31) (S.1 6).toNatClampNeg z (S.1 6).toNatClampNeg).toNatClampNeg = 4 ∨ upd (S.2 14) z.toNatClampNeg 9 (upd (S.2 31) (S.1 6).toNatClampNeg z (S.1 6).toNatClampNeg).toNatClampNeg = 5 ∨ upd (S.2 14) z.toNatClampNeg 9 (upd (S.2 31) (S.1 6).toNatClampNeg z (S.1 6).toNatClampNeg).toNatClampNeg = 7 := b
      rw [m, upd_eq] at b'
      exact absurd b' (by decide)
    · have l : hL S 0 i := ⟨by omega, by show (i : Int) < (S.1 6).toInt; omega⟩
      refine ⟨i, l, ?_⟩
      have v := (h.1.2.1 0 i l).2.2
      have ne : hM S 0 i ≠ z.toNatClampNeg := fun q => v (by rw [q]; exact z2)
      have e : upd (S.2 14) z.toNatClampNeg 9 (hM S 0 i) = S.2 14 (hM S 0 i) := upd_ne ne
      have m : (upd (S.2 31) (S.1 6).toNatClampNeg z i).toNatClampNeg = hM S 0 i := by rw [upd_ne c]; rfl
      rw [← e, ← m]
      exact b
  · exact h.2.2
/-- adjourning: every one goes, and the draft -/
theorem d_22 {N : Int} (x1 x2 x3 x4 x5 x6 : Int32) : ∀ (n : Nat) (S : HS), HI N S → (S.1 6).toInt < n → lq_X11_does_491 n S x1 x2 x3 x4 x5 x6 ∧ DO (N + 1) S (lp_X11_does_491 n S x1 x2 x3 x4 x5 x6).2 := by
  intro n
  induction n with
  | zero => intro S h q; have := h.1.1 0 (by omega); have c : hN S 0 = (S.1 6).toInt := rfl; omega
  | succ n ih =>
    intro S h q
    rw [lq_X11_does_491, lp_X11_does_491]
    unfold ps_X11_does_491 st_X11_does_491
    by_cases c : S.1 6 ≤ 0
    · rw [if_pos c, if_pos c]
      refine ⟨⟨⟨dropDraft_p h.ra, True.intro⟩, True.intro⟩, ?_⟩
      obtain ⟨d1, d2, d3, d4, d5⟩ := dropDraft_i h
      exact ⟨d1.up (by omega), d4, Or.inl d5⟩
    · rw [if_neg c, if_neg c]
      have c := mt iLe.mpr c
      rw [i0] at c
      have hp : 1 ≤ (S.1 6).toInt := by omega
      have e := topN hp
      have g := ih (f_X11_goes S).2 (goes_i h hp) (by rw [goes_e]; show (S.1 6 - 1).toInt < _; omega)
      exact ⟨⟨⟨goes_p h.ra hp, True.intro⟩, g.1⟩, g.2⟩
end
section
/-! ===== the draft's span and words ===== -/
theorem one_n {N : Int} {S : HS} (h : HI N S) (hd : 1 ≤ (S.1 35).toInt) (ht : S.1 36 = 0) : hN S 1 = 1 := by
  have a := (h.1.1 1 (by omega)).2.2 (fun q => q ht)
  have c : hN S 1 = (S.1 35).toInt := rfl
  omega
theorem zn0 : (0 : Int32).toNatClampNeg = 0 := by decide
theorem d_11 {N : Int} {S : HS} (h : HI N S) (hN0 : 0 ≤ N) (hd : 1 ≤ (S.1 35).toInt) (ht : S.1 36 = 0) {x2 x3 : Int32} (h2 : 0 ≤ x2.toInt) (h3 : x2.toInt ≤ x3.toInt) (h4 : x3.toInt ≤ 400) :
    ((vp_in 0 9) ∧ (vp_in (S.2 32 (0 : Int32).toNatClampNeg) 90) ∧ (vp_in 0 9) ∧ (vp_in ((sA S 20 (S.2 32 (0 : Int32).toNatClampNeg).toNatClampNeg x2).2 32 (0 : Int32).toNatClampNeg) 90) ∧ True) ∧
    DO (N + 1) S (sA (sA S 20 (S.2 32 (0 : Int32).toNatClampNeg).toNatClampNeg x2) 21 ((sA S 20 (S.2 32 (0 : Int32).toNatClampNeg).toNatClampNeg x2).2 32 (0 : Int32).toNatClampNeg).toNatClampNeg x3) := by
  have d := draft0_in h.ra hd
  have v := vIn (n := 90) d.1 d.2
  have z : vp_in 0 9 := vIn (by rw [i0]; omega) (by rw [i0]; omega)
  refine ⟨⟨z, v, z, v, True.intro⟩, ⟨?_, h.2.1, h.2.2⟩, rfl, Or.inl rfl⟩
  have l : hL S 1 0 := ⟨by omega, by have := one_n h hd ht; omega⟩
  have w := h.1.2.2.2.2.1 1 0 l
  refine h.1.slot 1 (S.2 32 (0 : Int32).toNatClampNeg).toNatClampNeg (by omega) (by omega) (one_n h hd ht) (by rw [zn0]; rfl) rfl rfl rfl rfl (fun x a b => ⟨rfl, upd_ne b, upd_ne b, rfl⟩) ⟨w.1, w.2.1, ?_⟩ (fun g q => ?_) (fun g i a => ?_)
  · show 0 ≤ (upd (S.2 20) (S.2 32 (0 : Int32).toNatClampNeg).toNatClampNeg x2 (S.2 32 (0 : Int32).toNatClampNeg).toNatClampNeg).toInt ∧ (upd (S.2 20) (S.2 32 (0 : Int32).toNatClampNeg).toNatClampNeg x2 (S.2 32 (0 : Int32).toNatClampNeg).toNatClampNeg).toInt ≤ (upd (S.2 21) (S.2 32 (0 : Int32).toNatClampNeg).toNatClampNeg x3 (S.2 32 (0 : Int32).toNatClampNeg).toNatClampNeg).toInt ∧ (upd (S.2 21) (S.2 32 (0 : Int32).toNatClampNeg).toNatClampNeg x3 (S.2 32 (0 : Int32).toNatClampNeg).toNatClampNeg).toInt ≤ 400 * (N + 1 + 1)
    rw [upd_eq, upd_eq]
    omega
  · rcases g with _ | _ | p
    · exact ⟨rfl, Iff.rfl⟩
    · exact ⟨rfl, Iff.rfl⟩
    · exact ⟨rfl, Iff.rfl⟩
  · rcases g with _ | _ | p
    · rfl
    · rfl
    · rfl
/-- how many words a number adds -/
def cW (x : Int32) : Int := if x = 0 then 0 else 1
theorem addWord_i {N : Int} {S : HS} (h : HI N S) (hd : 1 ≤ (S.1 35).toInt) (ht : S.1 36 = 0) (x : Int32) (q : (S.2 19 (hM S 1 0)).toInt + cW x ≤ 400) :
    p_X11_addWord S x ∧ HI N (f_X11_addWord S x).2 ∧ (f_X11_addWord S x).2.1 = S.1 ∧ hM (f_X11_addWord S x).2 1 0 = hM S 1 0 ∧ ((f_X11_addWord S x).2.2 19 (hM S 1 0)).toInt = (S.2 19 (hM S 1 0)).toInt + cW x := by
  have l : hL S 1 0 := ⟨by omega, by have := one_n h hd ht; omega⟩
  have w := h.1.2.2.2.2.1 1 0 l
  have m0 : hM S 1 0 = (S.2 32 (0 : Int32).toNatClampNeg).toNatClampNeg := by rw [zn0]; rfl
  unfold cW at q
  unfold cW
  by_cases z : x = 0
  · rw [if_pos z] at q ⊢
    unfold p_X11_addWord f_X11_addWord
    rw [if_pos z, if_pos z]
    exact ⟨True.intro, h, rfl, rfl, by show (S.2 19 (hM S 1 0)).toInt = _; omega⟩
  rw [if_neg z] at q ⊢
  refine ⟨addWord_p h.ra hd x ?_, ?_⟩
  · rw [← m0]
    have := w.2.1
    omega
  have e := iAdd (x := S.2 19 (hM S 1 0)) (y := 1) (by have := w.2.1; rw [i1]; omega) (by rw [i1]; omega)
  rw [i1] at e
  unfold f_X11_addWord
  rw [if_neg z]
  dsimp only
  rw [← m0]
  have k : (upd (S.2 19) (hM S 1 0) (S.2 19 (hM S 1 0) + 1) (hM S 1 0)).toInt = (S.2 19 (hM S 1 0)).toInt + 1 := by rw [upd_eq, e]
  refine ⟨⟨?_, h.2.1, h.2.2⟩, rfl, rfl, k⟩
  refine h.1.slot 1 (hM S 1 0) (by omega) (by omega) (one_n h hd ht) rfl rfl rfl rfl rfl (fun x a b => ⟨upd_ne b, rfl, rfl, rfl⟩) ⟨w.1, ?_, w.2.2⟩ (fun g q => ?_) (fun g i a => ?_)
  · show 0 ≤ (upd (S.2 19) (hM S 1 0) (S.2 19 (hM S 1 0) + 1) (hM S 1 0)).toInt ∧ (upd (S.2 19) (hM S 1 0) (S.2 19 (hM S 1 0) + 1) (hM S 1 0)).toInt ≤ 400
    rw [k]
    have := w.2.1
    omega
  · rcases g with _ | _ | p
    · exact ⟨rfl, Iff.rfl⟩
    · exact ⟨rfl, Iff.rfl⟩
    · exact ⟨rfl, Iff.rfl⟩
  · rcases g with _ | _ | p
    · rfl
    · rfl
    · rfl
theorem d_12 {N : Int} {S : HS} (h : HI N S) (hd : 1 ≤ (S.1 35).toInt) (ht : S.1 36 = 0) (x1 x2 x3 x4 x5 : Int32) (q : (S.2 19 (hM S 1 0)).toInt + cW x2 + cW x3 + cW x4 + cW x5 ≤ 400) :
    (p_X11_addWord S x2 ∧ q_X11_does_a343 (f_X11_addWord S x2).2 x1 x2 x3 x4 x5) ∧ DO (N + 1) S (b_X11_does_a343 (f_X11_addWord S x2).2 x1 x2 x3 x4 x5).2 := by
  have cw : ∀ x, 0 ≤ cW x := fun x => by unfold cW; split <;> omega
  have c2 := cw x2
  have c3 := cw x3
  have c4 := cw x4
  have c5 := cw x5
  obtain ⟨a1, a2, a3, a4, a5⟩ := addWord_i h hd ht x2 (by omega)
  unfold q_X11_does_a343 b_X11_does_a343 q_X11_does_a348 b_X11_does_a348 q_X11_does_a354 b_X11_does_a354
  generalize (f_X11_addWord S x2).2 = S1 at a2 a3 a4 a5
  obtain ⟨b1, b2, b3, b4, b5⟩ := addWord_i a2 (by rw [a3]; exact hd) (by rw [a3]; exact ht) x3 (by rw [a4, a5]; omega)
  generalize (f_X11_addWord S1 x3).2 = S2 at b2 b3 b4 b5
  rw [a4, a5] at b5
  rw [a4] at b4
  obtain ⟨c1, c2, c3, c4, c5⟩ := addWord_i b2 (by rw [b3, a3]; exact hd) (by rw [b3, a3]; exact ht) x4 (by rw [b4, b5]; omega)
  generalize (f_X11_addWord S2 x4).2 = S3 at c2 c3 c4 c5
  rw [b4, b5] at c5
  rw [b4] at c4
  obtain ⟨d1, d2, d3, d4, d5⟩ := addWord_i c2 (by rw [c3, b3, a3]; exact hd) (by rw [c3, b3, a3]; exact ht) x5 (by rw [c4, c5]; omega)
  generalize (f_X11_addWord S3 x5).2 = S4 at d2 d3 d4 d5
  have e : S4.1 = S.1 := by rw [d3, c3, b3, a3]
  have dr := draft0_in d2.ra (by rw [e]; exact hd)
  exact ⟨⟨a1, b1, c1, d1, vIn (by rw [i0]; omega) (by rw [i0]; omega), vIn dr.1 dr.2, True.intro⟩, DO.of (d2.up (by omega)) (by show S4.1 7 = _; rw [e]) (by show S4.1 8 = _; rw [e])⟩
/-! ===== laying ===== -/
theorem c9 {x1 x : Int32} (hx : 0 ≤ x1.toInt ∧ x1.toInt ≤ 7) (h1 : 0 ≤ x.toInt) (h2 : x.toInt ≤ 9) : ((9 * x1) + x).toNatClampNeg = 9 * x1.toNatClampNeg + x.toNatClampNeg := by
  have e9 : (9 : Int32).toInt = 9 := by decide
  have m := iMul (x := 9) (y := x1) (n := 9 * x1.toInt) (by rw [e9]) (by omega) (by omega)
  have a := iAdd (x := 9 * x1) (y := x) (by rw [m]; omega) (by rw [m]; omega)
  rw [m] at a
  have b := iNat (x := (9 * x1) + x) (by omega)
  have c := iNat hx.1
  have d := iNat h1
  omega
theorem vbb {x : Int32} (h : x = 0 ∨ x = 1) : vp_nar .boolean x = x := by rcases h with q | q <;> subst q <;> rfl
theorem lay_l {x1 : Int32} (hx : 0 ≤ x1.toInt ∧ x1.toInt ≤ 7) : ∀ (n : Nat) (S : HS) (x2 x : Int32), (S.1 36 = 0 ∨ S.1 36 = 1) → (S.1 35).toInt ≤ 9 → 0 ≤ x.toInt → x.toInt ≤ (S.1 35).toInt → (S.1 35).toInt - x.toInt < n →
    ∃ u, (lp_X11_lay_67 n S x1 x2 x).2 = sI (sA (sA (sR S 33 u) 34 x1.toNatClampNeg (S.1 35)) 37 x1.toNatClampNeg (S.1 36)) 35 0 ∧ (∀ i : Nat, x.toInt ≤ i → (i : Int) < (S.1 35).toInt → u (9 * x1.toNatClampNeg + i) = S.2 32 i) ∧ (∀ j : Nat, (j : Int) < 9 * x1.toInt + x.toInt ∨ 9 * x1.toInt + (S.1 35).toInt ≤ j → u j = S.2 33 j) := by
  intro n
  induction n with
  | zero => intro S x2 x hb h9 h1 h2 h3; omega
  | succ n ih =>
    intro S x2 x hb h9 h1 h2 h3
    rw [lp_X11_lay_67]
    unfold st_X11_lay_67
    by_cases c : S.1 35 ≤ x
    · rw [if_pos c]
      have c := iLe.mp c
      refine ⟨S.2 33, ?_, fun i a b => by omega, fun j _ => rfl⟩
      rw [sR_id, ← vbb hb]
      show sI (sA (sA S 34 x1.toNatClampNeg (S.1 35)) 37 x1.toNatClampNeg (vp_nar .boolean (S.1 36))) 35 0 = _
      rw [vbb hb]
    · rw [if_neg c]
      have c := mt iLe.mpr c
      have e := iAdd (x := x) (y := 1) (by rw [i1]; omega) (by rw [i1]; omega)
      rw [i1] at e
      have k := iNat h1
      have k1 := iNat hx.1
      have cc := c9 hx h1 (by omega)
      obtain ⟨u, q1, q2, q3⟩ := ih (sA S 33 (9 * x1.toNatClampNeg + x.toNatClampNeg) (S.2 32 x.toNatClampNeg)) x2 (x + 1) hb h9 (by omega) (by show _ ≤ (S.1 35).toInt; omega) (by show (S.1 35).toInt - _ < _; omega)
      rw [sR_sA] at q1
      refine ⟨u, ?_, fun i a b => ?_, fun j z => ?_⟩
      · rw [cc]
        exact q1
      · by_cases y : i = x.toNatClampNeg
        · subst y
          rw [q3 (9 * x1.toNatClampNeg + x.toNatClampNeg) (by omega)]
          exact upd_eq
        · exact q2 i (by omega) b
      · rw [q3 j (by have c : (S.1 35).toInt = ((sA S 33 (9 * x1.toNatClampNeg + x.toNatClampNeg) (S.2 32 x.toNatClampNeg)).1 35).toInt := rfl; omega)]
        exact upd_ne (by omega)
/-- the rows of subjects and of what is laid alone are other ones -/
def sL (S : HS) (w w' : Nat → Int32) : HS := sR (sR S 23 w) 25 w'
theorem lay_T {S : HS} (x1 : Int32) : ∃ w w', (f_X11_lay S x1).2 = (lp_X11_lay_67 100000 (sL S w w') x1 (S.2 32 (0 : Int32).toNatClampNeg) 0).2 ∧ ∀ m, m ≠ hM S 1 0 → w m = S.2 23 m := by
  have m0 : hM S 1 0 = (S.2 32 (0 : Int32).toNatClampNeg).toNatClampNeg := by rw [zn0]; rfl
  have a65 : ∃ w w', (b_X11_lay_65 S x1 (S.2 32 (0 : Int32).toNatClampNeg)).2 = (lp_X11_lay_67 100000 (sL S w w') x1 (S.2 32 (0 : Int32).toNatClampNeg) 0).2 ∧ ∀ m, m ≠ hM S 1 0 → w m = S.2 23 m := by
    refine ⟨S.2 23, S.2 25, ?_, fun _ _ => rfl⟩
    have e : sL S (S.2 23) (S.2 25) = S := by
      unfold sL
      rw [sR_id, sR_id]
    rw [e]
    rfl
  have a58 : ∃ w w', (b_X11_lay_58 S x1 (S.2 32 (0 : Int32).toNatClampNeg)).2 = (lp_X11_lay_67 100000 (sL S w w') x1 (S.2 32 (0 : Int32).toNatClampNeg) 0).2 ∧ ∀ m, m ≠ hM S 1 0 → w m = S.2 23 m := by
    refine ⟨S.2 23, upd (S.2 25) (S.2 32 (0 : Int32).toNatClampNeg).toNatClampNeg 1, ?_, fun _ _ => rfl⟩
    have e : sL S (S.2 23) (upd (S.2 25) (S.2 32 (0 : Int32).toNatClampNeg).toNatClampNeg 1) = sA S 25 (S.2 32 (0 : Int32).toNatClampNeg).toNatClampNeg 1 := by
      unfold sL
      rw [sR_id]
      rfl
    rw [e]
    rfl
  have a43 : ∃ w w', (b_X11_lay_43 S x1 (S.2 32 (0 : Int32).toNatClampNeg)).2 = (lp_X11_lay_67 100000 (sL S w w') x1 (S.2 32 (0 : Int32).toNatClampNeg) 0).2 ∧ ∀ m, m ≠ hM S 1 0 → w m = S.2 23 m := by
    refine ⟨upd (S.2 23) (S.2 32 (0 : Int32).toNatClampNeg).toNatClampNeg (S.2 22 (f_X11_top S).1.toNatClampNeg), upd (S.2 25) (S.2 32 (0 : Int32).toNatClampNeg).toNatClampNeg 1, rfl, fun m q => upd_ne (by rw [← m0]; exact q)⟩
  unfold f_X11_lay
  by_cases z1 : S.1 36 = 0
  · rw [if_pos z1]
    by_cases z2 : S.2 25 (S.2 32 (0 : Int32).toNatClampNeg).toNatClampNeg = 0
    · rw [if_pos z2]
      by_cases z3 : S.2 14 (S.2 32 (0 : Int32).toNatClampNeg).toNatClampNeg = 2
      · rw [if_pos z3]
        exact a43
      · rw [if_neg z3]
        by_cases z4 : S.2 14 (S.2 32 (0 : Int32).toNatClampNeg).toNatClampNeg = 3
        · rw [if_pos z4]
          exact a43
        · rw [if_neg z4]
          exact a58
    · rw [if_neg z2]
      exact a58
  · rw [if_neg z1]
    exact a65
theorem d_13 {N : Int} {S : HS} (h : HI N S) (hd : 1 ≤ (S.1 35).toInt) {x1 : Int32} (hx : 0 ≤ x1.toInt ∧ x1.toInt ≤ 7) (hl : (S.2 34 x1.toNatClampNeg).toInt ≤ 0) (hw : wP S → ∃ q, q < 8 ∧ q ≠ x1.toNatClampNeg ∧ S.2 34 q = 0) : DO (N + 1) S (f_X11_lay S x1).2 := by
  obtain ⟨w, w', e, ww⟩ := lay_T (S := S) x1
  have n1 := h.1.1 1 (by omega)
  have e1 : hN S 1 = (S.1 35).toInt := rfl
  have k1 := iNat hx.1
  obtain ⟨u, q1, q2, q3⟩ := lay_l hx 100000 (sL S w w') (S.2 32 (0 : Int32).toNatClampNeg) 0 h.2.2.2.2.1 (by show (S.1 35).toInt ≤ 9; omega) (by rw [i0]; omega) (by rw [i0]; show 0 ≤ (S.1 35).toInt; omega) (by rw [i0]; show (S.1 35).toInt - 0 < _; omega)
  have q1 : (lp_X11_lay_67 100000 (sL S w w') x1 (S.2 32 (0 : Int32).toNatClampNeg) 0).2 = sI (sA (sA (sR (sL S w w') 33 u) 34 x1.toNatClampNeg (S.1 35)) 37 x1.toNatClampNeg (S.1 36)) 35 0 := q1
  rw [e, q1]
  have q2 : ∀ i : Nat, (0 : Int32).toInt ≤ i → (i : Int) < (S.1 35).toInt → u (9 * x1.toNatClampNeg + i) = S.2 32 i := q2
  have q3 : ∀ j : Nat, (j : Int) < 9 * x1.toInt + (0 : Int32).toInt ∨ 9 * x1.toInt + (S.1 35).toInt ≤ j → u j = S.2 33 j := q3
  rw [i0] at q2 q3
  have nd : hN S (x1.toNatClampNeg + 2) = (S.2 34 x1.toNatClampNeg).toInt := rfl
  have nd0 := h.1.1 (x1.toNatClampNeg + 2) (by omega)
  have nd' : hN (sI (sA (sA (sR (sL S w w') 33 u) 34 x1.toNatClampNeg (S.1 35)) 37 x1.toNatClampNeg (S.1 36)) 35 0) (x1.toNatClampNeg + 2) = (S.1 35).toInt := by
    show (upd (S.2 34) x1.toNatClampNeg (S.1 35) x1.toNatClampNeg).toInt = _
    rw [upd_eq]
  have td : hT (sI (sA (sA (sR (sL S w w') 33 u) 34 x1.toNatClampNeg (S.1 35)) 37 x1.toNatClampNeg (S.1 36)) 35 0) (x1.toNatClampNeg + 2) ↔ hT S 1 := by
    show upd (S.2 37) x1.toNatClampNeg (S.1 36) x1.toNatClampNeg ≠ 0 ↔ S.1 36 ≠ 0
    rw [upd_eq]
  refine ⟨⟨?_, ?_, ?_⟩, rfl, Or.inl rfl⟩
  · refine (h.1.up (show N ≤ N + 1 by omega)).xfer 1 (x1.toNatClampNeg + 2) 0 (by omega) (by omega) (by omega) (by omega) rfl ⟨rfl, rfl, rfl, rfl, rfl⟩ rfl ?_ ?_ ?_ ?_ ?_ ?_ (fun i c => absurd c (by omega)) ?_ ?_ (fun c => absurd c (by omega)) (fun c => absurd c (by omega)) (fun c => absurd c (by omega)) (fun c => absurd c (by omega))
    · intro g i a c
      refine ww _ (fun z => ?_)
      have d := h.1.d a (show hL S 1 0 from ⟨by omega, by omega⟩) z
      exact c d.1 d.2
    · exact i0
    · rw [nd', nd, e1]; omega
    · rw [nd']; omega
    · intro t
      rw [nd', ← e1]
      exact n1.2.2 (fun y => t (td.mpr y))
    · intro g q a b
      rcases g with _ | _ | p
      · exact ⟨rfl, Iff.rfl, fun i c => rfl⟩
      · exact absurd rfl a
      · have ne : p ≠ x1.toNatClampNeg := fun y => b (by rw [y])
        have np := h.1.1 (p + 2) q
        refine ⟨?_, ?_, fun i c => ?_⟩
        · show (upd (S.2 34) x1.toNatClampNeg (S.1 35) p).toInt = (S.2 34 p).toInt
          rw [upd_ne ne]
        · show upd (S.2 37) x1.toNatClampNeg (S.1 36) p ≠ 0 ↔ S.2 37 p ≠ 0
          rw [upd_ne ne]
        · have c : (i : Int) < hN S (p + 2) := c
          exact q3 (9 * p + i) (by omega)
    · intro i c
      rw [e1] at c
      rw [Nat.zero_add]
      exact q2 i (by omega) c
    · intro _ c t
      exact h.1.2.2.2.1 1 ⟨by omega, c⟩ (td.mp t)
  · have np : ¬ wD (sI (sA (sA (sR (sL S w w') 33 u) 34 x1.toNatClampNeg (S.1 35)) 37 x1.toNatClampNeg (S.1 36)) 35 0) := fun q => by
      have c : 0 < (0 : Int32).toInt := q.1
      rw [i0] at c
      omega
    refine ⟨fun q => ?_, fun q => absurd q.2 np⟩
    have q := q.resolve_right np
    obtain ⟨p, p1, p2, p3⟩ := hw q
    exact ⟨p, p1, by show upd (S.2 34) x1.toNatClampNeg (S.1 35) p = 0; rw [upd_ne p2]; exact p3⟩
  · refine ⟨h.2.2.1, h.2.2.2.1, h.2.2.2.2.1, fun p c => ?_⟩
    show upd (S.2 37) x1.toNatClampNeg (S.1 36) p = 0 ∨ upd (S.2 37) x1.toNatClampNeg (S.1 36) p = 1
    unfold upd
    split
    · exact h.2.2.2.2.1
    · exact h.2.2.2.2.2 p c
end
section
/-! ===== taking ===== -/
theorem take_l {x1 : Int32} (hx : 0 ≤ x1.toInt ∧ x1.toInt ≤ 7) : ∀ (n : Nat) (S : HS) (x : Int32), (S.2 34 x1.toNatClampNeg).toInt ≤ 9 → 0 ≤ x.toInt → x.toInt ≤ (S.2 34 x1.toNatClampNeg).toInt → (S.2 34 x1.toNatClampNeg).toInt - x.toInt < n →
    ∃ u v, (lp_X11_take_2 n S x1 x).2 = sR (sA (sI (sI (sR S 32 u) 35 (S.2 34 x1.toNatClampNeg)) 36 (S.2 37 x1.toNatClampNeg)) 34 x1.toNatClampNeg 0) 27 v ∧ (∀ i : Nat, x.toInt ≤ i → (i : Int) < (S.2 34 x1.toNatClampNeg).toInt → u i = S.2 33 (9 * x1.toNatClampNeg + i)) ∧ (∀ j : Nat, (j : Int) < x.toInt → u j = S.2 32 j) := by
  intro n
  induction n with
  | zero => intro S x h9 h1 h2 h3; omega
  | succ n ih =>
    intro S x h9 h1 h2 h3
    rw [lp_X11_take_2]
    unfold st_X11_take_2
    by_cases c : S.2 34 x1.toNatClampNeg ≤ x
    · rw [if_pos c]
      have c := iLe.mp c
      refine ⟨S.2 32, upd (S.2 27) (S.2 32 (0 : Int32).toNatClampNeg).toNatClampNeg 0, ?_, fun i a b => by omega, fun j _ => rfl⟩
      rw [sR_id]
      dsimp only
      split <;> rfl
    · rw [if_neg c]
      have c := mt iLe.mpr c
      have e := iAdd (x := x) (y := 1) (by rw [i1]; omega) (by rw [i1]; omega)
      rw [i1] at e
      have k := iNat h1
      have cc := c9 hx h1 (by omega)
      obtain ⟨u, v, q1, q2, q3⟩ := ih (sA S 32 x.toNatClampNeg (S.2 33 (9 * x1.toNatClampNeg + x.toNatClampNeg))) (x + 1) h9 (by omega) (by show _ ≤ (S.2 34 x1.toNatClampNeg).toInt; omega) (by show (S.2 34 x1.toNatClampNeg).toInt - _ < _; omega)
      rw [sR_sA] at q1
      refine ⟨u, v, ?_, fun i a b => ?_, fun j z => ?_⟩
      · rw [cc]
        exact q1
      · by_cases y : i = x.toNatClampNeg
        · subst y
          rw [q3 x.toNatClampNeg (by omega)]
          exact upd_eq
        · exact q2 i (by omega) b
      · rw [q3 j (by omega)]
        exact upd_ne (by omega)
theorem d_14 {N : Int} {S : HS} (h : HI N S) (hd : (S.1 35).toInt ≤ 0) {x1 : Int32} (hx : 0 ≤ x1.toInt ∧ x1.toInt ≤ 7) (hl : S.2 34 x1.toNatClampNeg ≠ 0) : p_X11_take S x1 ∧ DO (N + 1) S (f_X11_take S x1).2 := by
  have n1 := h.1.1 1 (by omega)
  have e1 : hN S 1 = (S.1 35).toInt := rfl
  have k1 := iNat hx.1
  have ns : hN S (x1.toNatClampNeg + 2) = (S.2 34 x1.toNatClampNeg).toInt := rfl
  have nd0 := h.1.1 (x1.toNatClampNeg + 2) (by omega)
  have hl := mt iEq.mpr hl
  rw [i0] at hl
  have l0 : 1 ≤ (S.2 34 x1.toNatClampNeg).toInt := by omega
  refine ⟨take_p hx ⟨l0, by omega⟩ (h.2.2.2.2.2 _ (by omega)) (fun i a b => ?_), ?_⟩
  · have v := h.1.2.1 (x1.toNatClampNeg + 2) i.toNatClampNeg ⟨by omega, by rw [ns, iNat a]; exact b⟩
    rw [c9 hx a (by omega)]
    exact ⟨v.1, v.2.1⟩
  obtain ⟨u, v, q1, q2, q3⟩ := take_l hx 100000 S 0 (by omega) (by rw [i0]; omega) (by rw [i0]; omega) (by rw [i0]; omega)
  rw [i0] at q2
  have q1 : (f_X11_take S x1).2 = _ := q1
  rw [q1]
  have td : hT (sR (sA (sI (sI (sR S 32 u) 35 (S.2 34 x1.toNatClampNeg)) 36 (S.2 37 x1.toNatClampNeg)) 34 x1.toNatClampNeg 0) 27 v) 1 ↔ hT S (x1.toNatClampNeg + 2) := Iff.rfl
  refine ⟨⟨?_, ?_, ?_⟩, rfl, Or.inl rfl⟩
  · refine (h.1.up (show N ≤ N + 1 by omega)).xfer (x1.toNatClampNeg + 2) 1 0 (by omega) (by omega) (by omega) (by omega) rfl ⟨rfl, rfl, rfl, rfl, rfl⟩ rfl (fun _ _ _ _ => rfl) ?_ ?_ ?_ ?_ ?_ (fun i c => absurd c (by omega)) ?_ ?_ (fun c => absurd c (by omega)) (fun c => absurd c (by omega)) (fun c => absurd c (by omega)) (fun c => absurd c (by omega))
    · show (upd (S.2 34) x1.toNatClampNeg 0 x1.toNatClampNeg).toInt = 0
      rw [upd_eq, i0]
    · show (S.2 34 x1.toNatClampNeg).toInt = _
      omega
    · show (S.2 34 x1.toNatClampNeg).toInt ≤ 9
      omega
    · intro t
      show (S.2 34 x1.toNatClampNeg).toInt ≤ 1
      exact nd0.2.2 t
    · intro g q a b
      rcases g with _ | _ | p
      · exact ⟨rfl, Iff.rfl, fun i c => rfl⟩
      · exact absurd rfl b
      · have ne : p ≠ x1.toNatClampNeg := fun y => a (by rw [y])
        refine ⟨?_, Iff.rfl, fun i c => rfl⟩
        show (upd (S.2 34) x1.toNatClampNeg 0 p).toInt = (S.2 34 p).toInt
        rw [upd_ne ne]
    · intro i c
      rw [Nat.zero_add]
      exact q2 i (by omega) c
    · intro _ c t
      exact h.1.2.2.2.1 (x1.toNatClampNeg + 2) ⟨by omega, c⟩ t
  · refine ⟨fun _ => ⟨x1.toNatClampNeg, by omega, upd_eq⟩, fun q => ?_⟩
    obtain ⟨p, p1, p2⟩ := h.2.1.1 (Or.inl q.1)
    have ne : x1.toNatClampNeg ≠ p := fun y => by
      rw [y, p2, i0] at l0
      omega
    exact ⟨x1.toNatClampNeg, p, by omega, p1, ne, upd_eq, by show upd (S.2 34) x1.toNatClampNeg 0 p = 0; rw [upd_ne (fun y => ne y.symm)]; exact p2⟩
  · exact ⟨h.2.2.1, h.2.2.2.1, h.2.2.2.2.2 x1.toNatClampNeg (by omega), h.2.2.2.2.2⟩
/-! ===== moving ===== -/
theorem move_w (x1 : Int32) : ∀ (n : Nat) (S : HS) (x : Int32), 0 ≤ (S.1 6).toInt → (S.1 6).toInt + (S.1 35).toInt ≤ 9 → 0 ≤ x.toInt → x.toInt ≤ (S.1 35).toInt → (S.1 35).toInt - x.toInt < n →
    ∃ u, (lp_X11_move_77 n S x1 x).2 = sI (sI (sI (sR S 31 u) 6 (S.1 6 + S.1 35)) 35 0) 5 (-1) ∧ (∀ i : Nat, x.toInt ≤ i → (i : Int) < (S.1 35).toInt → u ((S.1 6).toNatClampNeg + i) = S.2 32 i) ∧ (∀ j : Nat, (j : Int) < (S.1 6).toInt + x.toInt → u j = S.2 31 j) := by
  intro n
  induction n with
  | zero => intro S x h0 h9 h1 h2 h3; omega
  | succ n ih =>
    intro S x h0 h9 h1 h2 h3
    rw [lp_X11_move_77]
    unfold st_X11_move_77
    by_cases c : S.1 35 ≤ x
    · rw [if_pos c]
      have c := iLe.mp c
      refine ⟨S.2 31, ?_, fun i a b => by omega, fun j _ => rfl⟩
      rw [sR_id]
    · rw [if_neg c]
      have c := mt iLe.mpr c
      have e := iAdd (x := x) (y := 1) (by rw [i1]; omega) (by rw [i1]; omega)
      rw [i1] at e
      have k := iNat h1
      have k6 := iNat h0
      have a6 := iAdd (x := S.1 6) (y := x) (by omega) (by omega)
      have ka := iNat (x := S.1 6 + x) (by omega)
      have cc : (S.1 6 + x).toNatClampNeg = (S.1 6).toNatClampNeg + x.toNatClampNeg := by omega
      obtain ⟨u, q1, q2, q3⟩ := ih (sA S 31 ((S.1 6).toNatClampNeg + x.toNatClampNeg) (S.2 32 x.toNatClampNeg)) (x + 1) h0 h9 (by omega) (by show _ ≤ (S.1 35).toInt; omega) (by show (S.1 35).toInt - _ < _; omega)
      rw [sR_sA] at q1
      have q3 : ∀ j : Nat, (j : Int) < (S.1 6).toInt + (x + 1).toInt → u j = upd (S.2 31) ((S.1 6).toNatClampNeg + x.toNatClampNeg) (S.2 32 x.toNatClampNeg) j := q3
      refine ⟨u, ?_, fun i a b => ?_, fun j z => ?_⟩
      · rw [cc]
        exact q1
      · by_cases y : i = x.toNatClampNeg
        · subst y
          rw [q3 _ (by omega)]
          exact upd_eq
        · exact q2 i (by omega) b
      · rw [q3 j (by omega)]
        exact upd_ne (by omega)
/-- the rows of subjects and of movers alone are other ones -/
def sM (S : HS) (w w' : Nat → Int32) : HS := sR (sR S 23 w) 15 w'
theorem move_T {S : HS} (x1 : Int32) : ∃ w w', (f_X11_move S x1).2 = (lp_X11_move_77 100000 (sM S w w') x1 0).2 ∧ (∀ m, m ≠ hM S 1 0 → w m = S.2 23 m) ∧
    (S.1 36 = 0 → (S.2 14 (hM S 1 0) = 2 ∨ S.2 14 (hM S 1 0) = 3) → (S.2 25 (hM S 1 0) = 0 ∨ S.2 23 (hM S 1 0) = S.2 22 (f_X11_top S).1.toNatClampNeg) → w (hM S 1 0) = S.2 22 (f_X11_top S).1.toNatClampNeg) := by
  have m0 : hM S 1 0 = (S.2 32 (0 : Int32).toNatClampNeg).toNatClampNeg := by rw [zn0]; rfl
  rw [m0]
  unfold f_X11_move
  by_cases z1 : S.1 36 = 0
  · rw [if_pos z1]
    have n68 : ∀ y, (b_X11_move_68 S x1 (S.2 32 (0 : Int32).toNatClampNeg) y).2 = (lp_X11_move_77 100000 (sM S (S.2 23) (upd (S.2 15) (S.2 32 (0 : Int32).toNatClampNeg).toNatClampNeg x1)) x1 0).2 := fun y => by
      have e : sM S (S.2 23) (upd (S.2 15) (S.2 32 (0 : Int32).toNatClampNeg).toNatClampNeg x1) = sA S 15 (S.2 32 (0 : Int32).toNatClampNeg).toNatClampNeg x1 := by
        unfold sM
        rw [sR_id]
        rfl
      rw [e]
      rfl
    have a34 : ∃ w w', (b_X11_move_34 S x1 (S.2 32 (0 : Int32).toNatClampNeg)).2 = (lp_X11_move_77 100000 (sM S w w') x1 0).2 ∧ (∀ m, m ≠ (S.2 32 (0 : Int32).toNatClampNeg).toNatClampNeg → w m = S.2 23 m) ∧ (S.2 25 (S.2 32 (0 : Int32).toNatClampNeg).toNatClampNeg = 0 ∨ S.2 23 (S.2 32 (0 : Int32).toNatClampNeg).toNatClampNeg = S.2 22 (f_X11_top S).1.toNatClampNeg → w (S.2 32 (0 : Int32).toNatClampNeg).toNatClampNeg = S.2 22 (f_X11_top S).1.toNatClampNeg) := by
      unfold b_X11_move_34 b_X11_move_39
      rw [if_neg (by decide)]
      by_cases z2 : S.2 25 (S.2 32 (0 : Int32).toNatClampNeg).toNatClampNeg = 0
      · rw [if_pos z2]
        exact ⟨upd (S.2 23) (S.2 32 (0 : Int32).toNatClampNeg).toNatClampNeg (S.2 22 (f_X11_top S).1.toNatClampNeg), upd (S.2 15) (S.2 32 (0 : Int32).toNatClampNeg).toNatClampNeg x1, rfl, fun m q => upd_ne q, fun _ => upd_eq⟩
      · rw [if_neg z2]
        exact ⟨_, _, n68 _, fun _ _ => rfl, fun q => q.resolve_left z2⟩
    by_cases z3 : S.2 14 (S.2 32 (0 : Int32).toNatClampNeg).toNatClampNeg = 2
    · rw [if_pos z3]
      obtain ⟨w, w', a, b, c⟩ := a34
      exact ⟨w, w', a, b, fun _ _ => c⟩
    · rw [if_neg z3]
      by_cases z4 : S.2 14 (S.2 32 (0 : Int32).toNatClampNeg).toNatClampNeg = 3
      · rw [if_pos z4]
        obtain ⟨w, w', a, b, c⟩ := a34
        exact ⟨w, w', a, b, fun _ _ => c⟩
      · rw [if_neg z4]
        refine ⟨S.2 23, upd (S.2 15) (S.2 32 (0 : Int32).toNatClampNeg).toNatClampNeg x1, ?_, fun _ _ => rfl, fun _ q => absurd q (fun q => q.elim z3 z4)⟩
        unfold b_X11_move_39
        rw [if_pos rfl]
        exact n68 _
  · rw [if_neg z1]
    refine ⟨S.2 23, S.2 15, ?_, fun _ _ => rfl, fun q => absurd q z1⟩
    have e : sM S (S.2 23) (S.2 15) = S := by
      unfold sM
      rw [sR_id, sR_id]
    rw [e]
    rfl
/-- what a move's reason leaves when it is 0 -/
def mV (S : HS) (m t : Nat) : Prop :=
  (S.1 6).toInt ≤ 8 ∧ (S.2 14 m = 1 → S.1 6 = 0) ∧ (S.2 14 m ≠ 1 → 1 ≤ (S.1 6).toInt) ∧
  (S.2 14 m = 2 ∨ S.2 14 m = 3 → (S.2 25 m = 0 ∨ S.2 23 m = S.2 22 t) ∧ (S.2 21 m).toInt ≤ (S.2 19 t).toInt ∧ (S.2 19 t).toInt + (S.2 19 m).toInt - ((S.2 21 m).toInt - (S.2 20 m).toInt) ≤ 400) ∧
  (S.2 14 m = 3 → S.2 14 t = 2 ∧ (2 ≤ (S.1 6).toInt → (S.2 19 (hM S 0 ((S.1 6).toNatClampNeg - 2))).toInt + ((S.2 19 t).toInt + (S.2 19 m).toInt - ((S.2 21 m).toInt - (S.2 20 m).toInt)) - ((S.2 21 t).toInt - (S.2 20 t).toInt) ≤ 400)) ∧
  (S.2 14 m = 2 → S.2 14 t ≠ 2 ∧ S.2 14 t ≠ 3) ∧ (S.2 14 m = 4 ∨ S.2 14 m = 5 ∨ S.2 14 m = 7 → ∃ p, p < 8 ∧ S.2 34 p = 0)
theorem d_15 {N : Int} {S : HS} (h : HI N S) (hd : 1 ≤ (S.1 35).toInt) (x1 : Int32) (t1 : S.1 36 ≠ 0 → S.1 6 = 0) (t0 : S.1 36 = 0 → mV S (hM S 1 0) (f_X11_top S).1.toNatClampNeg) :
    p_X11_move S x1 ∧ DO (N + 1) S (f_X11_move S x1).2 := by
  have n0 := h.1.1 0 (by omega)
  have n1 := h.1.1 1 (by omega)
  have e0 : hN S 0 = (S.1 6).toInt := rfl
  have e1 : hN S 1 = (S.1 35).toInt := rfl
  have k6 := iNat (x := S.1 6) (by omega)
  have m0 : hM S 1 0 = (S.2 32 (0 : Int32).toNatClampNeg).toNatClampNeg := by rw [zn0]; rfl
  have hs : (S.1 6).toInt + (S.1 35).toInt ≤ 9 := by
    by_cases z : S.1 36 = 0
    · have := (t0 z).1
      have := one_n h hd z
      omega
    · have := iEq.mp (t1 z)
      rw [i0] at this
      omega
  have t1' : S.1 36 ≠ 0 → (S.1 6).toInt = 0 := fun z => by
    have := iEq.mp (t1 z)
    rw [i0] at this
    exact this
  refine ⟨move_d h.ra hd hs x1 (fun z q => ?_), ?_⟩
  · refine (t0 z).2.2.1 (fun y => ?_)
    rw [← m0, y] at q
    exact absurd q (by decide)
  obtain ⟨w, w', e, ww, wt⟩ := move_T (S := S) x1
  obtain ⟨u, q1, q2, q3⟩ := move_w x1 100000 (sM S w w') 0 (by show 0 ≤ (S.1 6).toInt; omega) hs (by rw [i0]; omega) (by rw [i0]; show 0 ≤ (S.1 35).toInt; omega) (by rw [i0]; show (S.1 35).toInt - 0 < _; omega)
  have q1 : (lp_X11_move_77 100000 (sM S w w') x1 0).2 = sI (sI (sI (sR (sM S w w') 31 u) 6 (S.1 6 + S.1 35)) 35 0) 5 (-1) := q1
  have q2 : ∀ i : Nat, (0 : Int32).toInt ≤ i → (i : Int) < (S.1 35).toInt → u ((S.1 6).toNatClampNeg + i) = S.2 32 i := q2
  have q3 : ∀ j : Nat, (j : Int) < (S.1 6).toInt + (0 : Int32).toInt → u j = S.2 31 j := q3
  rw [i0] at q2 q3
  rw [e, q1]
  have a6 := iAdd (x := S.1 6) (y := S.1 35) (by omega) (by omega)
  have ld : hL S 1 0 := ⟨by omega, by omega⟩
  have tp : 1 ≤ (S.1 6).toInt → (f_X11_top S).1.toNatClampNeg = hM S 0 ((S.1 6).toNatClampNeg - 1) := fun hp => by
    have := topN hp
    show (S.2 31 (S.1 6 - 1).toNatClampNeg).toNatClampNeg = (S.2 31 ((S.1 6).toNatClampNeg - 1)).toNatClampNeg
    have c : (S.1 6 - 1).toNatClampNeg = (S.1 6).toNatClampNeg - 1 := by omega
    rw [c]
  have td : 1 ≤ (S.1 6).toInt → S.1 36 = 0 := fun hp => Classical.byContradiction (fun z => by have := t1' z; omega)
  refine ⟨⟨?_, ?_, h.2.2⟩, rfl, Or.inl rfl⟩
  · refine (h.1.up (show N ≤ N + 1 by omega)).xfer 1 0 (S.1 6).toNatClampNeg (by omega) (by omega) (by omega) k6 rfl ⟨rfl, rfl, rfl, rfl, rfl⟩ rfl ?_ ?_ ?_ ?_ (fun t => absurd True.intro t) ?_ ?_ ?_ ?_ (fun _ _ => True.intro) ?_ ?_ ?_
    · intro g i a c
      refine ww _ (fun z => ?_)
      have d := h.1.d a ld z
      exact c d.1 d.2
    · exact i0
    · show (S.1 6 + S.1 35).toInt = _
      omega
    · show (S.1 6 + S.1 35).toInt ≤ 9
      omega
    · intro g q a b
      rcases g with _ | _ | p
      · exact absurd rfl b
      · exact absurd rfl a
      · exact ⟨rfl, Iff.rfl, fun i c => rfl⟩
    · intro i c
      exact q3 i (by omega)
    · intro i c
      exact q2 i (by omega) c
    · intro c _ _
      by_cases z : S.1 36 = 0
      · refine Classical.byContradiction (fun y => ?_)
        have := (t0 z).2.2.1 y
        omega
      · exact h.1.2.2.2.1 1 ld z
    · intro c
      have := one_n h hd (td (by omega))
      omega
    · intro c _
      have hp : 1 ≤ (S.1 6).toInt := by omega
      have z := td hp
      obtain ⟨v1, v2, v3, v4, v5, v6, v7⟩ := t0 z
      rw [tp hp] at v4 v5 v6
      rw [tp hp] at wt
      refine ⟨fun y => ?_, fun y => ?_, fun y => (v5 y).1, v6⟩
      · have := iEq.mp (v2 y)
        rw [i0] at this
        omega
      · have v := v4 y
        exact ⟨wt z y v.1, v.2.1, v.2.2⟩
    · intro c _ y
      have hp : 1 ≤ (S.1 6).toInt := by omega
      have z := td hp
      obtain ⟨v1, v2, v3, v4, v5, v6, v7⟩ := t0 z
      have v := (v5 y).2 (by omega)
      rw [tp hp] at v
      exact v
  · have np : ¬ wD (sI (sI (sI (sR (sM S w w') 31 u) 6 (S.1 6 + S.1 35)) 35 0) 5 (-1)) := fun q => by
      have c : 0 < (0 : Int32).toInt := q.1
      rw [i0] at c
      omega
    refine ⟨fun q => ?_, fun q => absurd q.2 np⟩
    obtain ⟨i, a, b⟩ := q.resolve_right np
    show ∃ p, p < 8 ∧ S.2 34 p = 0
    have a2 : (i : Int) < (S.1 6 + S.1 35).toInt := a.2
    by_cases z : S.1 36 = 0
    · have n := one_n h hd z
      by_cases c : i < (S.1 6).toNatClampNeg
      · refine h.2.1.1 (Or.inl ⟨i, ⟨by omega, by show (i : Int) < (S.1 6).toInt; omega⟩, ?_⟩)
        have m : (u i).toNatClampNeg = hM S 0 i := by rw [q3 i (by omega)]; rfl
        rw [← m]
        exact b
      · have c : i = (S.1 6).toNatClampNeg + 0 := by omega
        have m : (u i).toNatClampNeg = hM S 1 0 := by
          rw [c, q2 0 (by omega) (by omega)]
          rfl
        refine (t0 z).2.2.2.2.2.2 ?_
        rw [← m]
        exact b
    · exact h.2.1.1 (Or.inr ⟨by omega, z⟩)
end
section
/-! ===== a place that is free ===== -/
theorem free_e {S : HS} {y : Nat} (hy : y < 8) (hf : S.2 34 y = 0) : ∀ (n : Nat) (x : Int32), 0 ≤ x.toInt → x.toInt ≤ y → 8 - x.toInt < n →
    (lp_X11_free_2 n S x).2 = S ∧ (0 ≤ (lp_X11_free_2 n S x).1.toInt ∧ (lp_X11_free_2 n S x).1.toInt ≤ 7) ∧ S.2 34 (lp_X11_free_2 n S x).1.toNatClampNeg = 0 := by
  intro n
  induction n with
  | zero => intro x h1 h2 h3; omega
  | succ n ih =>
    intro x h1 h2 h3
    rw [lp_X11_free_2]
    unfold st_X11_free_2
    have e8 : (8 : Int32).toInt = 8 := by decide
    rw [if_neg (fun c => by have c := iLe.mp c; rw [e8] at c; omega)]
    by_cases z : S.2 34 x.toNatClampNeg = 0
    · rw [if_pos z]
      exact ⟨rfl, ⟨h1, by show x.toInt ≤ 7; omega⟩, z⟩
    · rw [if_neg z]
      have e := iAdd (x := x) (y := 1) (by rw [i1]; omega) (by rw [i1]; omega)
      rw [i1] at e
      have k := iNat h1
      have d : x.toNatClampNeg ≠ y := fun q => z (by rw [q]; exact hf)
      exact ih (x + 1) (by omega) (by omega) (by omega)
theorem free_i {S : HS} (h : ∃ p, p < 8 ∧ S.2 34 p = 0) : (f_X11_free S).2 = S ∧ (0 ≤ (f_X11_free S).1.toInt ∧ (f_X11_free S).1.toInt ≤ 7) ∧ S.2 34 (f_X11_free S).1.toNatClampNeg = 0 := by
  obtain ⟨p, a, b⟩ := h
  exact free_e a b 100000 0 (by rw [i0]; omega) (by rw [i0]; omega) (by rw [i0]; omega)
/-! ===== a motion is pending or not ===== -/
theorem isPending_e {S : HS} (h6 : (S.1 6).toInt ≤ 9) (x1 : Int32) : ∀ (n : Nat) (x : Int32), 0 ≤ x.toInt → (S.1 6).toInt - x.toInt < n → x.toInt ≤ 9 →
    (lp_X11_isPending_2 n S x1 x).2 = S ∧ ((lp_X11_isPending_2 n S x1 x).1 = 0 → ∀ i : Nat, x.toInt ≤ i → (i : Int) < (S.1 6).toInt → S.2 31 i ≠ x1) := by
  intro n
  induction n with
  | zero =>
    intro x h1 h3 h4
    exact ⟨rfl, fun _ i a b => by omega⟩
  | succ n ih =>
    intro x h1 h3 h4
    rw [lp_X11_isPending_2]
    unfold st_X11_isPending_2
    by_cases c : S.1 6 ≤ x
    · rw [if_pos c]
      have c := iLe.mp c
      exact ⟨rfl, fun _ i a b => by omega⟩
    · rw [if_neg c]
      have c := mt iLe.mpr c
      have e := iAdd (x := x) (y := 1) (by rw [i1]; omega) (by rw [i1]; omega)
      rw [i1] at e
      have k := iNat h1
      by_cases z : S.2 31 x.toNatClampNeg = x1
      · rw [if_pos z]
        exact ⟨rfl, fun q => absurd (show (1 : Int32) = 0 from q) (by decide)⟩
      · rw [if_neg z]
        have g := ih (x + 1) (by omega) (by omega) (by omega)
        refine ⟨g.1, fun q i a b => ?_⟩
        by_cases y : i = x.toNatClampNeg
        · rw [y]
          exact z
        · exact g.2 q i (by omega) b
theorem isPending_i {S : HS} (h : RA S) (x1 : Int32) : (f_X11_isPending S x1).2 = S ∧ ((f_X11_isPending S x1).1 = 0 → ∀ i : Nat, (i : Int) < (S.1 6).toInt → S.2 31 i ≠ x1) := by
  have g := isPending_e h.2.1.2 x1 100000 0 (by rw [i0]; omega) (by rw [i0]; have := h.2.1; omega) (by rw [i0]; omega)
  exact ⟨g.1, fun q i b => g.2 q i (by rw [i0]; omega) b⟩
/-! ===== change ===== -/
/-- what the last loop of change leaves: only spans and outsides of what is laid on x1 and not pending -/
def cL (S r : HS) (x1 x4 x6 : Int32) (j : Int) : Prop :=
  r.1 = S.1 ∧ (∀ k, k ≠ 20 → k ≠ 21 → k ≠ 26 → r.2 k = S.2 k) ∧ ∀ x : Nat, x < 90 → (r.2 20 x = S.2 20 x ∧ r.2 21 x = S.2 21 x) ∨ (j ≤ x ∧ S.2 23 x = S.2 22 x1.toNatClampNeg ∧ (∀ i : Nat, (i : Int) < (S.1 6).toInt → (S.2 31 i).toNatClampNeg ≠ x) ∧ x4.toInt ≤ (S.2 20 x).toInt ∧ r.2 20 x = S.2 20 x + x6 ∧ r.2 21 x = S.2 21 x + x6)
theorem cL.step {S r : HS} {x1 x4 x6 : Int32} {j : Int} (h : cL S r x1 x4 x6 (j + 1)) : cL S r x1 x4 x6 j :=
  ⟨h.1, h.2.1, fun x a => (h.2.2 x a).elim Or.inl (fun q => Or.inr ⟨by have := q.1; omega, q.2⟩)⟩
theorem sA_k {S : HS} {k i j : Nat} {v : Int32} (h : j ≠ k) : (sA S k i v).2 j = S.2 j := by
  show (if j = k then _ else _) = _
  rw [if_neg h]
theorem chg_194 {x1 : Int32} (h1 : vp_in x1 90) (x2 x3 x4 x5 x6 x7 x8 : Int32) : ∀ (n : Nat) (S : HS) (x : Int32), RA S → 0 ≤ x.toInt → x.toInt ≤ 90 → 90 - x.toInt < n →
    lq_X11_change_194 n S x1 x2 x3 x4 x5 x6 x7 x8 x ∧ cL S (lp_X11_change_194 n S x1 x2 x3 x4 x5 x6 x7 x8 x).2 x1 x4 x6 x.toInt := by
  intro n
  induction n with
  | zero => intro S x h a b c; omega
  | succ n ih =>
    intro S x h a b c
    rw [lq_X11_change_194, lp_X11_change_194]
    unfold ps_X11_change_194 st_X11_change_194
    have e90 : (90 : Int32).toInt = 90 := by decide
    by_cases z : 90 ≤ x
    · rw [if_pos z, if_pos z]
      exact ⟨⟨True.intro, True.intro⟩, rfl, fun _ _ _ _ => rfl, fun _ _ => Or.inl ⟨rfl, rfl⟩⟩
    rw [if_neg z, if_neg z]
    have z := mt iLe.mpr z
    rw [e90] at z
    have e := iAdd (x := x) (y := 1) (by rw [i1]; omega) (by rw [i1]; omega)
    rw [i1] at e
    have k := iNat a
    have v : vp_in x 90 := vIn a (by omega)
    have nx : lq_X11_change_194 n S x1 x2 x3 x4 x5 x6 x7 x8 (x + 1) ∧ cL S (lp_X11_change_194 n S x1 x2 x3 x4 x5 x6 x7 x8 (x + 1)).2 x1 x4 x6 x.toInt := by
      have g := ih S (x + 1) h (by omega) (by omega) (by omega)
      rw [e] at g
      exact ⟨g.1, g.2.step⟩
    by_cases z1 : S.2 13 x.toNatClampNeg = 0
    · rw [if_pos z1, if_pos z1]
      exact ⟨⟨⟨v, True.intro⟩, nx.1⟩, nx.2⟩
    rw [if_neg z1, if_neg z1]
    by_cases z2 : x = x2
    · rw [if_pos z2, if_pos z2]
      exact ⟨⟨⟨v, True.intro⟩, nx.1⟩, nx.2⟩
    rw [if_neg z2, if_neg z2]
    by_cases z3 : S.2 25 x.toNatClampNeg = 0
    · rw [if_pos z3, if_pos z3]
      exact ⟨⟨⟨v, v, True.intro⟩, nx.1⟩, nx.2⟩
    rw [if_neg z3, if_neg z3]
    by_cases z4 : S.2 26 x.toNatClampNeg = 0
    · rw [if_pos z4, if_pos z4]
      by_cases z5 : S.2 23 x.toNatClampNeg = S.2 22 x1.toNatClampNeg
      · rw [if_pos z5, if_pos z5]
        have p := isPending_i h x
        rw [p.1]
        unfold q_X11_change_a259 b_X11_change_a259
        by_cases z6 : (f_X11_isPending S x).1 = 0
        · rw [if_pos z6, if_pos z6]
          by_cases z7 : x3 < S.2 21 x.toNatClampNeg
          · rw [if_pos z7, if_pos z7]
            by_cases z8 : S.2 20 x.toNatClampNeg < x4
            · rw [if_pos z8, if_pos z8]
              have g := ih (sA S 26 x.toNatClampNeg (vp_nar .boolean 1)) (x + 1) h (by omega) (by omega) (by omega)
              refine ⟨⟨⟨v, v, v, v, h1, isPending_p h x, v, v, v, True.intro⟩, g.1⟩, ?_⟩
              have g2 := g.2
              rw [e] at g2
              refine ⟨g2.1, fun k a1 a2 a3 => (g2.2.1 k a1 a2 a3).trans (sA_k a3), fun y b => ?_⟩
              exact (g2.step.2.2 y b).elim Or.inl Or.inr
            · rw [if_neg z8, if_neg z8]
              have z8 := mt iLt.mpr z8
              have g := ih (sA (sA S 20 x.toNatClampNeg ((S.2 20 x.toNatClampNeg) + x6)) 21 x.toNatClampNeg ((S.2 21 x.toNatClampNeg) + x6)) (x + 1) h (by omega) (by omega) (by omega)
              refine ⟨⟨⟨v, v, v, v, h1, isPending_p h x, v, v, v, v, v, v, True.intro⟩, g.1⟩, ?_⟩
              have g2 := g.2
              rw [e] at g2
              refine ⟨g2.1, fun k a1 a2 a3 => (g2.2.1 k a1 a2 a3).trans ((sA_k a2).trans (sA_k a1)), fun y b => ?_⟩
              have g3 := g2.2.2 y b
              have g3 : ((_ : Int32) = upd (S.2 20) x.toNatClampNeg ((S.2 20 x.toNatClampNeg) + x6) y ∧ _ = upd (S.2 21) x.toNatClampNeg ((S.2 21 x.toNatClampNeg) + x6) y) ∨ (_ ∧ S.2 23 y = S.2 22 x1.toNatClampNeg ∧ (∀ i : Nat, (i : Int) < (S.1 6).toInt → (S.2 31 i).toNatClampNeg ≠ y) ∧ _ ≤ (upd (S.2 20) x.toNatClampNeg ((S.2 20 x.toNatClampNeg) + x6) y).toInt ∧ _ = upd (S.2 20) x.toNatClampNeg ((S.2 20 x.toNatClampNeg) + x6) y + x6 ∧ _ = upd (S.2 21) x.toNatClampNeg ((S.2 21 x.toNatClampNeg) + x6) y + x6) := g3
              by_cases w : y = x.toNatClampNeg
              · subst w
                rw [upd_eq, upd_eq] at g3
                refine Or.inr ⟨by omega, z5, fun i c q => ?_, by omega, ?_⟩
                · refine p.2 z6 i c (iEq.mpr ?_)
                  have r := h.2.2.2.1 i c
                  have := iNat r.1
                  omega
                · refine g3.elim (fun q => q) (fun q => ?_)
                  have := q.1
                  omega
              · rw [upd_ne w, upd_ne w] at g3
                exact g3.elim Or.inl (fun q => Or.inr ⟨by have := q.1; omega, q.2⟩)
          · rw [if_neg z7, if_neg z7]
            exact ⟨⟨⟨v, v, v, v, h1, isPending_p h x, v, True.intro⟩, nx.1⟩, nx.2⟩
        · rw [if_neg z6, if_neg z6]
          exact ⟨⟨⟨v, v, v, v, h1, isPending_p h x, True.intro⟩, nx.1⟩, nx.2⟩
      · rw [if_neg z5, if_neg z5]
        exact ⟨⟨⟨v, v, v, v, h1, True.intro⟩, nx.1⟩, nx.2⟩
    · rw [if_neg z4, if_neg z4]
      exact ⟨⟨⟨v, v, v, True.intro⟩, nx.1⟩, nx.2⟩
/-- what change leaves -/
def cX (S r : HS) (x1 x4 x6 w : Int32) : Prop :=
  r.1 = S.1 ∧ (∀ k, k ≠ 19 → k ≠ 20 → k ≠ 21 → k ≠ 26 → k ≠ 28 → r.2 k = S.2 k) ∧ r.2 19 = upd (S.2 19) x1.toNatClampNeg w ∧
  ∀ x : Nat, x < 90 → (r.2 20 x = S.2 20 x ∧ r.2 21 x = S.2 21 x) ∨ (S.2 23 x = S.2 22 x1.toNatClampNeg ∧ (∀ i : Nat, (i : Int) < (S.1 6).toInt → (S.2 31 i).toNatClampNeg ≠ x) ∧ x4.toInt ≤ (S.2 20 x).toInt ∧ r.2 20 x = S.2 20 x + x6 ∧ r.2 21 x = S.2 21 x + x6)
theorem cX.text {S r : HS} {x1 x4 x6 w : Int32} {i : Nat} {v : Int32} (h : cX (sA S 28 i v) r x1 x4 x6 w) : cX S r x1 x4 x6 w :=
  ⟨h.1, fun k a1 a2 a3 a4 a5 => (h.2.1 k a1 a2 a3 a4 a5).trans (sA_k a5), h.2.2⟩
theorem chg_142 {x1 : Int32} (h1 : vp_in x1 90) {x2 : Int32} (h2 : vp_in x2 90) {x3 x5 x8 : Int32} (x4 x6 x7 : Int32) (e8 : x8.toInt = 400 * x1.toInt) (h3 : 0 ≤ x3.toInt) (h5 : x3.toInt + x5.toInt ≤ 400) (h5' : x5.toInt ≤ 400) : ∀ (n : Nat) (S : HS) (x : Int32), RA S → 0 ≤ x.toInt → x.toInt ≤ 400 → 400 - x.toInt < n →
    lq_X11_change_142 n S x1 x2 x3 x4 x5 x6 x7 x8 x ∧ cX S (lp_X11_change_142 n S x1 x2 x3 x4 x5 x6 x7 x8 x).2 x1 x4 x6 (x7 + x6) := by
  intro n
  induction n with
  | zero => intro S x h a b c; omega
  | succ n ih =>
    intro S x h a b c
    rw [lq_X11_change_142, lp_X11_change_142]
    unfold ps_X11_change_142 st_X11_change_142
    have v1 := vp_in_iff.mp h1
    have v2 := vp_in_iff.mp h2
    by_cases z : x5 ≤ x
    · rw [if_pos z, if_pos z]
      dsimp only
      have g := chg_194 h1 x2 x3 x4 x5 x6 x7 x8 100000 (sA S 19 x1.toNatClampNeg (x7 + x6)) 0 h (by rw [i0]; omega) (by rw [i0]; omega) (by rw [i0]; omega)
      have g2 := g.2
      refine ⟨⟨⟨h1, g.1⟩, True.intro⟩, g2.1, fun k a1 a2 a3 a4 _ => (g2.2.1 k a2 a3 a4).trans (sA_k a1), g2.2.1 19 (by omega) (by omega) (by omega), fun y b => ?_⟩
      exact (g2.2.2 y b).elim Or.inl (fun q => Or.inr q.2)
    rw [if_neg z, if_neg z]
    have z := mt iLe.mpr z
    have e := iAdd (x := x) (y := 1) (by rw [i1]; omega) (by rw [i1]; omega)
    rw [i1] at e
    have e4 : (400 : Int32).toInt = 400 := by decide
    have m := iMul (x := 400) (y := x2) (n := 400 * x2.toInt) (by rw [e4]) (by omega) (by omega)
    have p1 := iAdd (x := 400 * x2) (y := x) (by rw [m]; omega) (by rw [m]; omega)
    rw [m] at p1
    have p2 := iAdd (x := x8) (y := x3) (by omega) (by omega)
    have p3 := iAdd (x := x8 + x3) (y := x) (by omega) (by omega)
    have g := ih (sA S 28 ((x8 + x3) + x).toNatClampNeg (S.2 28 ((400 * x2) + x).toNatClampNeg)) (x + 1) h (by omega) (by omega) (by omega)
    exact ⟨⟨⟨vIn (by omega) (by omega), vIn (by omega) (by omega), True.intro⟩, g.1⟩, g.2.text⟩
theorem chg_139 {x1 : Int32} (h1 : vp_in x1 90) {x2 : Int32} (h2 : vp_in x2 90) {x3 x5 x8 : Int32} (x4 x6 x7 : Int32) (e8 : x8.toInt = 400 * x1.toInt) (h3 : 0 ≤ x3.toInt) (h5 : x3.toInt + x5.toInt ≤ 400) (h5' : x5.toInt ≤ 400) (S : HS) (h : RA S) :
    q_X11_change_139 S x1 x2 x3 x4 x5 x6 x7 x8 ∧ cX S (b_X11_change_139 S x1 x2 x3 x4 x5 x6 x7 x8).2 x1 x4 x6 (x7 + x6) := by
  unfold q_X11_change_139 b_X11_change_139
  exact chg_142 h1 h2 x4 x6 x7 e8 h3 h5 h5' 100000 S 0 h (by rw [i0]; omega) (by rw [i0]; omega) (by rw [i0]; omega)
theorem chg_103 {x1 : Int32} (h1 : vp_in x1 90) {x2 : Int32} (h2 : vp_in x2 90) {x3 x5 x6 x7 x8 : Int32} (x4 : Int32) (e8 : x8.toInt = 400 * x1.toInt) (h3 : 0 ≤ x3.toInt) (h5 : x3.toInt + x5.toInt ≤ 400) (h5' : x5.toInt ≤ 400) (h7 : x7.toInt ≤ 400) (h6 : x6.toInt ≤ 0) (h6' : -400 ≤ x6.toInt) : ∀ (n : Nat) (S : HS) (x : Int32), RA S → 0 ≤ x.toInt → 0 ≤ x.toInt + x6.toInt → x.toInt ≤ 400 → 400 - x.toInt < n →
    lq_X11_change_103 n S x1 x2 x3 x4 x5 x6 x7 x8 x ∧ cX S (lp_X11_change_103 n S x1 x2 x3 x4 x5 x6 x7 x8 x).2 x1 x4 x6 (x7 + x6) := by
  intro n
  induction n with
  | zero => intro S x h a a' b c; omega
  | succ n ih =>
    intro S x h a a' b c
    rw [lq_X11_change_103, lp_X11_change_103]
    unfold ps_X11_change_103 st_X11_change_103
    have v1 := vp_in_iff.mp h1
    by_cases z : x7 ≤ x
    · rw [if_pos z, if_pos z]
      exact (chg_139 h1 h2 x4 x6 x7 e8 h3 h5 h5' S h).imp (fun g => ⟨g, True.intro⟩) (fun g => g)
    rw [if_neg z, if_neg z]
    have z := mt iLe.mpr z
    have e := iAdd (x := x) (y := 1) (by rw [i1]; omega) (by rw [i1]; omega)
    rw [i1] at e
    have p2 := iAdd (x := x8) (y := x) (by omega) (by omega)
    have p3 := iAdd (x := x8 + x) (y := x6) (by omega) (by omega)
    have g := ih (sA S 28 ((x8 + x) + x6).toNatClampNeg (S.2 28 (x8 + x).toNatClampNeg)) (x + 1) h (by omega) (by omega) (by omega) (by omega)
    exact ⟨⟨⟨vIn (by omega) (by omega), vIn (by omega) (by omega), True.intro⟩, g.1⟩, g.2.text⟩
theorem chg_94 {x1 : Int32} (h1 : vp_in x1 90) {x2 : Int32} (h2 : vp_in x2 90) {x3 x4 x5 x6 x7 x8 : Int32} (e8 : x8.toInt = 400 * x1.toInt) (h3 : 0 ≤ x3.toInt) (h5 : x3.toInt + x5.toInt ≤ 400) (h5' : x5.toInt ≤ 400) (h7 : x7.toInt ≤ 400) (h6' : -400 ≤ x6.toInt) (h4 : 0 ≤ x4.toInt ∧ x4.toInt ≤ 400) (h46 : 0 ≤ x4.toInt + x6.toInt) (S : HS) (h : RA S) :
    q_X11_change_94 S x1 x2 x3 x4 x5 x6 x7 x8 ∧ cX S (b_X11_change_94 S x1 x2 x3 x4 x5 x6 x7 x8).2 x1 x4 x6 (x7 + x6) := by
  unfold q_X11_change_94 b_X11_change_94
  by_cases z : 0 ≤ x6
  · rw [if_pos z, if_pos z]
    exact chg_139 h1 h2 x4 x6 x7 e8 h3 h5 h5' S h
  · rw [if_neg z, if_neg z]
    have z := mt iLe.mpr z
    rw [i0] at z
    exact chg_103 h1 h2 x4 e8 h3 h5 h5' h7 (by omega) h6' 100000 S x4 h h4.1 h46 h4.2 (by omega)
theorem ix36 {x8 x x6 : Int32} (h8 : 0 ≤ x8.toInt ∧ x8.toInt ≤ 35600) (hx : 0 ≤ x.toInt ∧ x.toInt ≤ 399) (h6 : 0 ≤ x.toInt + x6.toInt ∧ x.toInt + x6.toInt ≤ 399) : vp_in (x8 + x) 36000 ∧ vp_in ((x8 + x) + x6) 36000 := by
  have p2 := iAdd (x := x8) (y := x) (by omega) (by omega)
  have p3 := iAdd (x := x8 + x) (y := x6) (by omega) (by omega)
  exact ⟨vIn (by omega) (by omega), vIn (by omega) (by omega)⟩
theorem chg_58 {x1 : Int32} (h1 : vp_in x1 90) {x2 : Int32} (h2 : vp_in x2 90) {x3 x4 x5 x6 x7 x8 : Int32} (e8 : x8.toInt = 400 * x1.toInt) (h3 : 0 ≤ x3.toInt) (h5 : x3.toInt + x5.toInt ≤ 400) (h5' : x5.toInt ≤ 400) (h7 : x7.toInt ≤ 400) (h6' : 0 ≤ x6.toInt) (h67 : x6.toInt + x7.toInt ≤ 400) (h4 : 0 ≤ x4.toInt ∧ x4.toInt ≤ 400) : ∀ (n : Nat) (S : HS) (x : Int32), RA S → -1 ≤ x.toInt → x.toInt < x7.toInt → x.toInt + 1 < n →
    lq_X11_change_58 n S x1 x2 x3 x4 x5 x6 x7 x8 x ∧ cX S (lp_X11_change_58 n S x1 x2 x3 x4 x5 x6 x7 x8 x).2 x1 x4 x6 (x7 + x6) := by
  intro n
  induction n with
  | zero => intro S x h a b c; omega
  | succ n ih =>
    intro S x h a b c
    rw [lq_X11_change_58, lp_X11_change_58]
    unfold ps_X11_change_58 st_X11_change_58
    have v1 := vp_in_iff.mp h1
    by_cases z : x < x4
    · rw [if_pos z, if_pos z]
      dsimp only
      have g := chg_94 h1 h2 (x4 := x4) (x6 := x6) e8 h3 h5 h5' h7 (by omega) h4 (by omega) S h
      refine ⟨⟨?_, True.intro⟩, ?_⟩
      · with_reducible exact g.1
      · with_reducible exact g.2
    rw [if_neg z, if_neg z]
    have z := mt iLt.mpr z
    have em : (-1 : Int32).toInt = -1 := by decide
    have e := iAdd (x := x) (y := -1) (by rw [em]; omega) (by rw [em]; omega)
    rw [em] at e
    have y0 : 0 ≤ x.toInt := Int.le_trans h4.1 (Int.not_lt.mp z)
    have y1 : x.toInt ≤ 399 := by clear z ih e h4 h67 h5 h3; omega
    have y2 : x.toInt + x6.toInt ≤ 399 := by clear z ih e h4 h5 h3; omega
    have p := ix36 (x8 := x8) (x := x) (x6 := x6) (by clear z ih e h4 h67 h5 h3 b c; omega) ⟨y0, y1⟩ ⟨by clear z ih e h4 h67 h5 h3 b c; omega, y2⟩
    have g := ih (sA S 28 ((x8 + x) + x6).toNatClampNeg (S.2 28 (x8 + x).toNatClampNeg)) (x + (-1)) h (by rw [e]; clear z ih h4 h67 h5 h3 b c; omega) (by rw [e]; clear z ih h4 h67 h5 h3; omega) (by rw [e]; clear z ih h4 h67 h5 h3 b; omega)
    exact ⟨⟨⟨p.1, p.2, True.intro⟩, g.1⟩, g.2.text⟩
theorem change_i {S : HS} (h : RA S) {x1 x2 : Int32} (h1 : vp_in x1 90) (h2 : vp_in x2 90)
    (w1 : 0 ≤ (S.2 19 x1.toNatClampNeg).toInt ∧ (S.2 19 x1.toNatClampNeg).toInt ≤ 400) (w2 : 0 ≤ (S.2 19 x2.toNatClampNeg).toInt ∧ (S.2 19 x2.toNatClampNeg).toInt ≤ 400)
    (f : 0 ≤ (S.2 20 x2.toNatClampNeg).toInt ∧ (S.2 20 x2.toNatClampNeg).toInt ≤ (S.2 21 x2.toNatClampNeg).toInt ∧ (S.2 21 x2.toNatClampNeg).toInt ≤ (S.2 19 x1.toNatClampNeg).toInt)
    (q : (S.2 19 x1.toNatClampNeg).toInt + (S.2 19 x2.toNatClampNeg).toInt - ((S.2 21 x2.toNatClampNeg).toInt - (S.2 20 x2.toNatClampNeg).toInt) ≤ 400) :
    p_X11_change S x1 x2 ∧ ∃ x6 : Int32, x6.toInt = (S.2 19 x2.toNatClampNeg).toInt - ((S.2 21 x2.toNatClampNeg).toInt - (S.2 20 x2.toNatClampNeg).toInt) ∧ cX S (f_X11_change S x1 x2).2 x1 (S.2 21 x2.toNatClampNeg) x6 (S.2 19 x1.toNatClampNeg + x6) := by
  unfold p_X11_change f_X11_change
  have v1 := vp_in_iff.mp h1
  have e4 : (400 : Int32).toInt = 400 := by decide
  have m := iMul (x := 400) (y := x1) (n := 400 * x1.toInt) (by rw [e4]) (by omega) (by omega)
  have s1 := iSub (x := S.2 21 x2.toNatClampNeg) (y := S.2 20 x2.toNatClampNeg) (by omega) (by omega)
  have s2 := iSub (x := S.2 19 x2.toNatClampNeg) (y := S.2 21 x2.toNatClampNeg - S.2 20 x2.toNatClampNeg) (by omega) (by omega)
  rw [s1] at s2
  have s3 := iSub (x := S.2 19 x1.toNatClampNeg) (y := 1) (by rw [i1]; omega) (by rw [i1]; omega)
  rw [i1] at s3
  by_cases z : (S.2 19 x2.toNatClampNeg - (S.2 21 x2.toNatClampNeg - S.2 20 x2.toNatClampNeg)) ≤ 0
  · rw [if_pos z, if_pos z]
    have g := chg_94 h1 h2 (x3 := S.2 20 x2.toNatClampNeg) (x4 := S.2 21 x2.toNatClampNeg) (x5 := S.2 19 x2.toNatClampNeg) (x6 := S.2 19 x2.toNatClampNeg - (S.2 21 x2.toNatClampNeg - S.2 20 x2.toNatClampNeg)) (x7 := S.2 19 x1.toNatClampNeg) (x8 := 400 * x1) m f.1 (by omega) w2.2 w1.2 (by omega) ⟨by omega, by omega⟩ (by omega) S h
    refine ⟨⟨h2, h2, h2, h1, ?_⟩, _, s2, ?_⟩
    · with_reducible exact g.1
    · with_reducible exact g.2
  · rw [if_neg z, if_neg z]
    have z := mt iLe.mpr z
    rw [i0] at z
    have g := chg_58 h1 h2 (x3 := S.2 20 x2.toNatClampNeg) (x4 := S.2 21 x2.toNatClampNeg) (x5 := S.2 19 x2.toNatClampNeg) (x6 := S.2 19 x2.toNatClampNeg - (S.2 21 x2.toNatClampNeg - S.2 20 x2.toNatClampNeg)) (x7 := S.2 19 x1.toNatClampNeg) (x8 := 400 * x1) m f.1 (by omega) w2.2 w1.2 (by omega) (by omega) ⟨by omega, by omega⟩ 100000 S (S.2 19 x1.toNatClampNeg - 1) h (by omega) (by omega) (by omega)
    refine ⟨⟨h2, h2, h2, h1, ?_⟩, _, s2, ?_⟩
    · with_reducible exact g.1
    · with_reducible exact g.2
end
section
/-! ===== what is carried ===== -/
/-- what carried leaves -/
def CO (N : Int) (S r : HS) : Prop := HI N r ∧ r.1 7 = S.1 7 ∧ r.1 8 = S.1 8
theorem main_l (x1 x2 : Int32) : ∀ (n : Nat) (S : HS) (x : Int32), (S.2 19 x1.toNatClampNeg).toInt ≤ 400 → 0 ≤ x.toInt → x.toInt ≤ 400 → 400 - x.toInt < n → ∃ u, (lp_X11_carried_70 n S x1 x2 x).2 = (f_X11_goes (sR S 38 u)).2 := by
  intro n
  induction n with
  | zero => intro S x h4 h1 h2 h3; omega
  | succ n ih =>
    intro S x h4 h1 h2 h3
    rw [lp_X11_carried_70]
    unfold st_X11_carried_70
    by_cases c : S.2 19 x1.toNatClampNeg ≤ x
    · rw [if_pos c]
      refine ⟨S.2 38, ?_⟩
      rw [sR_id]
      rfl
    · rw [if_neg c]
      have c := mt iLe.mpr c
      have e := iAdd (x := x) (y := 1) (by rw [i1]; omega) (by rw [i1]; omega)
      rw [i1] at e
      obtain ⟨u, q⟩ := ih (sA S 38 x.toNatClampNeg (S.2 28 ((400 * x1) + x).toNatClampNeg)) (x + 1) h4 (by omega) (by omega) (by omega)
      rw [sR_sA] at q
      exact ⟨u, q⟩
theorem adj_l (x1 x2 : Int32) : ∀ (n : Nat) (S : HS) (x : Int32), 0 ≤ x.toInt → x.toInt ≤ 200 → (S.1 0).toInt ≤ 200 → 200 - x.toInt < n → ∃ u, (lp_X11_carried_157 n S x1 x2 x).2 = sI (sR S 11 u) 1 0 := by
  intro n
  induction n with
  | zero => intro S x h1 h2 h4 h3; omega
  | succ n ih =>
    intro S x h1 h2 h4 h3
    rw [lp_X11_carried_157]
    unfold st_X11_carried_157
    by_cases c : S.1 0 ≤ x
    · rw [if_pos c]
      refine ⟨S.2 11, ?_⟩
      rw [sR_id]
      rfl
    · rw [if_neg c]
      have c := mt iLe.mpr c
      have e := iAdd (x := x) (y := 1) (by rw [i1]; omega) (by rw [i1]; omega)
      rw [i1] at e
      obtain ⟨u, q⟩ := ih (sA S 11 x.toNatClampNeg 0) (x + 1) (by omega) (by omega) h4 (by omega)
      rw [sR_sA] at q
      exact ⟨u, q⟩
theorem table_l {x3 : Int32} (hx : 0 ≤ x3.toInt ∧ x3.toInt ≤ 7) (x1 x2 : Int32) : ∀ (n : Nat) (S : HS) (x : Int32), (S.1 6).toInt ≤ 9 → 0 ≤ x.toInt → x.toInt ≤ (S.1 6).toInt → (S.1 6).toInt - x.toInt < n →
    ∃ u, (lp_X11_carried_198 n S x1 x2 x3 x).2 = sI (sA (sA (sR S 33 u) 34 x3.toNatClampNeg (S.1 6)) 37 x3.toNatClampNeg 1) 6 0 ∧ (∀ i : Nat, x.toInt ≤ i → (i : Int) < (S.1 6).toInt → u (9 * x3.toNatClampNeg + i) = S.2 31 i) ∧ (∀ j : Nat, (j : Int) < 9 * x3.toInt + x.toInt ∨ 9 * x3.toInt + (S.1 6).toInt ≤ j → u j = S.2 33 j) := by
  intro n
  induction n with
  | zero => intro S x h9 h1 h2 h3; omega
  | succ n ih =>
    intro S x h9 h1 h2 h3
    rw [lp_X11_carried_198]
    unfold st_X11_carried_198
    by_cases c : S.1 6 ≤ x
    · rw [if_pos c]
      have c := iLe.mp c
      refine ⟨S.2 33, ?_, fun i a b => by omega, fun j _ => rfl⟩
      rw [sR_id]
      rfl
    · rw [if_neg c]
      have c := mt iLe.mpr c
      have e := iAdd (x := x) (y := 1) (by rw [i1]; omega) (by rw [i1]; omega)
      rw [i1] at e
      have k := iNat h1
      have k1 := iNat hx.1
      have cc := c9 hx h1 (by omega)
      obtain ⟨u, q1, q2, q3⟩ := ih (sA S 33 (9 * x3.toNatClampNeg + x.toNatClampNeg) (S.2 31 x.toNatClampNeg)) (x + 1) h9 (by omega) (by show _ ≤ (S.1 6).toInt; omega) (by show (S.1 6).toInt - _ < _; omega)
      rw [sR_sA] at q1
      have q3 : ∀ j : Nat, (j : Int) < 9 * x3.toInt + (x + 1).toInt ∨ 9 * x3.toInt + (S.1 6).toInt ≤ j → u j = upd (S.2 33) (9 * x3.toNatClampNeg + x.toNatClampNeg) (S.2 31 x.toNatClampNeg) j := q3
      refine ⟨u, ?_, fun i a b => ?_, fun j z => ?_⟩
      · rw [cc]
        exact q1
      · by_cases y : i = x.toNatClampNeg
        · subst y
          rw [q3 (9 * x3.toNatClampNeg + x.toNatClampNeg) (by omega)]
          exact upd_eq
        · exact q2 i (by omega) b
      · rw [q3 j (by omega)]
        exact upd_ne (by omega)
/-- the top, by its place -/
theorem top_m {S : HS} (hp : 1 ≤ (S.1 6).toInt) : (f_X11_top S).1.toNatClampNeg = hM S 0 ((S.1 6).toNatClampNeg - 1) := by
  have e := topN hp
  have k := iNat (x := S.1 6) (by omega)
  have c : (S.1 6 - 1).toNatClampNeg = (S.1 6).toNatClampNeg - 1 := by omega
  show (S.2 31 (S.1 6 - 1).toNatClampNeg).toNatClampNeg = (S.2 31 ((S.1 6).toNatClampNeg - 1)).toNatClampNeg
  rw [c]
/-- who is not a MAIN stands above another one -/
theorem two_p {N : Int} {S : HS} (h : HI N S) (hp : 1 ≤ (S.1 6).toInt) (k : S.2 14 (f_X11_top S).1.toNatClampNeg ≠ 1) : 2 ≤ (S.1 6).toInt := by
  refine Classical.byContradiction (fun z => k ?_)
  rw [top_m hp]
  have n := iNat (x := S.1 6) (by omega)
  have e : (S.1 6).toNatClampNeg - 1 = 0 := by omega
  rw [e]
  exact h.1.2.2.2.1 0 ⟨by omega, by show ((0 : Nat) : Int) < (S.1 6).toInt; omega⟩ True.intro
theorem car_1 {N : Int} {S : HS} (h : HI N S) (hp : 1 ≤ (S.1 6).toInt) (x2 : Int32) (y : Int32) :
    lq_X11_carried_70 100000 (sI (sI S 9 y) 39 (S.2 19 (f_X11_top S).1.toNatClampNeg)) (f_X11_top S).1 x2 0 ∧ CO N S (lp_X11_carried_70 100000 (sI (sI S 9 y) 39 (S.2 19 (f_X11_top S).1.toNatClampNeg)) (f_X11_top S).1 x2 0).2 := by
  have t := top_in h.ra hp
  have k := iNat (x := S.1 6) (by omega)
  have w := (h.1.2.2.2.2.1 0 ((S.1 6).toNatClampNeg - 1) ⟨by omega, by show _ < (S.1 6).toInt; omega⟩).2.1
  rw [← top_m hp] at w
  have h' : HI N (sI (sI S 9 y) 39 (S.2 19 (f_X11_top S).1.toNatClampNeg)) := ⟨h.1, h.2.1, h.2.2.1, ⟨by show -1 ≤ (S.2 19 (f_X11_top S).1.toNatClampNeg).toInt; omega, by show (S.2 19 (f_X11_top S).1.toNatClampNeg).toInt ≤ 400; omega⟩, h.2.2.2.2⟩
  refine ⟨main_q t x2 100000 _ 0 h'.ra hp w.2 (by rw [i0]; omega) (by rw [i0]; omega) (by rw [i0]; omega), ?_⟩
  obtain ⟨u, q⟩ := main_l (f_X11_top S).1 x2 100000 (sI (sI S 9 y) 39 (S.2 19 (f_X11_top S).1.toNatClampNeg)) 0 w.2 (by rw [i0]; omega) (by rw [i0]; omega) (by rw [i0]; omega)
  rw [q]
  exact ⟨goes_i (S := sR (sI (sI S 9 y) 39 (S.2 19 (f_X11_top S).1.toNatClampNeg)) 38 u) h' hp, rfl, rfl⟩
theorem hi_24 {N : Int} {S : HS} (h : HI N S) (i : Nat) (v : Int32) : HI N (sA S 24 i v) := h
theorem car_6 {N : Int} {S : HS} (h : HI N S) (hp : 2 ≤ (S.1 6).toInt) (x1 x2 : Int32) :
    (p_X11_goes S ∧ q_X11_carried_a138 (f_X11_goes S).2 x1 x2) ∧ CO N S (b_X11_carried_a138 (f_X11_goes S).2 x1 x2).2 := by
  have g := goes_i h (by omega)
  have e := topN (S := S) (by omega)
  have hp' : 1 ≤ ((f_X11_goes S).2.1 6).toInt := by
    rw [goes_e]
    show 1 ≤ (S.1 6 - 1).toInt
    omega
  have t := top_in g.ra hp'
  exact ⟨⟨goes_p h.ra (by omega), top_p g.ra hp', vIn t.1 t.2, True.intro⟩, hi_24 g _ _, rfl, rfl⟩
theorem car_8 {N : Int} {S : HS} (h : HI N S) (hp : 1 ≤ (S.1 6).toInt) (x1 x2 : Int32) :
    (p_X11_goes S ∧ q_X11_carried_a155 (f_X11_goes S).2 x1 x2) ∧ CO N S (b_X11_carried_a155 (f_X11_goes S).2 x1 x2).2 := by
  have g := goes_i h hp
  have s := h.2.2.1
  unfold q_X11_carried_a155 b_X11_carried_a155
  refine ⟨⟨goes_p h.ra hp, adj_q x1 x2 100000 _ 0 s.2 (by rw [i0]; omega) (by rw [i0]; show 0 ≤ (S.1 0).toInt; omega) (by rw [i0]; show (S.1 0).toInt - 0 < _; omega)⟩, ?_⟩
  obtain ⟨u, q⟩ := adj_l x1 x2 100000 (f_X11_goes S).2 0 (by rw [i0]; omega) (by rw [i0]; omega) s.2 (by rw [i0]; omega)
  rw [q]
  exact ⟨g, rfl, rfl⟩
/-- the places that what is carried needs -/
def pF (S : HS) : Prop := (∃ p, p < 8 ∧ S.2 34 p = 0) ∧ (wD S → ∃ p q, p < 8 ∧ q < 8 ∧ p ≠ q ∧ S.2 34 p = 0 ∧ S.2 34 q = 0)
theorem hG.pf {S : HS} (h : hG S) (q : wP S) : pF S := ⟨h.1 (Or.inl q), fun r => h.2 ⟨q, r⟩⟩
theorem pF.other {S : HS} (h : pF S) (q : wD S) (y : Nat) : ∃ p, p < 8 ∧ p ≠ y ∧ S.2 34 p = 0 := by
  obtain ⟨p, r, a, b, c, d, e⟩ := h.2 q
  by_cases z : p = y
  · exact ⟨r, b, fun w => c (z.trans w.symm), e⟩
  · exact ⟨p, a, z, d⟩
theorem pF.goes {S : HS} (h : pF S) : pF (f_X11_goes S).2 := by
  rw [goes_e]
  exact ⟨h.1, h.2⟩
/-- the row 0 put upon the desk -/
def tD (T : HS) (u : Nat → Int32) (p : Nat) (v z : Int32) : HS := sI (sA (sA (sR T 33 u) 34 p (T.1 6)) 37 p v) 6 z
theorem tD_z {T : HS} {u : Nat → Int32} {p : Nat} {v z : Int32} (h : hZ T) (hv : v = 0 ∨ v = 1) : hZ (tD T u p v z) := by
  refine ⟨h.1, h.2.1, h.2.2.1, fun r c => ?_⟩
  show upd (T.2 37) p v r = 0 ∨ upd (T.2 37) p v r = 1
  unfold upd
  split
  · exact hv
  · exact h.2.2.2 r c
theorem tD_f {T : HS} {u : Nat → Int32} {p : Nat} {v z : Int32} (h : pF T) (hz : z.toInt = 0) : hG (tD T u p v z) := by
  have nw : ¬ wP (tD T u p v z) := fun ⟨i, a, b⟩ => by
    have c : (i : Int) < z.toInt := a.2
    omega
  refine ⟨fun q => ?_, fun q => absurd q.1 nw⟩
  obtain ⟨r, r1, r2, r3⟩ := h.other (q.resolve_left nw) p
  exact ⟨r, r1, by show upd (T.2 34) p (T.1 6) r = 0; rw [upd_ne r2]; exact r3⟩
theorem tD_c {N : Int} {T : HS} {u : Nat → Int32} {p : Nat} {v z : Int32} (g : HC N T) (hp : p < 8) (hf : T.2 34 p = 0) (hz : z.toInt = 0) (hv : v = 0 → (T.1 6).toInt ≤ 1)
    (q2 : ∀ i : Nat, (i : Int) < (T.1 6).toInt → u (9 * p + i) = T.2 31 i) (q3 : ∀ j : Nat, (j : Int) < 9 * p ∨ 9 * (p : Int) + (T.1 6).toInt ≤ j → u j = T.2 33 j) : HC N (tD T u p v z) := by
  have n0 := g.1 0 (by omega)
  have e0 : hN T 0 = (T.1 6).toInt := rfl
  have f20 : hN T (p + 2) = 0 := by
    show (T.2 34 p).toInt = 0
    rw [hf, i0]
  have nd' : hN (tD T u p v z) (p + 2) = (T.1 6).toInt := by
    show (upd (T.2 34) p (T.1 6) p).toInt = _
    rw [upd_eq]
  have td : hT (tD T u p v z) (p + 2) ↔ v ≠ 0 := by
    show upd (T.2 37) p v p ≠ 0 ↔ _
    rw [upd_eq]
  refine g.xfer 0 (p + 2) 0 (by omega) (by omega) (by omega) (by omega) rfl ⟨rfl, rfl, rfl, rfl, rfl⟩ rfl (fun _ _ _ _ => rfl) hz ?_ ?_ (fun t => ?_) ?_ (fun i c => absurd c (by omega)) ?_ ?_ (fun c => absurd c (by omega)) (fun c => absurd c (by omega)) (fun c => absurd c (by omega)) (fun c => absurd c (by omega))
  · rw [nd']; omega
  · rw [nd']; omega
  · rw [nd']
    exact hv (Classical.byContradiction (fun y => t (td.mpr y)))
  · intro g' q a b
    rcases g' with _ | _ | r
    · exact absurd rfl a
    · exact ⟨rfl, Iff.rfl, fun i c => rfl⟩
    · have ne : r ≠ p := fun y => b (by rw [y])
      have np := g.1 (r + 2) q
      refine ⟨?_, ?_, fun i c => ?_⟩
      · show (upd (T.2 34) p (T.1 6) r).toInt = (T.2 34 r).toInt
        rw [upd_ne ne]
      · show upd (T.2 37) p v r ≠ 0 ↔ T.2 37 r ≠ 0
        rw [upd_ne ne]
      · have c : (i : Int) < hN T (r + 2) := c
        exact q3 (9 * r + i) (by omega)
  · intro i c
    rw [e0] at c
    rw [Nat.zero_add]
    exact q2 i c
  · intro _ c t
    exact g.2.2.2.1 0 ⟨by omega, c⟩ True.intro
theorem a190_i {N : Int} {T : HS} (g : HI N T) (hf' : pF T) (x1 x2 : Int32) : q_X11_carried_a190 T x1 x2 ∧ CO N T (b_X11_carried_a190 T x1 x2).2 := by
  obtain ⟨fs, f1, f2⟩ := free_i hf'.1
  unfold q_X11_carried_a190 b_X11_carried_a190
  rw [fs]
  have n0 := g.1.1 0 (by omega)
  have e0 : hN T 0 = (T.1 6).toInt := rfl
  unfold q_X11_carried_a194 b_X11_carried_a194
  refine ⟨⟨free_p T, table_q f1 x1 x2 100000 T 0 (by omega) (by rw [i0]; omega) (by rw [i0]; omega) (by rw [i0]; omega)⟩, ?_⟩
  generalize (f_X11_free T).1 = p at f1 f2
  have k1 := iNat f1.1
  obtain ⟨u, q1, q2, q3⟩ := table_l f1 x1 x2 100000 T 0 (by omega) (by rw [i0]; omega) (by rw [i0]; omega) (by rw [i0]; omega)
  rw [i0] at q2 q3
  rw [q1]
  exact ⟨⟨tD_c g.1 (by omega) f2 i0 (fun y => absurd y (by decide)) (fun i a => q2 i (by omega) a) (fun j a => q3 j (by omega)), tD_f hf' i0, tD_z g.2.2 (Or.inr rfl)⟩, rfl, rfl⟩
theorem car_7 {N : Int} {S : HS} (h : HI N S) (hp : 1 ≤ (S.1 6).toInt) (hf : pF S) (x1 x2 : Int32) :
    (p_X11_goes S ∧ q_X11_carried_a190 (f_X11_goes S).2 x1 x2) ∧ CO N S (b_X11_carried_a190 (f_X11_goes S).2 x1 x2).2 := by
  have a := a190_i (goes_i h hp) hf.goes x1 x2
  have g7 : (f_X11_goes S).2.1 7 = S.1 7 := by rw [goes_e]; rfl
  have g8 : (f_X11_goes S).2.1 8 = S.1 8 := by rw [goes_e]; rfl
  exact ⟨⟨goes_p h.ra hp, a.1⟩, a.2.1, a.2.2.1.trans g7, a.2.2.2.trans g8⟩
end
section
/-! ===== carried: an AMEND, a SECOND ===== -/
theorem ar1 {w v f t x : Int} (a1 : 0 ≤ w ∧ w ≤ 400) (a2 : 0 ≤ v ∧ v ≤ 400) (a3 : 0 ≤ f ∧ f ≤ t) (a4 : t ≤ w) (a5 : w + v - (t - f) ≤ 400) (e : x = v - (t - f)) : 0 ≤ w + x ∧ w + x ≤ 400 := by omega
theorem ar2 {v f t x y z N : Int} (h0 : 0 ≤ N) (h6 : N ≤ 1000000) (a2 : 0 ≤ v ∧ v ≤ 400) (a3 : 0 ≤ f ∧ f ≤ t ∧ t ≤ 400 * (N + 1)) (e : x = v - (t - f)) (b : 0 ≤ y ∧ y ≤ z ∧ z ≤ 400 * (N + 1)) : (-2147483648 ≤ y + x ∧ y + x ≤ 2147483647) ∧ (-2147483648 ≤ z + x ∧ z + x ≤ 2147483647) := by omega
theorem ar3 {v f t x y z N : Int} (a2 : 0 ≤ v ∧ v ≤ 400) (a3 : 0 ≤ f ∧ f ≤ t ∧ t ≤ 400 * (N + 1)) (e : x = v - (t - f)) (b : 0 ≤ y ∧ y ≤ z ∧ z ≤ 400 * (N + 1)) (c : t ≤ y) : 0 ≤ y + x ∧ y + x ≤ z + x ∧ z + x ≤ 400 * (N + 1 + 1) := by omega
theorem ar4 {p w v f t x a b : Int} (e : x = v - (t - f)) (c : p + (w + v - (t - f)) - (a - b) ≤ 400) : p + (w + x) - (a - b) ≤ 400 := by omega
theorem car_2 {N : Int} {S : HS} (h : HI N S) (hN0 : 0 ≤ N) (hN6 : N ≤ 1000000) (hp : 2 ≤ (S.1 6).toInt) (hk : S.2 14 (f_X11_top S).1.toNatClampNeg = 2 ∨ S.2 14 (f_X11_top S).1.toNatClampNeg = 3) (x2 : Int32) :
    q_X11_carried_111 S (f_X11_top S).1 x2 ∧ CO (N + 1) S (b_X11_carried_111 S (f_X11_top S).1 x2).2 := by
  have hr := h.ra
  have t := top_in hr (by omega)
  have n0 := h.1.1 0 (by omega)
  have e0 : hN S 0 = (S.1 6).toInt := rfl
  have n6 := iNat (x := S.1 6) (by omega)
  have i2 : (2 : Int32).toInt = 2 := by decide
  have e2 := iSub (x := S.1 6) (y := 2) (by rw [i2]; omega) (by rw [i2]; omega)
  rw [i2] at e2
  have k2 := iNat (x := S.1 6 - 2) (by omega)
  obtain ⟨k, hkk⟩ : ∃ k : Nat, (S.1 6).toInt = k + 2 := ⟨(S.1 6).toNatClampNeg - 2, by omega⟩
  have ek : (S.1 6 - 2).toNatClampNeg = k := by omega
  have em : (f_X11_top S).1.toNatClampNeg = hM S 0 (k + 1) := by
    rw [top_m (by omega)]
    congr 1
    omega
  have lm : hL S 0 (k + 1) := ⟨by omega, by omega⟩
  have lt : hL S 0 k := ⟨by omega, by omega⟩
  have vt := h.1.2.1 0 k lt
  have wm := h.1.2.2.2.2.1 0 (k + 1) lm
  have wt := h.1.2.2.2.2.1 0 k lt
  have ch := h.1.2.2.2.2.2.2.2.1 0 k lm
  have c3 := h.1.2.2.2.2.2.2.2.2
  rw [em] at hk
  have cc := ch.2.1 hk
  unfold q_X11_carried_111 b_X11_carried_111
  rw [ek]
  have v1 : vp_in (S.2 31 k) 90 := vIn vt.1 vt.2.1
  have v2 : vp_in (f_X11_top S).1 90 := vIn t.1 t.2
  have et : (S.2 31 k).toNatClampNeg = hM S 0 k := rfl
  obtain ⟨p, x6, e6, q1, q2, q3, q4⟩ := change_i hr v1 v2 (by rw [et]; exact wt.2.1) (by rw [em]; exact wm.2.1) (by rw [em, et]; exact ⟨wm.2.2.1, wm.2.2.2.1, cc.2.1⟩) (by rw [em, et]; exact cc.2.2)
  rw [em] at e6
  rw [et] at q3 q4
  rw [em] at q4
  generalize (f_X11_change S (S.2 31 k) (f_X11_top S).1).2 = T at p q1 q2 q3 q4
  have rT : RA T := by
    unfold RA
    rw [q1, q2 31 (by omega) (by omega) (by omega) (by omega) (by omega), q2 32 (by omega) (by omega) (by omega) (by omega) (by omega)]
    exact hr
  have hpT : 1 ≤ (T.1 6).toInt := by rw [q1]; omega
  refine ⟨⟨vIn (by omega) (by omega), p, goes_p rT hpT, True.intro⟩, ?_⟩
  -- the row without its top, in which the words change
  have g := goes_i h (show 1 ≤ (S.1 6).toInt by omega)
  have eg := goes_e S
  have eT := goes_e T
  have tn := topN (S := S) (by omega)
  have eg1 : ∀ j, j ≠ 6 → (f_X11_goes S).2.1 j = S.1 j := fun j a => by rw [eg]; exact upd_ne a
  show CO (N + 1) S (f_X11_goes T).2
  have top' : (T.2 31 (T.1 6 - 1).toNatClampNeg).toNatClampNeg = (S.2 31 (S.1 6 - 1).toNatClampNeg).toNatClampNeg := by
    rw [q1, q2 31 (by omega) (by omega) (by omega) (by omega) (by omega)]
  have r1 : (f_X11_goes T).2.1 = (f_X11_goes S).2.1 := by
    rw [eT, eg]
    show upd T.1 6 (T.1 6 - 1) = upd S.1 6 (S.1 6 - 1)
    rw [q1]
  have rk : ∀ j, j ≠ 13 → (f_X11_goes T).2.2 j = T.2 j := fun j a => by rw [eT]; exact sA_k a
  have sk : ∀ j, j ≠ 13 → (f_X11_goes S).2.2 j = S.2 j := fun j a => by rw [eg]; exact sA_k a
  have r13 : (f_X11_goes T).2.2 13 = (f_X11_goes S).2.2 13 := by
    rw [eT, eg]
    show upd (T.2 13) _ 0 = upd (S.2 13) _ 0
    rw [top', q2 13 (by omega) (by omega) (by omega) (by omega) (by omega)]
  have ro : ∀ j, j ≠ 19 → j ≠ 20 → j ≠ 21 → j ≠ 26 → j ≠ 28 → (f_X11_goes T).2.2 j = (f_X11_goes S).2.2 j := fun j a b c d e => by
    by_cases z : j = 13
    · rw [z]
      exact r13
    · rw [rk j z, sk j z]
      exact q2 j a b c d e
  have r19 : (f_X11_goes T).2.2 19 = upd (S.2 19) (hM S 0 k) (S.2 19 (hM S 0 k) + x6) := by rw [rk 19 (by omega), q3]
  have r20 : (f_X11_goes T).2.2 20 = T.2 20 := rk 20 (by omega)
  have r21 : (f_X11_goes T).2.2 21 = T.2 21 := rk 21 (by omega)
  have pN : hN (f_X11_goes S).2 0 = k + 1 := by
    rw [eg]
    show (S.1 6 - 1).toInt = _
    omega
  have pM : ∀ i, hM (f_X11_goes S).2 0 i = hM S 0 i := fun i => by rw [eg]; rfl
  have cw : 0 ≤ (S.2 19 (hM S 0 k)).toInt + x6.toInt ∧ (S.2 19 (hM S 0 k)).toInt + x6.toInt ≤ 400 := ar1 wt.2.1 wm.2.1 ⟨wm.2.2.1, wm.2.2.2.1⟩ cc.2.1 cc.2.2 e6
  have nw := iAdd (x := S.2 19 (hM S 0 k)) (y := x6) (by omega) (by omega)
  generalize (f_X11_goes T).2 = R at r1 rk r13 ro r19 r20 r21
  generalize (f_X11_goes S).2 = P at g r1 sk r13 ro pN pM eg1
  have s20 := sk 20 (by omega)
  have s21 := sk 21 (by omega)
  have s22 := sk 22 (by omega)
  have s23 := sk 23 (by omega)
  have s19 := sk 19 (by omega)
  have s14 := sk 14 (by omega)
  have s31 : ∀ i, hL P 0 i → (S.2 31 i).toNatClampNeg = hM P 0 i := fun i _ => (pM i).symm
  have gt : S.2 14 (hM S 0 k) ≠ 3 := fun y => by
    rcases hk with z | z
    · exact (ch.2.2.2 z).2 y
    · have := ch.2.2.1 z
      rw [y] at this
      exact absurd this (by decide)
  refine ⟨⟨?_, ?_, ?_⟩, ?_, ?_⟩
  · refine g.1.change k (hM S 0 k) (by omega) pN (pM k) (by rw [r1]) r13 (ro 14 (by omega) (by omega) (by omega) (by omega) (by omega)) (ro 22 (by omega) (by omega) (by omega) (by omega) (by omega)) (ro 23 (by omega) (by omega) (by omega) (by omega) (by omega)) ?_ ?_ ?_ ?_ ?_ ?_ ?_
    · intro x a b
      rw [r19, s19]
      exact upd_ne b
    · rw [r19, upd_eq, nw]
      exact cw
    · intro x a
      rw [r20, r21, s20, s21, s22, s23]
      refine (q4 x a).imp (fun q => q) (fun q => ⟨q.1, fun i b => ?_, fun f => ?_⟩)
      · rw [pM i]
        refine q.2.1 i ?_
        have b2 := b.2
        omega
      · have u1 := q.2.2.1
        have u2 := q.2.2.2
        have a1 := wm.2.1
        have a2 := wm.2.2
        have ar := ar2 hN0 hN6 a1 a2 e6 f
        have f20 := iAdd (x := S.2 20 x) (y := x6) ar.1.1 ar.1.2
        have f21 := iAdd (x := S.2 21 x) (y := x6) ar.2.1 ar.2.2
        rw [u2.1, u2.2, f20, f21]
        exact ar3 a1 a2 e6 f u1
    · rw [s14]
      exact gt
    · intro y z
      rw [s14] at y
      rw [s19, s20, s21, pM, r19, upd_eq, nw]
      have k3 : S.2 14 (hM S 0 (k + 1)) = 3 := hk.resolve_left (fun w => (ch.2.2.2 w).1 y)
      obtain ⟨j, hj⟩ : ∃ j, k = j + 1 := ⟨k - 1, by omega⟩
      subst hj
      have w := c3 0 j lm k3
      have ej : j + 1 - 1 = j := by omega
      rw [ej]
      exact ar4 e6 w
    · intro g' q
      rcases g' with _ | _ | r
      · refine ⟨?_, Iff.rfl⟩
        show (R.1 6).toInt = (P.1 6).toInt
        rw [r1]
      · refine ⟨?_, ?_⟩
        · show (R.1 35).toInt = (P.1 35).toInt
          rw [r1]
        · show R.1 36 ≠ 0 ↔ P.1 36 ≠ 0
          rw [r1]
      · refine ⟨?_, ?_⟩
        · show (R.2 34 r).toInt = (P.2 34 r).toInt
          rw [ro 34 (by omega) (by omega) (by omega) (by omega) (by omega)]
        · show R.2 37 r ≠ 0 ↔ P.2 37 r ≠ 0
          rw [ro 37 (by omega) (by omega) (by omega) (by omega) (by omega)]
    · intro g' i a
      rcases g' with _ | _ | r
      · show R.2 31 i = P.2 31 i
        rw [ro 31 (by omega) (by omega) (by omega) (by omega) (by omega)]
      · show R.2 32 i = P.2 32 i
        rw [ro 32 (by omega) (by omega) (by omega) (by omega) (by omega)]
      · show R.2 33 (9 * r + i) = P.2 33 (9 * r + i)
        rw [ro 33 (by omega) (by omega) (by omega) (by omega) (by omega)]
  · refine g.2.1.mono (ro 34 (by omega) (by omega) (by omega) (by omega) (by omega)) ?_ ?_
    · rintro ⟨i, a, b⟩
      have m : hM R 0 i = hM P 0 i := by
        show (R.2 31 i).toNatClampNeg = (P.2 31 i).toNatClampNeg
        rw [ro 31 (by omega) (by omega) (by omega) (by omega) (by omega)]
      rw [m, ro 14 (by omega) (by omega) (by omega) (by omega) (by omega)] at b
      refine ⟨i, ⟨a.1, ?_⟩, b⟩
      have a2 : (i : Int) < (R.1 6).toInt := a.2
      rw [r1] at a2
      exact a2
    · rintro ⟨a, b⟩
      have a : 0 < (R.1 35).toInt := a
      have b : R.1 36 ≠ 0 := b
      rw [r1] at a b
      exact ⟨a, b⟩
  · have z := g.2.2
    unfold hZ at z ⊢
    rw [r1, ro 37 (by omega) (by omega) (by omega) (by omega) (by omega)]
    exact z
  · rw [r1, eg1 7 (by omega)]
  · rw [r1, eg1 8 (by omega)]
end
section
/-! ===== carried: a COMMIT, a POSTPONE ===== -/
theorem hi_15 {N : Int} {S : HS} (h : HI N S) (i : Nat) (v : Int32) : HI N (sA S 15 i v) := h
theorem hi_16 {N : Int} {S : HS} (h : HI N S) (i : Nat) (v : Int32) : HI N (sA S 16 i v) := h
theorem hi_25 {N : Int} {S : HS} (h : HI N S) (i : Nat) (v : Int32) : HI N (sA S 25 i v) := h
theorem hi_27 {N : Int} {S : HS} (h : HI N S) (i : Nat) (v : Int32) : HI N (sA S 27 i v) := h
theorem fresh_i {N : Int} {D : HS} (h : HI N D) (hN0 : 0 ≤ N) (hN6 : N ≤ 1000000) (g0 : Nat) (hg : g0 < 10) (h1 : hN D g0 = 1) {x : Int32} (hm : hM D g0 0 = x.toNatClampNeg) (u : Nat → Int32) : HI (N + 1) (sR (aN D x) 29 u) := by
  refine ⟨h.1.fresh g0 x.toNatClampNeg hN0 hN6 hg h1 hm rfl upd_eq rfl rfl rfl rfl rfl rfl (fun y a b => upd_ne b) ?_ ?_, h.2.1, h.2.2⟩
  · intro g q
    rcases g with _ | _ | r
    · exact ⟨rfl, Iff.rfl⟩
    · exact ⟨rfl, Iff.rfl⟩
    · exact ⟨rfl, Iff.rfl⟩
  · intro g i a
    rcases g with _ | _ | r
    · rfl
    · rfl
    · rfl
theorem a322_i {N : Int} {T : HS} (h : HI N T) (x1 x2 x4 : Int32) {x3 : Int32} (v : vp_in x3 90) : q_X11_carried_a322 T x1 x2 x3 x4 ∧ HI N (b_X11_carried_a322 T x1 x2 x3 x4).2 ∧ (b_X11_carried_a322 T x1 x2 x3 x4).2.1 = T.1 := by
  have a353 : ∀ (U : HS) y0, HI N U → q_X11_carried_353 U x1 x2 x3 x4 y0 x3 ∧ HI N (b_X11_carried_353 U x1 x2 x3 x4 y0 x3).2 ∧ (b_X11_carried_353 U x1 x2 x3 x4 y0 x3).2.1 = U.1 := fun U y0 g => by
    unfold q_X11_carried_353 b_X11_carried_353
    by_cases z : x2 = 4
    · rw [if_pos z, if_pos z]
      exact ⟨⟨v, v, v, True.intro⟩, hi_16 (hi_15 (hi_27 g _ _) _ _) _ _, rfl⟩
    · rw [if_neg z, if_neg z]
      exact ⟨⟨v, True.intro⟩, hi_27 g _ _, rfl⟩
  have a337 : ∀ y0, q_X11_carried_337 T x1 x2 x3 x4 y0 x3 ∧ HI N (b_X11_carried_337 T x1 x2 x3 x4 y0 x3).2 ∧ (b_X11_carried_337 T x1 x2 x3 x4 y0 x3).2.1 = T.1 := fun y0 => by
    unfold q_X11_carried_337 b_X11_carried_337
    by_cases z : x2 = 4
    · rw [if_pos z, if_pos z]
      have a := a353 _ 1 (hi_25 h x3.toNatClampNeg (vp_nar .boolean y0))
      exact ⟨⟨v, a.1⟩, a.2.1, a.2.2⟩
    · rw [if_neg z, if_neg z]
      have a := a353 _ 0 (hi_25 h x3.toNatClampNeg (vp_nar .boolean y0))
      exact ⟨⟨v, a.1⟩, a.2.1, a.2.2⟩
  unfold q_X11_carried_a322 b_X11_carried_a322
  by_cases z : x2 = 5
  · rw [if_pos z, if_pos z]
    exact a337 1
  · rw [if_neg z, if_neg z]
    exact a337 0
theorem c9' {p : Int32} (hx : 0 ≤ p.toInt ∧ p.toInt ≤ 7) : (9 * p).toNatClampNeg = 9 * p.toNatClampNeg ∧ vp_in (9 * p) 72 := by
  have e9 : (9 : Int32).toInt = 9 := by decide
  have m := iMul (x := 9) (y := p) (n := 9 * p.toInt) (by rw [e9]) (by omega) (by omega)
  have a := iNat (x := 9 * p) (by omega)
  have b := iNat hx.1
  exact ⟨by omega, vIn (by omega) (by omega)⟩
theorem a283_i {N : Int} {S : HS} (h : HI N S) (hN0 : 0 ≤ N) (hN6 : N ≤ 1000000) (h1 : S.1 6 = 1) (hf : pF S) (x1 x2 : Int32) :
    (p_X11_free S ∧ q_X11_carried_a283 (f_X11_free S).2 x1 x2 (S.2 31 (0 : Int32).toNatClampNeg) (f_X11_free S).1) ∧ CO (N + 1) S (b_X11_carried_a283 (f_X11_free S).2 x1 x2 (S.2 31 (0 : Int32).toNatClampNeg) (f_X11_free S).1).2 := by
  obtain ⟨fs, f1, f2⟩ := free_i hf.1
  rw [fs]
  refine (fun (a : q_X11_carried_a283 S x1 x2 (S.2 31 (0 : Int32).toNatClampNeg) (f_X11_free S).1 ∧ _) => ⟨⟨free_p S, a.1⟩, a.2⟩) ?_
  generalize (f_X11_free S).1 = p at f1 f2
  have k1 := iNat f1.1
  have c := c9' f1
  have n1 : (S.1 6).toInt = 1 := by rw [h1, i1]
  have l0 : hL S 0 0 := ⟨by omega, by show ((0 : Nat) : Int) < (S.1 6).toInt; omega⟩
  have v0 := h.1.2.1 0 0 l0
  unfold q_X11_carried_a283 b_X11_carried_a283
  rw [zn0, c.1]
  have vl : vp_in (S.2 31 0) 90 := vIn v0.1 v0.2.1
  have eD : sI (sA (sA (sA S 33 (9 * p.toNatClampNeg) (S.2 31 0)) 34 p.toNatClampNeg 1) 37 p.toNatClampNeg (vp_nar .boolean 0)) 6 0 = tD S (upd (S.2 33) (9 * p.toNatClampNeg) (S.2 31 0)) p.toNatClampNeg 0 0 := by
    unfold tD
    rw [h1, vb0, sA_sR S 33]
  rw [eD]
  have hD : HI N (tD S (upd (S.2 33) (9 * p.toNatClampNeg) (S.2 31 0)) p.toNatClampNeg 0 0) := by
    refine ⟨tD_c h.1 (by omega) f2 i0 (fun _ => by omega) (fun i a => ?_) (fun j a => upd_ne (by omega)), tD_f hf i0, tD_z h.2.2 (Or.inl rfl)⟩
    have e : i = 0 := by omega
    subst e
    exact upd_eq
  have nD : hN (tD S (upd (S.2 33) (9 * p.toNatClampNeg) (S.2 31 0)) p.toNatClampNeg 0 0) (p.toNatClampNeg + 2) = 1 := by
    show (upd (S.2 34) p.toNatClampNeg (S.1 6) p.toNatClampNeg).toInt = 1
    rw [upd_eq]
    exact n1
  have mD : hM (tD S (upd (S.2 33) (9 * p.toNatClampNeg) (S.2 31 0)) p.toNatClampNeg 0 0) (p.toNatClampNeg + 2) 0 = (S.2 31 0).toNatClampNeg := by
    show (upd (S.2 33) (9 * p.toNatClampNeg) (S.2 31 0) (9 * p.toNatClampNeg + 0)).toNatClampNeg = _
    rw [Nat.add_zero, upd_eq]
  have gA : ∀ j, j ≠ 6 → (tD S (upd (S.2 33) (9 * p.toNatClampNeg) (S.2 31 0)) p.toNatClampNeg 0 0).1 j = S.1 j := fun j a => upd_ne a
  generalize tD S (upd (S.2 33) (9 * p.toNatClampNeg) (S.2 31 0)) p.toNatClampNeg 0 0 = D at hD nD mD gA
  obtain ⟨u, q⟩ := anew_e D (S.2 31 0)
  rw [q]
  have a := a322_i (fresh_i hD hN0 hN6 (p.toNatClampNeg + 2) (by omega) nD mD u) x1 x2 p vl
  have vp : vp_in p 8 := vIn f1.1 (by omega)
  have v0' := vp_in_iff.mp vl
  refine ⟨⟨c.2, vp, vp, anew_p D v0', a.1⟩, a.2.1, ?_, ?_⟩
  · rw [a.2.2]
    exact gA 7 (by omega)
  · rw [a.2.2]
    exact gA 8 (by omega)
theorem car_4 {N : Int} (hN0 : 0 ≤ N) (hN6 : N ≤ 1000000) (x1 x2 : Int32) : ∀ (n : Nat) (S : HS), HI N S → pF S → 1 ≤ (S.1 6).toInt → (S.1 6).toInt < n + 1 → lq_X11_carried_257 n S x1 x2 ∧ CO (N + 1) S (lp_X11_carried_257 n S x1 x2).2 := by
  intro n
  induction n with
  | zero => intro S h hf hp q; omega
  | succ n ih =>
    intro S h hf hp q
    rw [lq_X11_carried_257, lp_X11_carried_257]
    unfold ps_X11_carried_257 st_X11_carried_257
    by_cases c : S.1 6 ≤ 1
    · rw [if_pos c, if_pos c]
      have c := iLe.mp c
      rw [i1] at c
      have a := a283_i h hN0 hN6 (iEq.mpr (by rw [i1]; omega)) hf x1 x2
      dsimp only
      exact ⟨⟨⟨vIn (by rw [i0]; omega) (by rw [i0]; omega), a.1⟩, True.intro⟩, a.2⟩
    · rw [if_neg c, if_neg c]
      have c := mt iLe.mpr c
      rw [i1] at c
      have e := topN hp
      have g6 : ((f_X11_goes S).2.1 6).toInt = (S.1 6).toInt - 1 := by
        rw [goes_e]
        exact e.1
      have a := ih (f_X11_goes S).2 (goes_i h hp) hf.goes (by omega) (by omega)
      have g7 : (f_X11_goes S).2.1 7 = S.1 7 := by rw [goes_e]; rfl
      have g8 : (f_X11_goes S).2.1 8 = S.1 8 := by rw [goes_e]; rfl
      exact ⟨⟨⟨goes_p h.ra hp, True.intro⟩, a.1⟩, a.2.1, a.2.2.1.trans g7, a.2.2.2.trans g8⟩
end
section
/-! ===== carried, told ===== -/
theorem carried_i {N : Int} {S : HS} (h : HI N S) (hN0 : 0 ≤ N) (hN6 : N ≤ 1000000) (hp : 1 ≤ (S.1 6).toInt) (k9 : S.2 14 (f_X11_top S).1.toNatClampNeg ≠ 9) :
    p_X11_carried S (f_X11_top S).1 (S.2 14 (f_X11_top S).1.toNatClampNeg) ∧ CO (N + 1) S (f_X11_carried S (f_X11_top S).1 (S.2 14 (f_X11_top S).1.toNatClampNeg)).2 := by
  have n6 := iNat (x := S.1 6) (by omega)
  have lt : hL S 0 ((S.1 6).toNatClampNeg - 1) := ⟨by omega, by show _ < (S.1 6).toInt; omega⟩
  have w := (h.1.2.2.2.2.1 0 _ lt).1
  rw [← top_m hp] at w
  have t := top_in h.ra hp
  have vt : vp_in (f_X11_top S).1 90 := vIn t.1 t.2
  have wp : S.2 14 (f_X11_top S).1.toNatClampNeg = 4 ∨ S.2 14 (f_X11_top S).1.toNatClampNeg = 5 ∨ S.2 14 (f_X11_top S).1.toNatClampNeg = 7 → pF S := fun q => h.2.1.pf ⟨_, lt, by rw [← top_m hp]; exact q⟩
  have tw := two_p h hp
  have c2 := car_2 h hN0 hN6
  have up : ∀ r, CO N S r → CO (N + 1) S r := fun r q => ⟨q.1.up (by omega), q.2⟩
  have d1 := car_1 h hp (S.2 14 (f_X11_top S).1.toNatClampNeg) ((S.1 9) + 1)
  generalize hk : S.2 14 (f_X11_top S).1.toNatClampNeg = k at *
  unfold p_X11_carried f_X11_carried
  by_cases z1 : k = 1
  · rw [if_pos z1, if_pos z1]
    exact ⟨⟨vt, d1.1⟩, up _ d1.2⟩
  rw [if_neg z1, if_neg z1]
  have tw := tw z1
  by_cases z2 : k = 2
  · rw [if_pos z2, if_pos z2]
    exact c2 tw (Or.inl z2) k
  rw [if_neg z2, if_neg z2]
  by_cases z3 : k = 3
  · rw [if_pos z3, if_pos z3]
    exact c2 tw (Or.inr z3) k
  rw [if_neg z3, if_neg z3]
  by_cases z6 : k = 6
  · rw [if_pos z6, if_pos z6]
    exact (car_6 h tw (f_X11_top S).1 k).imp (fun a => a) (up _)
  rw [if_neg z6, if_neg z6]
  by_cases z7 : k = 7
  · rw [if_pos z7, if_pos z7]
    exact (car_7 h hp (wp (Or.inr (Or.inr z7))) (f_X11_top S).1 k).imp (fun a => a) (up _)
  rw [if_neg z7, if_neg z7]
  by_cases z8 : k = 8
  · rw [if_pos z8, if_pos z8]
    exact (car_8 h hp (f_X11_top S).1 k).imp (fun a => a) (up _)
  rw [if_neg z8, if_neg z8]
  have e4 : (4 : Int32).toInt = 4 := by decide
  have e5 : (5 : Int32).toInt = 5 := by decide
  have w4 : k = 4 ∨ k = 5 := by
    have y1 := mt iEq.mpr z1
    have y2 := mt iEq.mpr z2
    have y3 := mt iEq.mpr z3
    have y6 := mt iEq.mpr z6
    have y7 := mt iEq.mpr z7
    have y8 := mt iEq.mpr z8
    have y9 := mt iEq.mpr k9
    have f2 : (2 : Int32).toInt = 2 := by decide
    have f3 : (3 : Int32).toInt = 3 := by decide
    have f6 : (6 : Int32).toInt = 6 := by decide
    have f7 : (7 : Int32).toInt = 7 := by decide
    have f8 : (8 : Int32).toInt = 8 := by decide
    have f9 : (9 : Int32).toInt = 9 := by decide
    rw [i1] at y1
    rw [f2] at y2
    rw [f3] at y3
    rw [f6] at y6
    rw [f7] at y7
    rw [f8] at y8
    rw [f9] at y9
    by_cases q : k.toInt = 4
    · exact Or.inl (iEq.mpr (by rw [e4]; exact q))
    · exact Or.inr (iEq.mpr (by rw [e5]; omega))
  have n0 := h.1.1 0 (by omega)
  have e0 : hN S 0 = (S.1 6).toInt := rfl
  exact car_4 hN0 hN6 (f_X11_top S).1 k 100000 S h (wp (w4.elim Or.inl (fun q => Or.inr (Or.inl q)))) hp (by omega)
theorem hi_41 {N : Int} {S : HS} (h : HI N S) (i : Nat) (v : Int32) : HI N (sA S 41 i v) := h
theorem hi_8 {N : Int} {S : HS} (h : HI N S) (v : Int32) : HI N (sI S 8 v) := h
theorem hi_5 {N : Int} {S : HS} (h : HI N S) (v : Int32) : HI N (sI S 5 v) := h
theorem carries_s (S : HS) (x1 x2 x3 : Int32) : (f_X11_carries S x1 x2 x3).2 = S := by
  unfold f_X11_carries
  repeat' split
  all_goals rfl
theorem told_184 {N : Int} {S : HS} (h : HI N S) (hN0 : 0 ≤ N) (hN6 : N ≤ 1000000) (hp : 1 ≤ (S.1 6).toInt) (hr : 0 ≤ (S.1 8).toInt ∧ (S.1 8).toInt < 600) (x3 x4 x5 : Int32) (q1 : x5 = 1 → S.2 14 (f_X11_top S).1.toNatClampNeg ≠ 9) (q4 : x5 = 4 → 2 ≤ (S.1 6).toInt) :
    q_X11_told_184 S (f_X11_top S).1 (S.2 14 (f_X11_top S).1.toNatClampNeg) x3 x4 x5 ∧ DO (N + 1) S (b_X11_told_184 S (f_X11_top S).1 (S.2 14 (f_X11_top S).1.toNatClampNeg) x3 x4 x5).2 := by
  have ix : ∀ j : Int32, 0 ≤ j.toInt → j.toInt ≤ 4 → vp_in ((5 * (S.1 8)) + j) 3000 := fun j a b => by
    have e5 : (5 : Int32).toInt = 5 := by decide
    have m := iMul (x := 5) (y := S.1 8) (n := 5 * (S.1 8).toInt) (by rw [e5]) (by omega) (by omega)
    have c := iAdd (x := 5 * (S.1 8)) (y := j) (by omega) (by omega)
    exact vIn (by omega) (by omega)
  have ix0 : vp_in (5 * (S.1 8)) 3000 := by
    have e5 : (5 : Int32).toInt = 5 := by decide
    have m := iMul (x := 5) (y := S.1 8) (n := 5 * (S.1 8).toInt) (by rw [e5]) (by omega) (by omega)
    exact vIn (by omega) (by omega)
  unfold q_X11_told_184 b_X11_told_184
  generalize hT' : (sI (sI (sA (sA (sA (sA (sA S 41 (5 * (S.1 8)).toNatClampNeg (S.1 7)) 41 ((5 * (S.1 8)) + 1).toNatClampNeg (S.2 14 (f_X11_top S).1.toNatClampNeg)) 41 ((5 * (S.1 8)) + 2).toNatClampNeg x5) 41 ((5 * (S.1 8)) + 3).toNatClampNeg x3) 41 ((5 * (S.1 8)) + 4).toNatClampNeg x4) 8 (((sA (sA (sA (sA (sA S 41 (5 * (S.1 8)).toNatClampNeg (S.1 7)) 41 ((5 * (S.1 8)) + 1).toNatClampNeg (S.2 14 (f_X11_top S).1.toNatClampNeg)) 41 ((5 * (S.1 8)) + 2).toNatClampNeg x5) 41 ((5 * (S.1 8)) + 3).toNatClampNeg x3) 41 ((5 * (S.1 8)) + 4).toNatClampNeg x4).1 8) + 1)) 5 (-1)) = T
  have g : HI N T := by
    rw [← hT']
    exact hi_5 (hi_8 (hi_41 (hi_41 (hi_41 (hi_41 (hi_41 h _ _) _ _) _ _) _ _) _ _) _) _
  have t6 : T.1 6 = S.1 6 := by rw [← hT']; rfl
  have t7 : T.1 7 = S.1 7 := by rw [← hT']; rfl
  have t8 : T.1 8 = S.1 8 + 1 := by rw [← hT']; rfl
  have t14 : T.2 14 = S.2 14 := by rw [← hT']; rfl
  have tt : (f_X11_top T).1 = (f_X11_top S).1 := by rw [← hT']; rfl
  clear hT'
  have hp' : 1 ≤ (T.1 6).toInt := by rw [t6]; exact hp
  have n2 : ∀ j : Int32, j = 2 ∨ j = 3 ∨ j = 4 ∨ j = 1 → 0 ≤ j.toInt ∧ j.toInt ≤ 4 := fun j q => by rcases q with q | q | q | q <;> subst q <;> decide
  have i1' := n2 1 (by decide)
  have i2' := n2 2 (by decide)
  have i3' := n2 3 (by decide)
  have i4' := n2 4 (by decide)
  refine (fun (a : (if x5 = 1 then _ else _) ∧ _) => ⟨⟨ix0, ix 1 i1'.1 i1'.2, ix 2 i2'.1 i2'.2, ix 3 i3'.1 i3'.2, ix 4 i4'.1 i4'.2, a.1⟩, a.2⟩) ?_
  by_cases z : x5 = 1
  · rw [if_pos z, if_pos z]
    have c := carried_i g hN0 hN6 hp' (by rw [tt, t14]; exact q1 z)
    rw [tt, t14] at c
    exact ⟨⟨c.1, True.intro⟩, c.2.1, c.2.2.1.trans t7, Or.inr (c.2.2.2.trans t8)⟩
  · rw [if_neg z, if_neg z]
    have gg := goes_i g hp'
    have g7 : (f_X11_goes T).2.1 7 = T.1 7 := by rw [goes_e]; rfl
    have g8 : (f_X11_goes T).2.1 8 = T.1 8 := by rw [goes_e]; rfl
    have g6 : ((f_X11_goes T).2.1 6).toInt = (T.1 6).toInt - 1 := by
      rw [goes_e]
      exact (topN hp').1
    have pp := goes_p g.ra hp'
    generalize (f_X11_goes T).2 = R at gg g7 g8 g6
    unfold q_X11_told_a279 b_X11_told_a279
    by_cases y : x5 = 4
    · rw [if_pos y, if_pos y]
      have h2 := q4 y
      have hp2 : 1 ≤ (R.1 6).toInt := by rw [g6, t6]; omega
      have r7 : (f_X11_goes R).2.1 7 = R.1 7 := by rw [goes_e]; rfl
      have r8 : (f_X11_goes R).2.1 8 = R.1 8 := by rw [goes_e]; rfl
      exact ⟨⟨pp, goes_p gg.ra hp2, True.intro⟩, (goes_i gg hp2).up (by omega), (r7.trans g7).trans t7, Or.inr ((r8.trans g8).trans t8)⟩
    · rw [if_neg y, if_neg y]
      exact ⟨⟨pp, True.intro⟩, gg.up (by omega), g7.trans t7, Or.inr (g8.trans t8)⟩
theorem told_119 {N : Int} {S : HS} (h : HI N S) (hN0 : 0 ≤ N) (hN6 : N ≤ 1000000) (hp : 1 ≤ (S.1 6).toInt) (hr : 0 ≤ (S.1 8).toInt ∧ (S.1 8).toInt < 600) (x3 x4 x5 : Int32) :
    q_X11_told_119 S (f_X11_top S).1 (S.2 14 (f_X11_top S).1.toNatClampNeg) x3 x4 x5 ∧ DO (N + 1) S (b_X11_told_119 S (f_X11_top S).1 (S.2 14 (f_X11_top S).1.toNatClampNeg) x3 x4 x5).2 := by
  have tw := two_p h hp
  have n6 := iNat (x := S.1 6) (by omega)
  have lt : hL S 0 ((S.1 6).toNatClampNeg - 1) := ⟨by omega, by show _ < (S.1 6).toInt; omega⟩
  have w := (h.1.2.2.2.2.1 0 _ lt).1
  rw [← top_m hp] at w
  have T := told_184 h hN0 hN6 hp hr x3 x4
  have sp := seconder_p h.ra hp
  have ss := seconder_s S
  unfold q_X11_told_119 b_X11_told_119
  by_cases z : S.2 14 (f_X11_top S).1.toNatClampNeg = 9
  · rw [if_pos z, if_pos z, ss]
    have tw := tw (by rw [z]; decide)
    unfold q_X11_told_a129 b_X11_told_a129
    by_cases y : (f_X11_hasSeconder S).1 = 0
    · rw [if_pos y, if_pos y]
      have a := T 4 (fun q => absurd q (by decide)) (fun _ => tw)
      exact ⟨⟨sp, a.1⟩, a.2⟩
    · rw [if_neg y, if_neg y]
      by_cases x : x4 ≤ x3
      · rw [if_pos x, if_pos x]
        have a := T 4 (fun q => absurd q (by decide)) (fun _ => tw)
        exact ⟨⟨sp, a.1⟩, a.2⟩
      · rw [if_neg x, if_neg x]
        have a := T 5 (fun q => absurd q (by decide)) (fun q => absurd q (by decide))
        exact ⟨⟨sp, a.1⟩, a.2⟩
  · rw [if_neg z, if_neg z, ss]
    unfold q_X11_told_a152 b_X11_told_a152
    by_cases y : (f_X11_hasSeconder S).1 = 0
    · rw [if_pos y, if_pos y]
      have a := T 3 (fun q => absurd q (by decide)) (fun q => absurd q (by decide))
      exact ⟨⟨sp, a.1⟩, a.2⟩
    · rw [if_neg y, if_neg y, carries_s]
      have cp := carries_p S (S.2 12 (S.2 14 (f_X11_top S).1.toNatClampNeg).toNatClampNeg) x3 x4
      have e9 : (9 : Int32).toInt = 9 := by decide
      have vk : vp_in (S.2 14 (f_X11_top S).1.toNatClampNeg) 9 := by
        have z := mt iEq.mpr z
        rw [e9] at z
        exact vIn (by omega) (by omega)
      unfold q_X11_told_a174 b_X11_told_a174
      by_cases x : (f_X11_carries S (S.2 12 (S.2 14 (f_X11_top S).1.toNatClampNeg).toNatClampNeg) x3 x4).1 = 0
      · rw [if_pos x, if_pos x]
        have a := T 2 (fun q => absurd q (by decide)) (fun q => absurd q (by decide))
        exact ⟨⟨sp, vk, cp, a.1⟩, a.2⟩
      · rw [if_neg x, if_neg x]
        have a := T 1 (fun _ => z) (fun q => absurd q (by decide))
        exact ⟨⟨sp, vk, cp, a.1⟩, a.2⟩
theorem told_33 {N : Int} {S : HS} (h : HI N S) (hN0 : 0 ≤ N) (hN6 : N ≤ 1000000) (hp : 1 ≤ (S.1 6).toInt) (hr : 0 ≤ (S.1 8).toInt ∧ (S.1 8).toInt < 600) : ∀ (n : Nat) (x3 x4 x5 : Int32), 0 ≤ x5.toInt → x5.toInt ≤ (S.1 0).toInt → (S.1 0).toInt - x5.toInt < n →
    lq_X11_told_33 n S (f_X11_top S).1 (S.2 14 (f_X11_top S).1.toNatClampNeg) x3 x4 x5 ∧ DO (N + 1) S (lp_X11_told_33 n S (f_X11_top S).1 (S.2 14 (f_X11_top S).1.toNatClampNeg) x3 x4 x5).2 := by
  intro n
  have T := told_119 h hN0 hN6 hp hr
  have sp := seconder_p h.ra hp
  have ss := seconder_s S
  have t := top_in h.ra hp
  have hs := h.2.2.1
  induction n with
  | zero => intro x3 x4 x5 a b c; omega
  | succ n ih =>
    intro x3 x4 x5 a b c
    rw [lq_X11_told_33, lp_X11_told_33]
    unfold ps_X11_told_33 st_X11_told_33
    by_cases z : S.1 0 ≤ x5
    · rw [if_pos z, if_pos z]
      dsimp only
      exact ⟨⟨(T x3 x4 x5).1, True.intro⟩, (T x3 x4 x5).2⟩
    rw [if_neg z, if_neg z, ss]
    have z := mt iLe.mpr z
    have e := iAdd (x := x5) (y := 1) (by rw [i1]; omega) (by rw [i1]; omega)
    rw [i1] at e
    have g : ∀ x3 x4, _ := fun x3 x4 => ih x3 x4 (x5 + 1) (by omega) (by omega) (by omega)
    have vb : vp_in ((200 * (f_X11_top S).1) + x5) 18000 := bal_in t ⟨a, by omega⟩
    unfold q_X11_told_a46 b_X11_told_a46
    by_cases y : (f_X11_hasSeconder S).1 = 0
    · rw [if_pos y, if_pos y]
      dsimp only
      exact ⟨⟨⟨sp, (T x3 x4 x5).1⟩, True.intro⟩, (T x3 x4 x5).2⟩
    rw [if_neg y, if_neg y]
    have v5 : vp_in x5 200 := vIn a (by omega)
    by_cases x : S.2 11 x5.toNatClampNeg = 0
    · rw [if_pos x, if_pos x]
      exact ⟨⟨⟨sp, v5, True.intro⟩, (g x3 x4).1⟩, (g x3 x4).2⟩
    rw [if_neg x, if_neg x]
    have a85 : ∀ y0 y1, q_X11_told_85 S (f_X11_top S).1 (S.2 14 (f_X11_top S).1.toNatClampNeg) x3 x4 x5 y0 y1 ∧ ∃ c3 c4, b_X11_told_85 S (f_X11_top S).1 (S.2 14 (f_X11_top S).1.toNatClampNeg) x3 x4 x5 y0 y1 = Sum.inr (S, (f_X11_top S).1, (S.2 14 (f_X11_top S).1.toNatClampNeg), c3, c4, x5 + 1) := fun y0 y1 => by
      unfold q_X11_told_85 b_X11_told_85
      by_cases w : S.2 29 ((200 * (f_X11_top S).1) + x5).toNatClampNeg = 0
      · rw [if_pos w, if_pos w]
        exact ⟨⟨vb, True.intro⟩, _, _, rfl⟩
      · rw [if_neg w, if_neg w]
        exact ⟨⟨vb, True.intro⟩, _, _, rfl⟩
    by_cases w : S.2 29 ((200 * (f_X11_top S).1) + x5).toNatClampNeg = 1
    · rw [if_pos w, if_pos w]
      obtain ⟨a1, c3, c4, a2⟩ := a85 1 x3
      rw [a2]
      exact ⟨⟨⟨sp, v5, vb, a1⟩, (g c3 c4).1⟩, (g c3 c4).2⟩
    · rw [if_neg w, if_neg w]
      obtain ⟨a1, c3, c4, a2⟩ := a85 0 x3
      rw [a2]
      exact ⟨⟨⟨sp, v5, vb, a1⟩, (g c3 c4).1⟩, (g c3 c4).2⟩
theorem d_21 {N : Int} {S : HS} (h : HI N S) (hN0 : 0 ≤ N) (hN6 : N ≤ 1000000) (hp : 1 ≤ (S.1 6).toInt) (hr : 0 ≤ (S.1 8).toInt ∧ (S.1 8).toInt < 600) : p_X11_told S ∧ DO (N + 1) S (f_X11_told S).2 := by
  have t := top_in h.ra hp
  have hs := h.2.2.1
  unfold p_X11_told f_X11_told
  by_cases z : S.1 3 ≤ S.1 1
  · rw [if_pos z, if_pos z]
    unfold q_X11_told_a17 b_X11_told_a17
    have a := told_33 h hN0 hN6 hp hr 100000 0 0 0 (by rw [i0]; omega) (by rw [i0]; omega) (by rw [i0]; omega)
    exact ⟨⟨top_p h.ra hp, vIn t.1 t.2, a.1⟩, a.2⟩
  · rw [if_neg z, if_neg z]
    exact ⟨True.intro, h.up (by omega), rfl, Or.inl rfl⟩
end
section
/-! ===== what a reason of 0 says ===== -/
theorem ne0 {x : Int32} (r : x = 0) (h : ¬ x = 0) : False := h r
theorem in_of {v lo hi : Int32} (q : ¬ f_X12_in v lo hi = 0) : lo.toInt ≤ v.toInt ∧ v.toInt ≤ hi.toInt := by
  refine Decidable.byContradiction (fun z => q ?_)
  rw [in_f, if_neg z]
theorem hasDraft_0 {S : HS} {lo hi : Int32} (q : ¬ (f_X11_hasDraft S lo hi).1 = 0) : 1 ≤ (S.1 35).toInt ∧ S.1 36 = 0 ∧ ¬ f_X12_in (S.2 14 (hM S 1 0)) lo hi = 0 := by
  refine ⟨hasDraft_d q, ?_⟩
  have m0 : hM S 1 0 = (S.2 32 (0 : Int32).toNatClampNeg).toNatClampNeg := by rw [zn0]; rfl
  rw [m0]
  unfold f_X11_hasDraft at q
  by_cases z : S.1 35 ≤ 0
  · rw [if_pos z] at q
    exact absurd rfl q
  rw [if_neg z] at q
  by_cases y : S.1 36 = 0
  · rw [if_pos y] at q
    by_cases x : f_X12_in (S.2 14 (S.2 32 (0 : Int32).toNatClampNeg).toNatClampNeg) lo hi = 0
    · rw [if_pos x] at q
      exact absurd rfl q
    · exact ⟨y, x⟩
  · rw [if_neg y] at q
    exact absurd rfl q
theorem rf_105 {S : HS} {x1 x2 x3 x4 x5 : Int32} (r : (b_X11_reason_a105 (f_X11_isSeat S x2).2 x1 x2 x3 x4 x5 (f_X11_isSeat S x2).1).1 = 0) : ¬ (f_X11_isSeat S x2).1 = 0 := fun q => by
  unfold b_X11_reason_a105 at r
  rw [if_pos q] at r
  exact absurd (show (9 : Int32) = 0 from r) (by decide)
theorem rf_129 {S : HS} {x1 x2 x3 x4 x5 : Int32} (r : (b_X11_reason_129 S x1 x2 x3 x4 x5).1 = 0) : ¬ (f_X11_isSeat S x2).1 = 0 := fun q => by
  unfold b_X11_reason_129 b_X11_reason_a134 at r
  rw [if_pos q] at r
  exact absurd (show (9 : Int32) = 0 from r) (by decide)
theorem rf_461 {S : HS} {x1 x2 x3 x4 x5 : Int32} (r : (b_X11_reason_a461 (f_X11_hasDraft S 2 3).2 x1 x2 x3 x4 x5 (f_X11_hasDraft S 2 3).1).1 = 0) : 1 ≤ (S.1 35).toInt ∧ S.1 36 = 0 ∧ 0 ≤ x2.toInt ∧ x2.toInt ≤ x3.toInt ∧ x3.toInt ≤ 400 := by
  rw [hasDraft_s] at r
  unfold b_X11_reason_a461 at r
  by_cases q : (f_X11_hasDraft S 2 3).1 = 0
  · rw [if_pos q] at r
    exact absurd (show (11 : Int32) = 0 from r) (by decide)
  rw [if_neg q] at r
  have d := hasDraft_0 q
  by_cases z1 : S.2 25 (S.2 32 (0 : Int32).toNatClampNeg).toNatClampNeg = 0
  · rw [if_pos z1] at r
    by_cases z2 : f_X12_in x2 0 400 = 0
    · rw [if_pos z2] at r
      exact absurd (show (9 : Int32) = 0 from r) (by decide)
    rw [if_neg z2] at r
    by_cases z3 : f_X12_in x3 0 400 = 0
    · rw [if_pos z3] at r
      exact absurd (show (9 : Int32) = 0 from r) (by decide)
    rw [if_neg z3] at r
    by_cases z4 : x2 ≤ x3
    · have a := in_of z2
      have b := in_of z3
      have e4 : (400 : Int32).toInt = 400 := by decide
      rw [i0] at a
      rw [e4] at b
      exact ⟨d.1, d.2.1, a.1, iLe.mp z4, b.2⟩
    · rw [if_neg z4] at r
      exact absurd (show (9 : Int32) = 0 from r) (by decide)
  · rw [if_neg z1] at r
    exact absurd (show (11 : Int32) = 0 from r) (by decide)
/-- how a count of words is met -/
theorem wd_102 {S : HS} {x1 x2 x3 x4 y0 y1 : Int32} (r : (b_X11_reasonOfWord_102 S x1 x2 x3 x4 y0 y1).1 = 0) (hw : 0 ≤ (S.2 19 (hM S 1 0)).toInt ∧ (S.2 19 (hM S 1 0)).toInt ≤ 400) (a : 0 ≤ y0.toInt ∧ y0.toInt ≤ 1) (b : 1 ≤ y1.toInt ∧ y1.toInt ≤ 3) : (S.2 19 (hM S 1 0)).toInt + y1.toInt + y0.toInt ≤ 400 := by
  have m0 : hM S 1 0 = (S.2 32 (0 : Int32).toNatClampNeg).toNatClampNeg := by rw [zn0]; rfl
  unfold b_X11_reasonOfWord_102 at r
  rw [← m0] at r
  have e1 := iAdd (x := y1) (y := y0) (by omega) (by omega)
  have e2 := iAdd (x := S.2 19 (hM S 1 0)) (y := y1 + y0) (by omega) (by omega)
  have e4 : (400 : Int32).toInt = 400 := by decide
  by_cases z : S.2 19 (hM S 1 0) + (y1 + y0) ≤ 400
  · have z := iLe.mp z
    omega
  · rw [if_neg z] at r
    exact absurd (show (10 : Int32) = 0 from r) (by decide)
theorem wd_71 {S : HS} {x1 x2 x3 x4 : Int32} (r : (b_X11_reasonOfWord_71 S x1 x2 x3 x4).1 = 0) (hw : 0 ≤ (S.2 19 (hM S 1 0)).toInt ∧ (S.2 19 (hM S 1 0)).toInt ≤ 400) : (S.2 19 (hM S 1 0)).toInt + 1 + cW x2 + cW x3 + cW x4 ≤ 400 := by
  have c : ∀ x : Int32, ∀ y : Int32, 1 ≤ y.toInt → y.toInt ≤ 2 → (x = 0 → (y + 0).toInt = y.toInt + cW x) ∧ (¬ x = 0 → (y + 1).toInt = y.toInt + cW x) := fun x y a b => by
    unfold cW
    refine ⟨fun q => ?_, fun q => ?_⟩
    · rw [if_pos q, iAdd (by rw [i0]; omega) (by rw [i0]; omega), i0]
    · rw [if_neg q, iAdd (by rw [i1]; omega) (by rw [i1]; omega), i1]
  have cw : ∀ x, 0 ≤ cW x ∧ cW x ≤ 1 := fun x => by unfold cW; split <;> omega
  have b91 : ∀ y0 y1 : Int32, (b_X11_reasonOfWord_91 S x1 x2 x3 x4 y0 y1).1 = 0 → 1 ≤ y1.toInt → y1.toInt ≤ 2 → (y1 + y0).toInt ≤ 3 → 1 ≤ (y1 + y0).toInt → (S.2 19 (hM S 1 0)).toInt + (y1 + y0).toInt + cW x4 ≤ 400 := fun y0 y1 q a b d e => by
    unfold b_X11_reasonOfWord_91 at q
    unfold cW
    by_cases z : x4 = 0
    · rw [if_pos z] at q
      rw [if_pos z]
      have w := wd_102 q hw (by rw [i0]; omega) ⟨e, d⟩
      rw [i0] at w
      exact w
    · rw [if_neg z] at q
      rw [if_neg z]
      have w := wd_102 q hw (by rw [i1]; omega) ⟨e, d⟩
      rw [i1] at w
      exact w
  have b81 : ∀ y0 y1 : Int32, (b_X11_reasonOfWord_81 S x1 x2 x3 x4 y0 y1).1 = 0 → 1 ≤ (y1 + y0).toInt → (y1 + y0).toInt ≤ 2 → (S.2 19 (hM S 1 0)).toInt + (y1 + y0).toInt + cW x3 + cW x4 ≤ 400 := fun y0 y1 q a b => by
    unfold b_X11_reasonOfWord_81 at q
    have cc := c x3 (y1 + y0) a b
    have cx := cw x3
    by_cases z : x3 = 0
    · rw [if_pos z] at q
      have e := cc.1 z
      have w := b91 0 (y1 + y0) q a b (by omega) (by omega)
      omega
    · rw [if_neg z] at q
      have e := cc.2 z
      have w := b91 1 (y1 + y0) q a b (by omega) (by omega)
      omega
  unfold b_X11_reasonOfWord_71 at r
  have cc := c x2 1 (by rw [i1]; omega) (by rw [i1]; omega)
  have cx := cw x2
  rw [i1] at cc
  by_cases z : x2 = 0
  · rw [if_pos z] at r
    have e := cc.1 z
    have w := b81 0 1 r (by omega) (by omega)
    omega
  · rw [if_neg z] at r
    have e := cc.2 z
    have w := b81 1 1 r (by omega) (by omega)
    omega
theorem rf_word {S : HS} {x1 x2 x3 x4 : Int32} (r : (f_X11_reasonOfWord S x1 x2 x3 x4).1 = 0) (hw : 1 ≤ (S.1 35).toInt → S.1 36 = 0 → 0 ≤ (S.2 19 (hM S 1 0)).toInt ∧ (S.2 19 (hM S 1 0)).toInt ≤ 400) :
    1 ≤ (S.1 35).toInt ∧ S.1 36 = 0 ∧ (S.2 19 (hM S 1 0)).toInt + cW x1 + cW x2 + cW x3 + cW x4 ≤ 400 := by
  unfold f_X11_reasonOfWord at r
  rw [hasDraft_s] at r
  unfold b_X11_reasonOfWord_a6 at r
  by_cases q : (f_X11_hasDraft S 1 5).1 = 0
  · rw [if_pos q] at r
    exact absurd (show (11 : Int32) = 0 from r) (by decide)
  rw [if_neg q] at r
  have d := hasDraft_0 q
  have hw := hw d.1 d.2.1
  refine ⟨d.1, d.2.1, ?_⟩
  have c1 : cW x1 ≤ 1 := by unfold cW; split <;> omega
  have b68 : ¬ (b_X11_reasonOfWord_68 S x1 x2 x3 x4).1 = 0 := fun q => absurd (show (9 : Int32) = 0 from q) (by decide)
  have b71 : (b_X11_reasonOfWord_71 S x1 x2 x3 x4).1 = 0 → (S.2 19 (hM S 1 0)).toInt + cW x1 + cW x2 + cW x3 + cW x4 ≤ 400 := fun q => by
    have w := wd_71 q hw
    omega
  have b55 : (b_X11_reasonOfWord_55 S x1 x2 x3 x4).1 = 0 → (S.2 19 (hM S 1 0)).toInt + cW x1 + cW x2 + cW x3 + cW x4 ≤ 400 := fun q => by
    unfold b_X11_reasonOfWord_55 at q
    by_cases z : x4 = 0
    · rw [if_pos z] at q
      exact b71 q
    · rw [if_neg z] at q
      by_cases y : f_X11_isWord x4 = 0
      · rw [if_pos y] at q
        exact absurd q b68
      · rw [if_neg y] at q
        exact b71 q
  have b44 : (b_X11_reasonOfWord_44 S x1 x2 x3 x4).1 = 0 → (S.2 19 (hM S 1 0)).toInt + cW x1 + cW x2 + cW x3 + cW x4 ≤ 400 := fun q => by
    unfold b_X11_reasonOfWord_44 at q
    by_cases z : x3 = 0
    · rw [if_pos z] at q
      exact b55 q
    · rw [if_neg z] at q
      by_cases y : f_X11_isWord x3 = 0
      · rw [if_pos y] at q
        exact absurd q b68
      · rw [if_neg y] at q
        exact b55 q
  by_cases z1 : S.2 25 (S.2 32 (0 : Int32).toNatClampNeg).toNatClampNeg = 0
  · rw [if_pos z1] at r
    by_cases z2 : f_X11_isWord x1 = 0
    · rw [if_pos z2] at r
      exact absurd r b68
    rw [if_neg z2] at r
    by_cases z3 : x2 = 0
    · rw [if_pos z3] at r
      exact b44 r
    rw [if_neg z3] at r
    by_cases z4 : f_X11_isWord x2 = 0
    · rw [if_pos z4] at r
      exact absurd r b68
    · rw [if_neg z4] at r
      exact b44 r
  · rw [if_neg z1] at r
    exact absurd (show (11 : Int32) = 0 from r) (by decide)
end
