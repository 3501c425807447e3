/-! ===== a Hall's invariant: rows of motions (0 the pending ones, 1 the drafted ones, p + 2 those that lie at p) ===== -/
/-- a row of a state replaced -/
def sR (S : HS) (k : Nat) (u : Nat → Int32) : HS := (S.1, fun j => if j = k then u else S.2 j)
def hN (S : HS) : Nat → Int
  | 0 => (S.1 6).toInt
  | 1 => (S.1 35).toInt
  | p + 2 => (S.2 34 p).toInt
def hC (S : HS) : Nat → Nat → Int32
  | 0, i => S.2 31 i
  | 1, i => S.2 32 i
  | p + 2, i => S.2 33 (9 * p + i)
def hT (S : HS) : Nat → Prop
  | 0 => True
  | 1 => S.1 36 ≠ 0
  | p + 2 => S.2 37 p ≠ 0
def hM (S : HS) (g i : Nat) : Nat := (hC S g i).toNatClampNeg
def hL (S : HS) (g i : Nat) : Prop := g < 10 ∧ (i : Int) < hN S g
/-- a motion's own numbers -/
def uW (N : Int) (S : HS) (m : Nat) : Prop := (1 ≤ (S.2 14 m).toInt ∧ (S.2 14 m).toInt ≤ 9) ∧ (0 ≤ (S.2 19 m).toInt ∧ (S.2 19 m).toInt ≤ 400) ∧ (0 ≤ (S.2 20 m).toInt ∧ (S.2 20 m).toInt ≤ (S.2 21 m).toInt ∧ (S.2 21 m).toInt ≤ 400 * (N + 1))
/-- a motion y right above x -/
def uC (S : HS) (x y : Nat) : Prop := S.2 14 y ≠ 1 ∧ (S.2 14 y = 2 ∨ S.2 14 y = 3 → S.2 23 y = S.2 22 x ∧ (S.2 21 y).toInt ≤ (S.2 19 x).toInt ∧ (S.2 19 x).toInt + (S.2 19 y).toInt - ((S.2 21 y).toInt - (S.2 20 y).toInt) ≤ 400) ∧ (S.2 14 y = 3 → S.2 14 x = 2) ∧ (S.2 14 y = 2 → S.2 14 x ≠ 2 ∧ S.2 14 x ≠ 3)
def u3 (S : HS) (z x y : Nat) : Prop := S.2 14 y = 3 → (S.2 19 z).toInt + ((S.2 19 x).toInt + (S.2 19 y).toInt - ((S.2 21 y).toInt - (S.2 20 y).toInt)) - ((S.2 21 x).toInt - (S.2 20 x).toInt) ≤ 400
/-- two motions are made apart -/
def hU (S : HS) : Prop := ∀ g i g' i', hL S g i → hL S g' i' → S.2 22 (hM S g i) = S.2 22 (hM S g' i') → g = g' ∧ i = i'
def HC (N : Int) (S : HS) : Prop :=
  (∀ g, g < 10 → 0 ≤ hN S g ∧ hN S g ≤ 9 ∧ (¬ hT S g → hN S g ≤ 1)) ∧
  (∀ g i, hL S g i → 0 ≤ (hC S g i).toInt ∧ (hC S g i).toInt < 90 ∧ S.2 13 (hM S g i) ≠ 0) ∧
  (∀ m, m < 90 → S.2 13 m ≠ 0 → ∃ g i, hL S g i ∧ hM S g i = m) ∧
  (∀ g, hL S g 0 → hT S g → S.2 14 (hM S g 0) = 1) ∧
  (∀ g i, hL S g i → uW N S (hM S g i)) ∧
  (∀ g i, hL S g i → 0 ≤ (S.1 30 - S.2 22 (hM S g i)).toInt ∧ (S.1 30 - S.2 22 (hM S g i)).toInt < N) ∧
  hU S ∧
  (∀ g i, hL S g (i + 1) → uC S (hM S g i) (hM S g (i + 1))) ∧
  (∀ g i, hL S g (i + 2) → u3 S (hM S g i) (hM S g (i + 1)) (hM S g (i + 2)))
theorem HC.d {N : Int} {S : HS} (h : HC N S) {g i g' i' : Nat} (a : hL S g i) (b : hL S g' i') (e : hM S g i = hM S g' i') : g = g' ∧ i = i' :=
  h.2.2.2.2.2.2.1 g i g' i' a b (by rw [e])
theorem HC.lt {N : Int} {S : HS} (h : HC N S) {g i : Nat} (a : hL S g i) : hM S g i < 90 := by
  have v := h.2.1 g i a
  have k := iNat v.1
  unfold hM
  omega
theorem hL.le {S : HS} {g i j : Nat} (a : hL S g j) (b : i ≤ j) : hL S g i := ⟨a.1, by have := a.2; omega⟩
/-- later: nothing but the bounds grows -/
theorem HC.up {N M : Int} {S : HS} (h : HC N S) (q : N ≤ M) : HC M S := by
  obtain ⟨h1, h2, h3, h4, h5, h6, h7, h8, h9⟩ := h
  refine ⟨h1, h2, h3, h4, fun g i a => ?_, fun g i a => ?_, h7, h8, h9⟩
  · obtain ⟨w1, w2, w3⟩ := h5 g i a
    exact ⟨w1, w2, w3.1, w3.2.1, by omega⟩
  · have := h6 g i a
    omega
/-- the motions' own numbers are the same in both states -/
def uE (S' S : HS) : Prop := S'.2 14 = S.2 14 ∧ S'.2 19 = S.2 19 ∧ S'.2 20 = S.2 20 ∧ S'.2 21 = S.2 21 ∧ S'.2 22 = S.2 22
/-- the end of a row goes -/
theorem HC.pop {N : Int} {S S' : HS} (h : HC N S) (g0 : Nat) (b : S'.1 30 = S.1 30) (e : uE S' S) (e23 : S'.2 23 = S.2 23)
    (n0 : 0 ≤ hN S' g0 ∧ hN S' g0 ≤ hN S g0) (nn : ∀ g, g < 10 → g ≠ g0 → hN S' g = hN S g) (cc : ∀ g i, hL S' g i → hC S' g i = hC S g i) (tt : ∀ g, g < 10 → (hT S' g ↔ hT S g))
    (u0 : ∀ i, hL S g0 i → ¬ hL S' g0 i → S'.2 13 (hM S g0 i) = 0) (u1 : ∀ m, m < 90 → (∀ i, hL S g0 i → ¬ hL S' g0 i → hM S g0 i ≠ m) → S'.2 13 m = S.2 13 m) : HC N S' := by
  have hh := h
  obtain ⟨h1, h2, h3, h4, h5, h6, h7, h8, h9⟩ := h
  obtain ⟨e14, e19, e20, e21, e22⟩ := e
  have sub : ∀ g i, hL S' g i → hL S g i := fun g i a => by
    by_cases z : g = g0
    · subst z
      exact ⟨a.1, by have := a.2; omega⟩
    · exact ⟨a.1, by rw [← nn g a.1 z]; exact a.2⟩
  have mm : ∀ g i, hL S' g i → hM S' g i = hM S g i := fun g i a => by unfold hM; rw [cc g i a]
  refine ⟨fun g q => ?_, fun g i a => ?_, fun m q z => ?_, fun g a t => ?_, fun g i a => ?_, fun g i a => ?_, fun g i g' i' a b q => ?_, fun g i a => ?_, fun g i a => ?_⟩
  · by_cases z : g = g0
    · subst z
      have := h1 g q
      refine ⟨n0.1, by omega, fun t => ?_⟩
      have := this.2.2 (fun y => t ((tt g q).mpr y))
      omega
    · rw [nn g q z, tt g q]
      exact h1 g q
  · rw [mm g i a, cc g i a]
    have v := h2 g i (sub g i a)
    refine ⟨v.1, v.2.1, ?_⟩
    rw [u1 _ (hh.lt (sub g i a))]
    · exact v.2.2
    · intro j c d y
      obtain ⟨y1, y2⟩ := hh.d c (sub g i a) y
      subst y1
      subst y2
      exact d a
  · by_cases y : ∀ i, hL S g0 i → ¬ hL S' g0 i → hM S g0 i ≠ m
    · rw [u1 m q y] at z
      obtain ⟨g, i, a, w⟩ := h3 m q z
      have a' : hL S' g i := by
        by_cases x : g = g0
        · subst x
          exact Classical.byContradiction (fun c => y i a c w)
        · exact ⟨a.1, by rw [nn g a.1 x]; exact a.2⟩
      exact ⟨g, i, a', by rw [mm g i a']; exact w⟩
    · refine absurd z (fun z => y (fun i a c w => z ?_))
      rw [← w]
      exact u0 i a c
  · rw [e14, mm g 0 a]
    exact h4 g (sub g 0 a) ((tt g a.1).mp t)
  · rw [mm g i a]
    have w := h5 g i (sub g i a)
    unfold uW at w ⊢
    rw [e14, e19, e20, e21]
    exact w
  · rw [mm g i a, b, e22]
    exact h6 g i (sub g i a)
  · rw [mm g i a, mm g' i' b, e22] at q
    exact h7 g i g' i' (sub g i a) (sub g' i' b) q
  · rw [mm g i (a.le (by omega)), mm g _ a]
    have w := h8 g i (sub _ _ a)
    unfold uC at w ⊢
    rw [e14, e19, e20, e21, e22, e23]
    exact w
  · rw [mm g i (a.le (by omega)), mm g _ (a.le (by omega)), mm g _ a]
    have w := h9 g i (sub _ _ a)
    unfold u3 at w ⊢
    rw [e14, e19, e20, e21]
    exact w
/-- a row of motions is put behind another one -/
theorem HC.xfer {N : Int} {S S' : HS} (h : HC N S) (s d k : Nat) (hs : s < 10) (hd : d < 10) (sd : s ≠ d) (hk : (k : Int) = hN S d) (b : S'.1 30 = S.1 30) (e : uE S' S) (e13 : S'.2 13 = S.2 13)
    (e23 : ∀ g i, hL S g i → (g = s → i ≠ 0) → S'.2 23 (hM S g i) = S.2 23 (hM S g i))
    (ns : hN S' s = 0) (nd : hN S' d = hN S d + hN S s) (nd9 : hN S' d ≤ 9) (nt : ¬ hT S' d → hN S' d ≤ 1)
    (no : ∀ g, g < 10 → g ≠ s → g ≠ d → hN S' g = hN S g ∧ (hT S' g ↔ hT S g) ∧ ∀ i : Nat, (i : Int) < hN S g → hC S' g i = hC S g i)
    (c0 : ∀ i, i < k → hC S' d i = hC S d i) (c1 : ∀ i : Nat, (i : Int) < hN S s → hC S' d (k + i) = hC S s i)
    (kk : k = 0 → 0 < hN S s → hT S' d → S.2 14 (hM S s 0) = 1) (kd : 0 < k → hT S' d → hT S d)
    (k1 : 0 < k → hN S s ≤ 1) (jj : 0 < k → 0 < hN S s → uC S' (hM S d (k - 1)) (hM S s 0)) (j3 : 1 < k → 0 < hN S s → u3 S (hM S d (k - 2)) (hM S d (k - 1)) (hM S s 0)) : HC N S' := by
  have hh := h
  obtain ⟨h1, h2, h3, h4, h5, h6, h7, h8, h9⟩ := h
  obtain ⟨e14, e19, e20, e21, e22⟩ := e
  -- where each place of S' stood in S
  have old : ∀ g i, hL S' g i → ∃ g1 i1, hL S g1 i1 ∧ hC S' g i = hC S g1 i1 ∧ ((g ≠ d ∧ g ≠ s ∧ g1 = g ∧ i1 = i) ∨ (g = d ∧ i < k ∧ g1 = d ∧ i1 = i) ∨ (g = d ∧ k ≤ i ∧ g1 = s ∧ i1 = i - k)) := fun g i a => by
    have a2 := a.2
    by_cases z : g = d
    · subst z
      by_cases y : i < k
      · exact ⟨g, i, ⟨a.1, by omega⟩, c0 i y, Or.inr (Or.inl ⟨rfl, y, rfl, rfl⟩)⟩
      · refine ⟨s, i - k, ⟨hs, by omega⟩, ?_, Or.inr (Or.inr ⟨rfl, by omega, rfl, rfl⟩)⟩
        have := c1 (i - k) (by omega)
        rw [← this]
        congr 1
        omega
    · by_cases y : g = s
      · subst y
        omega
      · have := no g a.1 y z
        exact ⟨g, i, ⟨a.1, by omega⟩, this.2.2 i (by omega), Or.inl ⟨z, y, rfl, rfl⟩⟩
  have mo : ∀ g i g1 i1, hC S' g i = hC S g1 i1 → hM S' g i = hM S g1 i1 := fun g i g1 i1 q => by unfold hM; rw [q]
  refine ⟨fun g q => ?_, fun g i a => ?_, fun m q z => ?_, fun g a t => ?_, fun g i a => ?_, fun g i a => ?_, fun g i g' i' a b q => ?_, fun g i a => ?_, fun g i a => ?_⟩
  · by_cases z : g = d
    · subst z
      have w1 := h1 g hd
      have w2 := h1 s hs
      exact ⟨by omega, nd9, nt⟩
    · by_cases y : g = s
      · subst y
        exact ⟨by omega, by omega, fun _ => by omega⟩
      · have w := no g q y z
        rw [w.1, w.2.1]
        exact h1 g q
  · obtain ⟨g1, i1, a1, c, -⟩ := old g i a
    rw [mo _ _ _ _ c, c, e13]
    exact h2 g1 i1 a1
  · rw [e13] at z
    obtain ⟨g, i, a, w⟩ := h3 m q z
    have a2 := a.2
    by_cases x : g = s
    · subst x
      refine ⟨d, k + i, ⟨hd, by omega⟩, ?_⟩
      rw [mo _ _ _ _ (c1 i a2)]
      exact w
    · by_cases y : g = d
      · subst y
        have w2 := h1 s hs
        refine ⟨g, i, ⟨hd, by omega⟩, ?_⟩
        rw [mo _ _ _ _ (c0 i (by omega))]
        exact w
      · have v := no g a.1 x y
        refine ⟨g, i, ⟨a.1, by omega⟩, ?_⟩
        rw [mo _ _ _ _ (v.2.2 i a2)]
        exact w
  · rw [e14]
    have a2 := a.2
    by_cases x : g = d
    · subst x
      by_cases y : k = 0
      · have c := c1 0 (by omega)
        rw [y] at c
        rw [mo _ _ _ _ c]
        exact kk y (by omega) t
      · rw [mo _ _ _ _ (c0 0 (by omega))]
        exact h4 g ⟨hd, by omega⟩ (kd (by omega) t)
    · by_cases y : g = s
      · subst y
        omega
      · have v := no g a.1 y x
        rw [mo _ _ _ _ (v.2.2 0 (by omega))]
        exact h4 g ⟨a.1, by omega⟩ (v.2.1.mp t)
  · obtain ⟨g1, i1, a1, c, -⟩ := old g i a
    rw [mo _ _ _ _ c]
    have w := h5 g1 i1 a1
    unfold uW at w ⊢
    rw [e14, e19, e20, e21]
    exact w
  · obtain ⟨g1, i1, a1, c, -⟩ := old g i a
    rw [mo _ _ _ _ c, b, e22]
    exact h6 g1 i1 a1
  · obtain ⟨g1, i1, a1, c, r⟩ := old g i a
    obtain ⟨g2, i2, a2, c2, r2⟩ := old g' i' b
    rw [mo _ _ _ _ c, mo _ _ _ _ c2, e22] at q
    obtain ⟨q1, q2⟩ := h7 g1 i1 g2 i2 a1 a2 q
    omega
  · obtain ⟨g1, i1, a1, c, r⟩ := old g i (a.le (by omega))
    obtain ⟨g2, i2, a2, c2, r2⟩ := old g (i + 1) a
    rw [mo _ _ _ _ c, mo _ _ _ _ c2]
    by_cases z : g1 = g2
    · subst z
      have z2 : i2 = i1 + 1 := by omega
      subst z2
      have w := h8 g1 i1 a2
      unfold uC at w ⊢
      rw [e14, e19, e20, e21, e22, e23 g1 (i1 + 1) a2 (fun _ => by omega)]
      exact w
    · have s1 : g1 = d := by omega
      have s2 : g2 = s := by omega
      have s3 : i1 = k - 1 := by omega
      have s4 : i2 = 0 := by omega
      subst s1
      subst s2
      subst s3
      subst s4
      exact jj (by omega) (by have := a2.2; omega)
  · obtain ⟨g1, i1, a1, c, r⟩ := old g i (a.le (by omega))
    obtain ⟨g2, i2, a2, c2, r2⟩ := old g (i + 1) (a.le (by omega))
    obtain ⟨g3, i3, a3, c3, r3⟩ := old g (i + 2) a
    rw [mo _ _ _ _ c, mo _ _ _ _ c2, mo _ _ _ _ c3]
    have f : u3 S (hM S g1 i1) (hM S g2 i2) (hM S g3 i3) := by
      by_cases z : g1 = g3
      · have y : g2 = g1 := by omega
        subst z
        subst y
        have z2 : i2 = i1 + 1 := by omega
        have z3 : i3 = i1 + 2 := by omega
        subst z2
        subst z3
        exact h9 _ i1 a3
      · have b1 := a1.2
        have b2 := a2.2
        have b3 := a3.2
        have s1 : g1 = d := by omega
        have s3 : g3 = s := by omega
        subst s3
        have hk1 := k1 (by omega)
        have s2 : g2 = d := by
          rcases r2 with r2 | r2 | r2
          · omega
          · omega
          · obtain ⟨r2a, r2b, r2c, r2d⟩ := r2
            omega
        have s4 : i1 = k - 2 := by omega
        have s5 : i2 = k - 1 := by omega
        have s6 : i3 = 0 := by omega
        subst s1
        subst s2
        subst s4
        subst s5
        subst s6
        exact j3 (by omega) (by omega)
    unfold u3 at f ⊢
    rw [e14, e19, e20, e21]
    exact f
