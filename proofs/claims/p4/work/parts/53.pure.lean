/-! ===== a new motion; a motion changed ===== -/
theorem ageS {b s : Int32} {N : Int} (h : 0 ≤ (b - s).toInt ∧ (b - s).toInt < N) (q : N ≤ 1000000) : (b + 1 - s).toInt = (b - s).toInt + 1 := by
  have e : b + 1 - s = (b - s) + 1 := by
    rw [Int32.sub_eq_add_neg, Int32.sub_eq_add_neg, Int32.add_assoc, Int32.add_comm 1, ← Int32.add_assoc]
  rw [e, iAdd (by rw [i1]; omega) (by rw [i1]; omega), i1]
theorem ageN {b s : Int32} {N : Int} (h : 0 ≤ (b - s).toInt ∧ (b - s).toInt < N) (q : N ≤ 1000000) : s ≠ b + 1 := by
  intro e
  have a := ageS h q
  rw [← e, Int32.sub_self, i0] at a
  omega
theorem HC.push {N : Int} {S S' : HS} (h : HC N S) (s k m : Nat) (hN0 : 0 ≤ N) (hN6 : N ≤ 1000000) (hs : s < 10) (hk : (k : Int) = hN S s) (fr : S.2 13 m = 0)
    (b : S'.1 30 = S.1 30 + 1) (bm : S'.2 22 m = S.1 30 + 1)
    (eo : ∀ x, x < 90 → x ≠ m → S'.2 13 x = S.2 13 x ∧ S'.2 14 x = S.2 14 x ∧ S'.2 19 x = S.2 19 x ∧ S'.2 20 x = S.2 20 x ∧ S'.2 21 x = S.2 21 x ∧ S'.2 22 x = S.2 22 x ∧ S'.2 23 x = S.2 23 x)
    (u : S'.2 13 m ≠ 0) (w : uW (N + 1) S' m) (ns : hN S' s = k + 1) (n9 : k + 1 ≤ 9) (no : ∀ g, g < 10 → g ≠ s → hN S' g = hN S g ∧ (hT S' g ↔ hT S g))
    (co : ∀ g i, hL S g i → hC S' g i = hC S g i) (cn : (hC S' s k).toInt = m) (hm : m < 90) (nt : ¬ hT S' s → k = 0) (kk : k = 0 → hT S' s → S'.2 14 m = 1) (kd : 0 < k → hT S' s → hT S s)
    (k9 : 0 < k → S'.2 14 m = 9) : HC (N + 1) S' := by
  have hh := h
  obtain ⟨h1, h2, h3, h4, h5, h6, h7, h8, h9⟩ := h
  have n3 : ∀ x : Int32, x = 9 → x ≠ 1 ∧ x ≠ 2 ∧ x ≠ 3 := fun x q => by subst q; decide
  have old : ∀ g i, hL S' g i → (hL S g i ∧ hC S' g i = hC S g i ∧ hM S' g i = hM S g i ∧ hM S g i < 90 ∧ hM S g i ≠ m) ∨ (g = s ∧ i = k ∧ hM S' g i = m) := fun g i a => by
    have a2 := a.2
    by_cases z : hL S g i
    · refine Or.inl ⟨z, co g i z, by unfold hM; rw [co g i z], hh.lt z, fun q => ?_⟩
      have := (h2 g i z).2.2
      rw [q] at this
      exact this fr
    · have y : g = s := Classical.byContradiction (fun y => z ⟨a.1, by rw [← (no g a.1 y).1]; exact a2⟩)
      subst y
      have y : i = k := Classical.byContradiction (fun y => z ⟨a.1, by omega⟩)
      subst y
      refine Or.inr ⟨rfl, rfl, ?_⟩
      have := iNat (x := hC S' g i) (by omega)
      unfold hM
      omega
  have new : hL S' s k := ⟨hs, by omega⟩
  have kp : ∀ g i, hL S g i → hL S' g i := fun g i a => by
    have a2 := a.2
    by_cases z : g = s
    · subst z
      exact ⟨a.1, by omega⟩
    · exact ⟨a.1, by rw [(no g a.1 z).1]; exact a2⟩
  have nm : hM S' s k = m := by
    have := iNat (x := hC S' s k) (by omega)
    unfold hM
    omega
  refine ⟨fun g q => ?_, fun g i a => ?_, fun x q z => ?_, fun g a t => ?_, fun g i a => ?_, fun g i a => ?_, fun g i g' i' a c q => ?_, fun g i a => ?_, fun g i a => ?_⟩
  · by_cases z : g = s
    · subst z
      exact ⟨by omega, by omega, fun t => by have := nt t; omega⟩
    · have v := no g q z
      rw [v.1, v.2]
      exact h1 g q
  · rcases old g i a with ⟨o1, o2, u3, o4, o5⟩ | ⟨o1, o2, u3⟩
    · rw [u3, o2, (eo _ o4 o5).1]
      exact h2 g i o1
    · rw [u3]
      subst o1
      subst o2
      exact ⟨by omega, by omega, u⟩
  · by_cases y : x = m
    · subst y
      exact ⟨s, k, new, nm⟩
    · rw [(eo x q y).1] at z
      obtain ⟨g, i, a, v⟩ := h3 x q z
      refine ⟨g, i, kp g i a, ?_⟩
      rw [← v]
      unfold hM
      rw [co g i a]
  · rcases old g 0 a with ⟨o1, o2, u3, o4, o5⟩ | ⟨o1, o2, u3⟩
    · rw [u3, (eo _ o4 o5).2.1]
      refine h4 g o1 ?_
      by_cases z : g = s
      · subst z
        exact kd (by have := o1.2; omega) t
      · exact (no g a.1 z).2.mp t
    · rw [u3]
      subst o1
      exact kk o2.symm t
  · rcases old g i a with ⟨o1, o2, u3, o4, o5⟩ | ⟨o1, o2, u3⟩
    · rw [u3]
      have v := h5 g i o1
      have z := eo _ o4 o5
      unfold uW at v ⊢
      rw [z.2.1, z.2.2.1, z.2.2.2.1, z.2.2.2.2.1]
      exact ⟨v.1, v.2.1, v.2.2.1, v.2.2.2.1, by omega⟩
    · rw [u3]
      exact w
  · rcases old g i a with ⟨o1, o2, u3, o4, o5⟩ | ⟨o1, o2, u3⟩
    · rw [u3, (eo _ o4 o5).2.2.2.2.2.1, b]
      have v := h6 g i o1
      have := ageS v hN6
      omega
    · rw [u3, bm, b, Int32.sub_self, i0]
      omega
  · rcases old g i a with ⟨o1, o2, u3, o4, o5⟩ | ⟨o1, o2, u3⟩
    · rcases old g' i' c with ⟨p1, p2, p3, p4, p5⟩ | ⟨p1, p2, p3⟩
      · rw [u3, p3, (eo _ o4 o5).2.2.2.2.2.1, (eo _ p4 p5).2.2.2.2.2.1] at q
        exact h7 g i g' i' o1 p1 q
      · rw [u3, p3, (eo _ o4 o5).2.2.2.2.2.1, bm] at q
        exact absurd q (ageN (h6 g i o1) hN6)
    · rcases old g' i' c with ⟨p1, p2, p3, p4, p5⟩ | ⟨p1, p2, p3⟩
      · rw [u3, p3, bm, (eo _ p4 p5).2.2.2.2.2.1] at q
        exact absurd q.symm (ageN (h6 g' i' p1) hN6)
      · exact ⟨o1.trans p1.symm, o2.trans p2.symm⟩
  · rcases old g (i + 1) a with ⟨o1, o2, u3, o4, o5⟩ | ⟨o1, o2, u3⟩
    · rcases old g i (a.le (by omega)) with ⟨p1, p2, p3, p4, p5⟩ | ⟨p1, p2, p3⟩
      · rw [u3, p3]
        have v := h8 g i o1
        have z := eo _ o4 o5
        have y := eo _ p4 p5
        unfold uC at v ⊢
        rw [z.2.1, z.2.2.1, z.2.2.2.1, z.2.2.2.2.1, z.2.2.2.2.2.2, y.2.1, y.2.2.1, y.2.2.2.2.2.1]
        exact v
      · have := o1.2
        subst p1
        omega
    · rw [u3]
      have n := n3 _ (k9 (by omega))
      exact ⟨n.1, fun q => by rcases q with q | q; exact absurd q n.2.1; exact absurd q n.2.2, fun q => absurd q n.2.2, fun q => absurd q n.2.1⟩
  · rcases old g (i + 2) a with ⟨o1, o2, u3', o4, o5⟩ | ⟨o1, o2, u3'⟩
    · rcases old g i (a.le (by omega)) with ⟨p1, p2, p3, p4, p5⟩ | ⟨p1, p2, p3⟩
      · rcases old g (i + 1) (a.le (by omega)) with ⟨r1, r2, r3, r4, r5⟩ | ⟨r1, r2, r3⟩
        · rw [u3', p3, r3]
          have v := h9 g i o1
          have z := eo _ o4 o5
          have y := eo _ p4 p5
          have x := eo _ r4 r5
          unfold u3 at v ⊢
          rw [z.2.1, z.2.2.1, z.2.2.2.1, z.2.2.2.2.1, y.2.2.1, x.2.2.1, x.2.2.2.1, x.2.2.2.2.1]
          exact v
        · have := o1.2
          subst r1
          omega
      · have := o1.2
        subst p1
        omega
    · rw [u3']
      have n := n3 _ (k9 (by omega))
      exact fun q => absurd q n.2.2
/-- the one motion of a row of one is changed -/
theorem HC.slot {N M : Int} {S S' : HS} (h : HC N S) (g0 m : Nat) (hNM : N ≤ M) (hg : g0 < 10) (h1' : hN S g0 = 1) (hm : hM S g0 0 = m)
    (b : S'.1 30 = S.1 30) (e13 : S'.2 13 = S.2 13) (e14 : S'.2 14 = S.2 14) (e22 : S'.2 22 = S.2 22)
    (eo : ∀ x, x < 90 → x ≠ m → S'.2 19 x = S.2 19 x ∧ S'.2 20 x = S.2 20 x ∧ S'.2 21 x = S.2 21 x ∧ S'.2 23 x = S.2 23 x)
    (w : uW M S' m) (no : ∀ g, g < 10 → hN S' g = hN S g ∧ (hT S' g ↔ hT S g)) (co : ∀ g i, hL S g i → hC S' g i = hC S g i) : HC M S' := by
  have hh := h.up hNM
  obtain ⟨h1, h2, h3, h4, h5, h6, h7, h8, h9⟩ := hh
  have sub : ∀ g i, hL S' g i → hL S g i := fun g i a => ⟨a.1, by rw [← (no g a.1).1]; exact a.2⟩
  have mm : ∀ g i, hL S' g i → hM S' g i = hM S g i := fun g i a => by unfold hM; rw [co g i (sub g i a)]
  have me : ∀ g i, hL S g i → 0 < i → hM S g i < 90 ∧ hM S g i ≠ m := fun g i a z => by
    refine ⟨h.lt a, fun q => ?_⟩
    have y := h.d a (show hL S g0 0 from ⟨hg, by omega⟩) (q.trans hm.symm)
    omega
  refine ⟨fun g q => ?_, fun g i a => ?_, fun x q z => ?_, fun g a t => ?_, fun g i a => ?_, fun g i a => ?_, fun g i g' i' a c q => ?_, fun g i a => ?_, fun g i a => ?_⟩
  · rw [(no g q).1, (no g q).2]
    exact h1 g q
  · rw [mm g i a, co g i (sub g i a), e13]
    exact h2 g i (sub g i a)
  · rw [e13] at z
    obtain ⟨g, i, a, v⟩ := h3 x q z
    refine ⟨g, i, ⟨a.1, by rw [(no g a.1).1]; exact a.2⟩, ?_⟩
    rw [← v]
    unfold hM
    rw [co g i a]
  · rw [mm g 0 a, e14]
    exact h4 g (sub g 0 a) ((no g a.1).2.mp t)
  · rw [mm g i a]
    by_cases z : hM S g i = m
    · rw [z]
      exact w
    · have y := eo _ (h.lt (sub g i a)) z
      have v := h5 g i (sub g i a)
      unfold uW at v ⊢
      rw [e14, y.1, y.2.1, y.2.2.1]
      exact v
  · rw [mm g i a, b, e22]
    exact h6 g i (sub g i a)
  · rw [mm g i a, mm g' i' c, e22] at q
    exact h7 g i g' i' (sub g i a) (sub g' i' c) q
  · rw [mm g (i + 1) a, mm g i (a.le (by omega))]
    have v := h8 g i (sub _ _ a)
    have z := me g (i + 1) (sub _ _ a) (by omega)
    have y := eo _ z.1 z.2
    have x : S'.2 19 (hM S g i) = S.2 19 (hM S g i) := by
      by_cases x : hM S g i = m
      · have x2 := h.d (sub g i (a.le (by omega))) (show hL S g0 0 from ⟨hg, by omega⟩) (x.trans hm.symm)
        have := (sub _ _ a).2
        obtain ⟨x2, x3⟩ := x2
        subst x2
        omega
      · exact (eo _ (h.lt (sub g i (a.le (by omega)))) x).1
    unfold uC at v ⊢
    rw [e14, e22, y.1, y.2.1, y.2.2.1, y.2.2.2, x]
    exact v
  · rw [mm g (i + 2) a, mm g i (a.le (by omega)), mm g (i + 1) (a.le (by omega))]
    have v := h9 g i (sub _ _ a)
    have z := me g (i + 2) (sub _ _ a) (by omega)
    have y := eo _ z.1 z.2
    have z' := me g (i + 1) (sub _ _ (a.le (by omega))) (by omega)
    have y' := eo _ z'.1 z'.2
    have x : S'.2 19 (hM S g i) = S.2 19 (hM S g i) := by
      by_cases x : hM S g i = m
      · have x2 := h.d (sub g i (a.le (by omega))) (show hL S g0 0 from ⟨hg, by omega⟩) (x.trans hm.symm)
        have := (sub _ _ a).2
        obtain ⟨x2, x3⟩ := x2
        subst x2
        omega
      · exact (eo _ (h.lt (sub g i (a.le (by omega)))) x).1
    unfold u3 at v ⊢
    rw [e14, y.1, y.2.1, y.2.2.1, x, y'.1, y'.2.1, y'.2.2.1]
    exact v
/-- a motion is another one than before -/
theorem HC.fresh {N : Int} {S S' : HS} (h : HC N S) (g0 m : Nat) (hN0 : 0 ≤ N) (hN6 : N ≤ 1000000) (hg : g0 < 10) (h1' : hN S g0 = 1) (hm : hM S g0 0 = m)
    (b : S'.1 30 = S.1 30 + 1) (bm : S'.2 22 m = S.1 30 + 1) (e13 : S'.2 13 = S.2 13) (e14 : S'.2 14 = S.2 14) (e19 : S'.2 19 = S.2 19) (e20 : S'.2 20 = S.2 20) (e21 : S'.2 21 = S.2 21) (e23 : S'.2 23 = S.2 23)
    (eo : ∀ x, x < 90 → x ≠ m → S'.2 22 x = S.2 22 x)
    (no : ∀ g, g < 10 → hN S' g = hN S g ∧ (hT S' g ↔ hT S g)) (co : ∀ g i, hL S g i → hC S' g i = hC S g i) : HC (N + 1) S' := by
  obtain ⟨h1, h2, h3, h4, h5, h6, h7, h8, h9⟩ := h.up (show N ≤ N + 1 by omega)
  have sub : ∀ g i, hL S' g i → hL S g i := fun g i a => ⟨a.1, by rw [← (no g a.1).1]; exact a.2⟩
  have mm : ∀ g i, hL S' g i → hM S' g i = hM S g i := fun g i a => by unfold hM; rw [co g i (sub g i a)]
  have l0 : hL S g0 0 := ⟨hg, by omega⟩
  refine ⟨fun g q => ?_, fun g i a => ?_, fun x q z => ?_, fun g a t => ?_, fun g i a => ?_, fun g i a => ?_, fun g i g' i' a c q => ?_, fun g i a => ?_, fun g i a => ?_⟩
  · rw [(no g q).1, (no g q).2]
    exact h1 g q
  · rw [mm g i a, co g i (sub g i a), e13]
    exact h2 g i (sub g i a)
  · rw [e13] at z
    obtain ⟨g, i, a, v⟩ := h3 x q z
    refine ⟨g, i, ⟨a.1, by rw [(no g a.1).1]; exact a.2⟩, ?_⟩
    rw [← v]
    unfold hM
    rw [co g i a]
  · rw [mm g 0 a, e14]
    exact h4 g (sub g 0 a) ((no g a.1).2.mp t)
  · rw [mm g i a]
    have v := h5 g i (sub g i a)
    unfold uW at v ⊢
    rw [e14, e19, e20, e21]
    exact v
  · rw [mm g i a, b]
    by_cases z : hM S g i = m
    · rw [z, bm, Int32.sub_self, i0]
      omega
    · rw [eo _ (h.lt (sub g i a)) z]
      have v := h.2.2.2.2.2.1 g i (sub g i a)
      have := ageS v hN6
      omega
  · have a' := sub g i a
    have c' := sub g' i' c
    rw [mm g i a, mm g' i' c] at q
    by_cases z : hM S g i = m
    · by_cases y : hM S g' i' = m
      · exact h.d a' c' (z.trans y.symm)
      · rw [z, bm, eo _ (h.lt c') y] at q
        exact absurd q.symm (ageN (h.2.2.2.2.2.1 g' i' c') hN6)
    · by_cases y : hM S g' i' = m
      · rw [y, bm, eo _ (h.lt a') z] at q
        exact absurd q (ageN (h.2.2.2.2.2.1 g i a') hN6)
      · rw [eo _ (h.lt a') z, eo _ (h.lt c') y] at q
        exact h7 g i g' i' a' c' q
  · rw [mm g (i + 1) a, mm g i (a.le (by omega))]
    have v := h8 g i (sub _ _ a)
    have x : hM S g i ≠ m := fun x => by
      have x2 := h.d (sub g i (a.le (by omega))) l0 (x.trans hm.symm)
      have := (sub _ _ a).2
      obtain ⟨x2, x3⟩ := x2
      subst x2
      omega
    unfold uC at v ⊢
    rw [e14, e19, e20, e21, e23, eo _ (h.lt (sub g i (a.le (by omega)))) x]
    exact v
  · rw [mm g (i + 2) a, mm g i (a.le (by omega)), mm g (i + 1) (a.le (by omega))]
    have v := h9 g i (sub _ _ a)
    unfold u3 at v ⊢
    rw [e14, e19, e20, e21]
    exact v
