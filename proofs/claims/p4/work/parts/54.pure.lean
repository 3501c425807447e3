/-! ===== a motion's words change ===== -/
theorem HC.change {N M : Int} {S S' : HS} (h : HC N S) (k t : Nat) (hNM : N ≤ M) (hk : hN S 0 = k + 1) (ht : hM S 0 k = t)
    (b : S'.1 30 = S.1 30) (e13 : S'.2 13 = S.2 13) (e14 : S'.2 14 = S.2 14) (e22 : S'.2 22 = S.2 22) (e23 : S'.2 23 = S.2 23)
    (e19 : ∀ x, x < 90 → x ≠ t → S'.2 19 x = S.2 19 x) (wn : 0 ≤ (S'.2 19 t).toInt ∧ (S'.2 19 t).toInt ≤ 400)
    (ef : ∀ x, x < 90 → (S'.2 20 x = S.2 20 x ∧ S'.2 21 x = S.2 21 x) ∨ (S.2 23 x = S.2 22 t ∧ (∀ i, hL S 0 i → hM S 0 i ≠ x) ∧ ((0 ≤ (S.2 20 x).toInt ∧ (S.2 20 x).toInt ≤ (S.2 21 x).toInt ∧ (S.2 21 x).toInt ≤ 400 * (N + 1)) → 0 ≤ (S'.2 20 x).toInt ∧ (S'.2 20 x).toInt ≤ (S'.2 21 x).toInt ∧ (S'.2 21 x).toInt ≤ 400 * (M + 1))))
    (n3 : S.2 14 t ≠ 3) (w2 : S.2 14 t = 2 → 0 < k → (S.2 19 (hM S 0 (k - 1))).toInt + (S'.2 19 t).toInt - ((S.2 21 t).toInt - (S.2 20 t).toInt) ≤ 400)
    (no : ∀ g, g < 10 → hN S' g = hN S g ∧ (hT S' g ↔ hT S g)) (co : ∀ g i, hL S g i → hC S' g i = hC S g i) : HC M S' := by
  obtain ⟨h1, h2, h3, h4, h5, h6, h7, h8, h9⟩ := h.up hNM
  have sub : ∀ g i, hL S' g i → hL S g i := fun g i a => ⟨a.1, by rw [← (no g a.1).1]; exact a.2⟩
  have mm : ∀ g i, hL S' g i → hM S' g i = hM S g i := fun g i a => by unfold hM; rw [co g i (sub g i a)]
  have lt : hL S 0 k := ⟨by omega, by omega⟩
  -- who is not the last of the row 0 has its words
  have ew : ∀ g i, hL S g (i + 1) → S'.2 19 (hM S g i) = S.2 19 (hM S g i) := fun g i a => by
    refine e19 _ (h.lt (a.le (by omega))) (fun q => ?_)
    have x := h.d (a.le (by omega)) lt (q.trans ht.symm)
    have := a.2
    obtain ⟨x2, x3⟩ := x
    subst x2
    omega
  -- who amends the one right below it has its span
  have es : ∀ g i, hL S g (i + 1) → (S.2 14 (hM S g (i + 1)) = 2 ∨ S.2 14 (hM S g (i + 1)) = 3) → S'.2 20 (hM S g (i + 1)) = S.2 20 (hM S g (i + 1)) ∧ S'.2 21 (hM S g (i + 1)) = S.2 21 (hM S g (i + 1)) := fun g i a q => by
    rcases ef _ (h.lt a) with f | f
    · exact f
    · have c := ((h8 g i a).2.1 q).1
      rw [f.1, ← ht] at c
      have x := h7 0 k g i lt (a.le (by omega)) c
      have := a.2
      obtain ⟨x2, x3⟩ := x
      subst x2
      omega
  have st : ∀ i, hL S 0 i → S'.2 20 (hM S 0 i) = S.2 20 (hM S 0 i) ∧ S'.2 21 (hM S 0 i) = S.2 21 (hM S 0 i) := fun i a => by
    rcases ef _ (h.lt a) with f | f
    · exact f
    · exact absurd rfl (f.2.1 i a)
  refine ⟨fun g q => ?_, fun g i a => ?_, fun x q z => ?_, fun g a t => ?_, fun g i a => ?_, fun g i a => ?_, fun g i g' i' a c q => ?_, fun g i a => ?_, fun g i a => ?_⟩
  · rw [(no g q).1, (no g q).2]
    exact h1 g q
  · rw [mm g i a, co g i (sub g i a), e13]
    exact h2 g i (sub g i a)
  · rw [e13] at z
    obtain ⟨g, i, a, v⟩ := h3 x q z
    refine ⟨g, i, ⟨a.1, by rw [(no g a.1).1]; exact a.2⟩, ?_⟩
    rw [← v]
    unfold hM
    rw [co g i a]
  · rw [mm g 0 a, e14]
    exact h4 g (sub g 0 a) ((no g a.1).2.mp t)
  · rw [mm g i a]
    have v := h.2.2.2.2.1 g i (sub g i a)
    refine ⟨by rw [e14]; exact v.1, ?_, ?_⟩
    · by_cases z : hM S g i = t
      · rw [z]
        exact wn
      · rw [e19 _ (h.lt (sub g i a)) z]
        exact v.2.1
    · rcases ef _ (h.lt (sub g i a)) with f | f
      · rw [f.1, f.2]
        have := v.2.2
        omega
      · exact f.2.2 v.2.2
  · rw [mm g i a, b, e22]
    exact h6 g i (sub g i a)
  · rw [mm g i a, mm g' i' c, e22] at q
    exact h7 g i g' i' (sub g i a) (sub g' i' c) q
  · rw [mm g (i + 1) a, mm g i (a.le (by omega))]
    have a' := sub _ _ a
    have v := h8 g i a'
    unfold uC
    rw [e14, e22, e23]
    refine ⟨v.1, fun q => ?_, v.2.2⟩
    have c := v.2.1 q
    have e := es g i a' q
    rw [e.1, e.2, ew g i a']
    refine ⟨c.1, c.2.1, ?_⟩
    by_cases z : hM S g (i + 1) = t
    · have x := h.d a' lt (z.trans ht.symm)
      obtain ⟨x2, x3⟩ := x
      subst x2
      have q2 : S.2 14 t = 2 := by
        rw [z] at q
        exact q.resolve_right n3
      have w := w2 q2 (by omega)
      have e : k - 1 = i := by omega
      rw [e] at w
      rw [z]
      exact w
    · rw [e19 _ (h.lt a') z]
      exact c.2.2
  · rw [mm g (i + 2) a, mm g i (a.le (by omega)), mm g (i + 1) (a.le (by omega))]
    have a' := sub _ _ a
    have v := h9 g i a'
    have c := h8 g (i + 1) a'
    unfold u3 at v ⊢
    rw [e14]
    intro q
    have q2 := c.2.2.1 q
    have e := es g (i + 1) a' (Or.inr q)
    have e' := es g i (a'.le (by omega)) (Or.inl q2)
    have y : hM S g (i + 2) ≠ t := fun y => n3 (by rw [← y]; exact q)
    rw [e.1, e.2, e'.1, e'.2, ew g i (a'.le (by omega)), ew g (i + 1) a', e19 _ (h.lt a') y]
    exact v q
