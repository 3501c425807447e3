/-! ===== a place that is free ===== -/
theorem free_e {S : HS} {y : Nat} (hy : y < 8) (hf : S.2 34 y = 0) : ∀ (n : Nat) (x : Int32), 0 ≤ x.toInt → x.toInt ≤ y → 8 - x.toInt < n →
    (lp_X11_free_2 n S x).2 = S ∧ (0 ≤ (lp_X11_free_2 n S x).1.toInt ∧ (lp_X11_free_2 n S x).1.toInt ≤ 7) ∧ S.2 34 (lp_X11_free_2 n S x).1.toNatClampNeg = 0 := by
  intro n
  induction n with
  | zero => intro x h1 h2 h3; omega
  | succ n ih =>
    intro x h1 h2 h3
    rw [lp_X11_free_2]
    unfold st_X11_free_2
    have e8 : (8 : Int32).toInt = 8 := by decide
    rw [if_neg (fun c => by have c := iLe.mp c; rw [e8] at c; omega)]
    by_cases z : S.2 34 x.toNatClampNeg = 0
    · rw [if_pos z]
      exact ⟨rfl, ⟨h1, by show x.toInt ≤ 7; omega⟩, z⟩
    · rw [if_neg z]
      have e := iAdd (x := x) (y := 1) (by rw [i1]; omega) (by rw [i1]; omega)
      rw [i1] at e
      have k := iNat h1
      have d : x.toNatClampNeg ≠ y := fun q => z (by rw [q]; exact hf)
      exact ih (x + 1) (by omega) (by omega) (by omega)
theorem free_i {S : HS} (h : ∃ p, p < 8 ∧ S.2 34 p = 0) : (f_X11_free S).2 = S ∧ (0 ≤ (f_X11_free S).1.toInt ∧ (f_X11_free S).1.toInt ≤ 7) ∧ S.2 34 (f_X11_free S).1.toNatClampNeg = 0 := by
  obtain ⟨p, a, b⟩ := h
  exact free_e a b 100000 0 (by rw [i0]; omega) (by rw [i0]; omega) (by rw [i0]; omega)
/-! ===== a motion is pending or not ===== -/
theorem isPending_e {S : HS} (h6 : (S.1 6).toInt ≤ 9) (x1 : Int32) : ∀ (n : Nat) (x : Int32), 0 ≤ x.toInt → (S.1 6).toInt - x.toInt < n → x.toInt ≤ 9 →
    (lp_X11_isPending_2 n S x1 x).2 = S ∧ ((lp_X11_isPending_2 n S x1 x).1 = 0 → ∀ i : Nat, x.toInt ≤ i → (i : Int) < (S.1 6).toInt → S.2 31 i ≠ x1) := by
  intro n
  induction n with
  | zero =>
    intro x h1 h3 h4
    exact ⟨rfl, fun _ i a b => by omega⟩
  | succ n ih =>
    intro x h1 h3 h4
    rw [lp_X11_isPending_2]
    unfold st_X11_isPending_2
    by_cases c : S.1 6 ≤ x
    · rw [if_pos c]
      have c := iLe.mp c
      exact ⟨rfl, fun _ i a b => by omega⟩
    · rw [if_neg c]
      have c := mt iLe.mpr c
      have e := iAdd (x := x) (y := 1) (by rw [i1]; omega) (by rw [i1]; omega)
      rw [i1] at e
      have k := iNat h1
      by_cases z : S.2 31 x.toNatClampNeg = x1
      · rw [if_pos z]
        exact ⟨rfl, fun q => absurd (show (1 : Int32) = 0 from q) (by decide)⟩
      · rw [if_neg z]
        have g := ih (x + 1) (by omega) (by omega) (by omega)
        refine ⟨g.1, fun q i a b => ?_⟩
        by_cases y : i = x.toNatClampNeg
        · rw [y]
          exact z
        · exact g.2 q i (by omega) b
theorem isPending_i {S : HS} (h : RA S) (x1 : Int32) : (f_X11_isPending S x1).2 = S ∧ ((f_X11_isPending S x1).1 = 0 → ∀ i : Nat, (i : Int) < (S.1 6).toInt → S.2 31 i ≠ x1) := by
  have g := isPending_e h.2.1.2 x1 100000 0 (by rw [i0]; omega) (by rw [i0]; have := h.2.1; omega) (by rw [i0]; omega)
  exact ⟨g.1, fun q i b => g.2 q i (by rw [i0]; omega) b⟩
/-! ===== change ===== -/
/-- what the last loop of change leaves: only spans and outsides of what is laid on x1 and not pending -/
def cL (S r : HS) (x1 x4 x6 : Int32) (j : Int) : Prop :=
  r.1 = S.1 ∧ (∀ k, k ≠ 20 → k ≠ 21 → k ≠ 26 → r.2 k = S.2 k) ∧ ∀ x : Nat, x < 90 → (r.2 20 x = S.2 20 x ∧ r.2 21 x = S.2 21 x) ∨ (j ≤ x ∧ S.2 23 x = S.2 22 x1.toNatClampNeg ∧ (∀ i : Nat, (i : Int) < (S.1 6).toInt → (S.2 31 i).toNatClampNeg ≠ x) ∧ x4.toInt ≤ (S.2 20 x).toInt ∧ r.2 20 x = S.2 20 x + x6 ∧ r.2 21 x = S.2 21 x + x6)
theorem cL.step {S r : HS} {x1 x4 x6 : Int32} {j : Int} (h : cL S r x1 x4 x6 (j + 1)) : cL S r x1 x4 x6 j :=
  ⟨h.1, h.2.1, fun x a => (h.2.2 x a).elim Or.inl (fun q => Or.inr ⟨by have := q.1; omega, q.2⟩)⟩
theorem sA_k {S : HS} {k i j : Nat} {v : Int32} (h : j ≠ k) : (sA S k i v).2 j = S.2 j := by
  show (if j = k then _ else _) = _
  rw [if_neg h]
theorem chg_194 {x1 : Int32} (h1 : vp_in x1 90) (x2 x3 x4 x5 x6 x7 x8 : Int32) : ∀ (n : Nat) (S : HS) (x : Int32), RA S → 0 ≤ x.toInt → x.toInt ≤ 90 → 90 - x.toInt < n →
    lq_X11_change_194 n S x1 x2 x3 x4 x5 x6 x7 x8 x ∧ cL S (lp_X11_change_194 n S x1 x2 x3 x4 x5 x6 x7 x8 x).2 x1 x4 x6 x.toInt := by
  intro n
  induction n with
  | zero => intro S x h a b c; omega
  | succ n ih =>
    intro S x h a b c
    rw [lq_X11_change_194, lp_X11_change_194]
    unfold ps_X11_change_194 st_X11_change_194
    have e90 : (90 : Int32).toInt = 90 := by decide
    by_cases z : 90 ≤ x
    · rw [if_pos z, if_pos z]
      exact ⟨⟨True.intro, True.intro⟩, rfl, fun _ _ _ _ => rfl, fun _ _ => Or.inl ⟨rfl, rfl⟩⟩
    rw [if_neg z, if_neg z]
    have z := mt iLe.mpr z
    rw [e90] at z
    have e := iAdd (x := x) (y := 1) (by rw [i1]; omega) (by rw [i1]; omega)
    rw [i1] at e
    have k := iNat a
    have v : vp_in x 90 := vIn a (by omega)
    have nx : lq_X11_change_194 n S x1 x2 x3 x4 x5 x6 x7 x8 (x + 1) ∧ cL S (lp_X11_change_194 n S x1 x2 x3 x4 x5 x6 x7 x8 (x + 1)).2 x1 x4 x6 x.toInt := by
      have g := ih S (x + 1) h (by omega) (by omega) (by omega)
      rw [e] at g
      exact ⟨g.1, g.2.step⟩
    by_cases z1 : S.2 13 x.toNatClampNeg = 0
    · rw [if_pos z1, if_pos z1]
      exact ⟨⟨⟨v, True.intro⟩, nx.1⟩, nx.2⟩
    rw [if_neg z1, if_neg z1]
    by_cases z2 : x = x2
    · rw [if_pos z2, if_pos z2]
      exact ⟨⟨⟨v, True.intro⟩, nx.1⟩, nx.2⟩
    rw [if_neg z2, if_neg z2]
    by_cases z3 : S.2 25 x.toNatClampNeg = 0
    · rw [if_pos z3, if_pos z3]
      exact ⟨⟨⟨v, v, True.intro⟩, nx.1⟩, nx.2⟩
    rw [if_neg z3, if_neg z3]
    by_cases z4 : S.2 26 x.toNatClampNeg = 0
    · rw [if_pos z4, if_pos z4]
      by_cases z5 : S.2 23 x.toNatClampNeg = S.2 22 x1.toNatClampNeg
      · rw [if_pos z5, if_pos z5]
        have p := isPending_i h x
        rw [p.1]
        unfold q_X11_change_a259 b_X11_change_a259
        by_cases z6 : (f_X11_isPending S x).1 = 0
        · rw [if_pos z6, if_pos z6]
          by_cases z7 : x3 < S.2 21 x.toNatClampNeg
          · rw [if_pos z7, if_pos z7]
            by_cases z8 : S.2 20 x.toNatClampNeg < x4
            · rw [if_pos z8, if_pos z8]
              have g := ih (sA S 26 x.toNatClampNeg (vp_nar .boolean 1)) (x + 1) h (by omega) (by omega) (by omega)
              refine ⟨⟨⟨v, v, v, v, h1, isPending_p h x, v, v, v, True.intro⟩, g.1⟩, ?_⟩
              have g2 := g.2
              rw [e] at g2
              refine ⟨g2.1, fun k a1 a2 a3 => (g2.2.1 k a1 a2 a3).trans (sA_k a3), fun y b => ?_⟩
              exact (g2.step.2.2 y b).elim Or.inl Or.inr
            · rw [if_neg z8, if_neg z8]
              have z8 := mt iLt.mpr z8
              have g := ih (sA (sA S 20 x.toNatClampNeg ((S.2 20 x.toNatClampNeg) + x6)) 21 x.toNatClampNeg ((S.2 21 x.toNatClampNeg) + x6)) (x + 1) h (by omega) (by omega) (by omega)
              refine ⟨⟨⟨v, v, v, v, h1, isPending_p h x, v, v, v, v, v, v, True.intro⟩, g.1⟩, ?_⟩
              have g2 := g.2
              rw [e] at g2
              refine ⟨g2.1, fun k a1 a2 a3 => (g2.2.1 k a1 a2 a3).trans ((sA_k a2).trans (sA_k a1)), fun y b => ?_⟩
              have g3 := g2.2.2 y b
              have g3 : ((_ : Int32) = upd (S.2 20) x.toNatClampNeg ((S.2 20 x.toNatClampNeg) + x6) y ∧ _ = upd (S.2 21) x.toNatClampNeg ((S.2 21 x.toNatClampNeg) + x6) y) ∨ (_ ∧ S.2 23 y = S.2 22 x1.toNatClampNeg ∧ (∀ i : Nat, (i : Int) < (S.1 6).toInt → (S.2 31 i).toNatClampNeg ≠ y) ∧ _ ≤ (upd (S.2 20) x.toNatClampNeg ((S.2 20 x.toNatClampNeg) + x6) y).toInt ∧ _ = upd (S.2 20) x.toNatClampNeg ((S.2 20 x.toNatClampNeg) + x6) y + x6 ∧ _ = upd (S.2 21) x.toNatClampNeg ((S.2 21 x.toNatClampNeg) + x6) y + x6) := g3
              by_cases w : y = x.toNatClampNeg
              · subst w
                rw [upd_eq, upd_eq] at g3
                refine Or.inr ⟨by omega, z5, fun i c q => ?_, by omega, ?_⟩
                · refine p.2 z6 i c (iEq.mpr ?_)
                  have r := h.2.2.2.1 i c
                  have := iNat r.1
                  omega
                · refine g3.elim (fun q => q) (fun q => ?_)
                  have := q.1
                  omega
              · rw [upd_ne w, upd_ne w] at g3
                exact g3.elim Or.inl (fun q => Or.inr ⟨by have := q.1; omega, q.2⟩)
          · rw [if_neg z7, if_neg z7]
            exact ⟨⟨⟨v, v, v, v, h1, isPending_p h x, v, True.intro⟩, nx.1⟩, nx.2⟩
        · rw [if_neg z6, if_neg z6]
          exact ⟨⟨⟨v, v, v, v, h1, isPending_p h x, True.intro⟩, nx.1⟩, nx.2⟩
      · rw [if_neg z5, if_neg z5]
        exact ⟨⟨⟨v, v, v, v, h1, True.intro⟩, nx.1⟩, nx.2⟩
    · rw [if_neg z4, if_neg z4]
      exact ⟨⟨⟨v, v, v, True.intro⟩, nx.1⟩, nx.2⟩
/-- what change leaves -/
def cX (S r : HS) (x1 x4 x6 w : Int32) : Prop :=
  r.1 = S.1 ∧ (∀ k, k ≠ 19 → k ≠ 20 → k ≠ 21 → k ≠ 26 → k ≠ 28 → r.2 k = S.2 k) ∧ r.2 19 = upd (S.2 19) x1.toNatClampNeg w ∧
  ∀ x : Nat, x < 90 → (r.2 20 x = S.2 20 x ∧ r.2 21 x = S.2 21 x) ∨ (S.2 23 x = S.2 22 x1.toNatClampNeg ∧ (∀ i : Nat, (i : Int) < (S.1 6).toInt → (S.2 31 i).toNatClampNeg ≠ x) ∧ x4.toInt ≤ (S.2 20 x).toInt ∧ r.2 20 x = S.2 20 x + x6 ∧ r.2 21 x = S.2 21 x + x6)
theorem cX.text {S r : HS} {x1 x4 x6 w : Int32} {i : Nat} {v : Int32} (h : cX (sA S 28 i v) r x1 x4 x6 w) : cX S r x1 x4 x6 w :=
  ⟨h.1, fun k a1 a2 a3 a4 a5 => (h.2.1 k a1 a2 a3 a4 a5).trans (sA_k a5), h.2.2⟩
theorem chg_142 {x1 : Int32} (h1 : vp_in x1 90) {x2 : Int32} (h2 : vp_in x2 90) {x3 x5 x8 : Int32} (x4 x6 x7 : Int32) (e8 : x8.toInt = 400 * x1.toInt) (h3 : 0 ≤ x3.toInt) (h5 : x3.toInt + x5.toInt ≤ 400) (h5' : x5.toInt ≤ 400) : ∀ (n : Nat) (S : HS) (x : Int32), RA S → 0 ≤ x.toInt → x.toInt ≤ 400 → 400 - x.toInt < n →
    lq_X11_change_142 n S x1 x2 x3 x4 x5 x6 x7 x8 x ∧ cX S (lp_X11_change_142 n S x1 x2 x3 x4 x5 x6 x7 x8 x).2 x1 x4 x6 (x7 + x6) := by
  intro n
  induction n with
  | zero => intro S x h a b c; omega
  | succ n ih =>
    intro S x h a b c
    rw [lq_X11_change_142, lp_X11_change_142]
    unfold ps_X11_change_142 st_X11_change_142
    have v1 := vp_in_iff.mp h1
    have v2 := vp_in_iff.mp h2
    by_cases z : x5 ≤ x
    · rw [if_pos z, if_pos z]
      dsimp only
      have g := chg_194 h1 x2 x3 x4 x5 x6 x7 x8 100000 (sA S 19 x1.toNatClampNeg (x7 + x6)) 0 h (by rw [i0]; omega) (by rw [i0]; omega) (by rw [i0]; omega)
      have g2 := g.2
      refine ⟨⟨⟨h1, g.1⟩, True.intro⟩, g2.1, fun k a1 a2 a3 a4 _ => (g2.2.1 k a2 a3 a4).trans (sA_k a1), g2.2.1 19 (by omega) (by omega) (by omega), fun y b => ?_⟩
      exact (g2.2.2 y b).elim Or.inl (fun q => Or.inr q.2)
    rw [if_neg z, if_neg z]
    have z := mt iLe.mpr z
    have e := iAdd (x := x) (y := 1) (by rw [i1]; omega) (by rw [i1]; omega)
    rw [i1] at e
    have e4 : (400 : Int32).toInt = 400 := by decide
    have m := iMul (x := 400) (y := x2) (n := 400 * x2.toInt) (by rw [e4]) (by omega) (by omega)
    have p1 := iAdd (x := 400 * x2) (y := x) (by rw [m]; omega) (by rw [m]; omega)
    rw [m] at p1
    have p2 := iAdd (x := x8) (y := x3) (by omega) (by omega)
    have p3 := iAdd (x := x8 + x3) (y := x) (by omega) (by omega)
    have g := ih (sA S 28 ((x8 + x3) + x).toNatClampNeg (S.2 28 ((400 * x2) + x).toNatClampNeg)) (x + 1) h (by omega) (by omega) (by omega)
    exact ⟨⟨⟨vIn (by omega) (by omega), vIn (by omega) (by omega), True.intro⟩, g.1⟩, g.2.text⟩
theorem chg_139 {x1 : Int32} (h1 : vp_in x1 90) {x2 : Int32} (h2 : vp_in x2 90) {x3 x5 x8 : Int32} (x4 x6 x7 : Int32) (e8 : x8.toInt = 400 * x1.toInt) (h3 : 0 ≤ x3.toInt) (h5 : x3.toInt + x5.toInt ≤ 400) (h5' : x5.toInt ≤ 400) (S : HS) (h : RA S) :
    q_X11_change_139 S x1 x2 x3 x4 x5 x6 x7 x8 ∧ cX S (b_X11_change_139 S x1 x2 x3 x4 x5 x6 x7 x8).2 x1 x4 x6 (x7 + x6) := by
  unfold q_X11_change_139 b_X11_change_139
  exact chg_142 h1 h2 x4 x6 x7 e8 h3 h5 h5' 100000 S 0 h (by rw [i0]; omega) (by rw [i0]; omega) (by rw [i0]; omega)
theorem chg_103 {x1 : Int32} (h1 : vp_in x1 90) {x2 : Int32} (h2 : vp_in x2 90) {x3 x5 x6 x7 x8 : Int32} (x4 : Int32) (e8 : x8.toInt = 400 * x1.toInt) (h3 : 0 ≤ x3.toInt) (h5 : x3.toInt + x5.toInt ≤ 400) (h5' : x5.toInt ≤ 400) (h7 : x7.toInt ≤ 400) (h6 : x6.toInt ≤ 0) (h6' : -400 ≤ x6.toInt) : ∀ (n : Nat) (S : HS) (x : Int32), RA S → 0 ≤ x.toInt → 0 ≤ x.toInt + x6.toInt → x.toInt ≤ 400 → 400 - x.toInt < n →
    lq_X11_change_103 n S x1 x2 x3 x4 x5 x6 x7 x8 x ∧ cX S (lp_X11_change_103 n S x1 x2 x3 x4 x5 x6 x7 x8 x).2 x1 x4 x6 (x7 + x6) := by
  intro n
  induction n with
  | zero => intro S x h a a' b c; omega
  | succ n ih =>
    intro S x h a a' b c
    rw [lq_X11_change_103, lp_X11_change_103]
    unfold ps_X11_change_103 st_X11_change_103
    have v1 := vp_in_iff.mp h1
    by_cases z : x7 ≤ x
    · rw [if_pos z, if_pos z]
      exact (chg_139 h1 h2 x4 x6 x7 e8 h3 h5 h5' S h).imp (fun g => ⟨g, True.intro⟩) (fun g => g)
    rw [if_neg z, if_neg z]
    have z := mt iLe.mpr z
    have e := iAdd (x := x) (y := 1) (by rw [i1]; omega) (by rw [i1]; omega)
    rw [i1] at e
    have p2 := iAdd (x := x8) (y := x) (by omega) (by omega)
    have p3 := iAdd (x := x8 + x) (y := x6) (by omega) (by omega)
    have g := ih (sA S 28 ((x8 + x) + x6).toNatClampNeg (S.2 28 (x8 + x).toNatClampNeg)) (x + 1) h (by omega) (by omega) (by omega) (by omega)
    exact ⟨⟨⟨vIn (by omega) (by omega), vIn (by omega) (by omega), True.intro⟩, g.1⟩, g.2.text⟩
theorem chg_94 {x1 : Int32} (h1 : vp_in x1 90) {x2 : Int32} (h2 : vp_in x2 90) {x3 x4 x5 x6 x7 x8 : Int32} (e8 : x8.toInt = 400 * x1.toInt) (h3 : 0 ≤ x3.toInt) (h5 : x3.toInt + x5.toInt ≤ 400) (h5' : x5.toInt ≤ 400) (h7 : x7.toInt ≤ 400) (h6' : -400 ≤ x6.toInt) (h4 : 0 ≤ x4.toInt ∧ x4.toInt ≤ 400) (h46 : 0 ≤ x4.toInt + x6.toInt) (S : HS) (h : RA S) :
    q_X11_change_94 S x1 x2 x3 x4 x5 x6 x7 x8 ∧ cX S (b_X11_change_94 S x1 x2 x3 x4 x5 x6 x7 x8).2 x1 x4 x6 (x7 + x6) := by
  unfold q_X11_change_94 b_X11_change_94
  by_cases z : 0 ≤ x6
  · rw [if_pos z, if_pos z]
    exact chg_139 h1 h2 x4 x6 x7 e8 h3 h5 h5' S h
  · rw [if_neg z, if_neg z]
    have z := mt iLe.mpr z
    rw [i0] at z
    exact chg_103 h1 h2 x4 e8 h3 h5 h5' h7 (by omega) h6' 100000 S x4 h h4.1 h46 h4.2 (by omega)
theorem ix36 {x8 x x6 : Int32} (h8 : 0 ≤ x8.toInt ∧ x8.toInt ≤ 35600) (hx : 0 ≤ x.toInt ∧ x.toInt ≤ 399) (h6 : 0 ≤ x.toInt + x6.toInt ∧ x.toInt + x6.toInt ≤ 399) : vp_in (x8 + x) 36000 ∧ vp_in ((x8 + x) + x6) 36000 := by
  have p2 := iAdd (x := x8) (y := x) (by omega) (by omega)
  have p3 := iAdd (x := x8 + x) (y := x6) (by omega) (by omega)
  exact ⟨vIn (by omega) (by omega), vIn (by omega) (by omega)⟩
theorem chg_58 {x1 : Int32} (h1 : vp_in x1 90) {x2 : Int32} (h2 : vp_in x2 90) {x3 x4 x5 x6 x7 x8 : Int32} (e8 : x8.toInt = 400 * x1.toInt) (h3 : 0 ≤ x3.toInt) (h5 : x3.toInt + x5.toInt ≤ 400) (h5' : x5.toInt ≤ 400) (h7 : x7.toInt ≤ 400) (h6' : 0 ≤ x6.toInt) (h67 : x6.toInt + x7.toInt ≤ 400) (h4 : 0 ≤ x4.toInt ∧ x4.toInt ≤ 400) : ∀ (n : Nat) (S : HS) (x : Int32), RA S → -1 ≤ x.toInt → x.toInt < x7.toInt → x.toInt + 1 < n →
    lq_X11_change_58 n S x1 x2 x3 x4 x5 x6 x7 x8 x ∧ cX S (lp_X11_change_58 n S x1 x2 x3 x4 x5 x6 x7 x8 x).2 x1 x4 x6 (x7 + x6) := by
  intro n
  induction n with
  | zero => intro S x h a b c; omega
  | succ n ih =>
    intro S x h a b c
    rw [lq_X11_change_58, lp_X11_change_58]
    unfold ps_X11_change_58 st_X11_change_58
    have v1 := vp_in_iff.mp h1
    by_cases z : x < x4
    · rw [if_pos z, if_pos z]
      dsimp only
      have g := chg_94 h1 h2 (x4 := x4) (x6 := x6) e8 h3 h5 h5' h7 (by omega) h4 (by omega) S h
      refine ⟨⟨?_, True.intro⟩, ?_⟩
      · with_reducible exact g.1
      · with_reducible exact g.2
    rw [if_neg z, if_neg z]
    have z := mt iLt.mpr z
    have em : (-1 : Int32).toInt = -1 := by decide
    have e := iAdd (x := x) (y := -1) (by rw [em]; omega) (by rw [em]; omega)
    rw [em] at e
    have y0 : 0 ≤ x.toInt := Int.le_trans h4.1 (Int.not_lt.mp z)
    have y1 : x.toInt ≤ 399 := by clear z ih e h4 h67 h5 h3; omega
    have y2 : x.toInt + x6.toInt ≤ 399 := by clear z ih e h4 h5 h3; omega
    have p := ix36 (x8 := x8) (x := x) (x6 := x6) (by clear z ih e h4 h67 h5 h3 b c; omega) ⟨y0, y1⟩ ⟨by clear z ih e h4 h67 h5 h3 b c; omega, y2⟩
    have g := ih (sA S 28 ((x8 + x) + x6).toNatClampNeg (S.2 28 (x8 + x).toNatClampNeg)) (x + (-1)) h (by rw [e]; clear z ih h4 h67 h5 h3 b c; omega) (by rw [e]; clear z ih h4 h67 h5 h3; omega) (by rw [e]; clear z ih h4 h67 h5 h3 b; omega)
    exact ⟨⟨⟨p.1, p.2, True.intro⟩, g.1⟩, g.2.text⟩
theorem change_i {S : HS} (h : RA S) {x1 x2 : Int32} (h1 : vp_in x1 90) (h2 : vp_in x2 90)
    (w1 : 0 ≤ (S.2 19 x1.toNatClampNeg).toInt ∧ (S.2 19 x1.toNatClampNeg).toInt ≤ 400) (w2 : 0 ≤ (S.2 19 x2.toNatClampNeg).toInt ∧ (S.2 19 x2.toNatClampNeg).toInt ≤ 400)
    (f : 0 ≤ (S.2 20 x2.toNatClampNeg).toInt ∧ (S.2 20 x2.toNatClampNeg).toInt ≤ (S.2 21 x2.toNatClampNeg).toInt ∧ (S.2 21 x2.toNatClampNeg).toInt ≤ (S.2 19 x1.toNatClampNeg).toInt)
    (q : (S.2 19 x1.toNatClampNeg).toInt + (S.2 19 x2.toNatClampNeg).toInt - ((S.2 21 x2.toNatClampNeg).toInt - (S.2 20 x2.toNatClampNeg).toInt) ≤ 400) :
    p_X11_change S x1 x2 ∧ ∃ x6 : Int32, x6.toInt = (S.2 19 x2.toNatClampNeg).toInt - ((S.2 21 x2.toNatClampNeg).toInt - (S.2 20 x2.toNatClampNeg).toInt) ∧ cX S (f_X11_change S x1 x2).2 x1 (S.2 21 x2.toNatClampNeg) x6 (S.2 19 x1.toNatClampNeg + x6) := by
  unfold p_X11_change f_X11_change
  have v1 := vp_in_iff.mp h1
  have e4 : (400 : Int32).toInt = 400 := by decide
  have m := iMul (x := 400) (y := x1) (n := 400 * x1.toInt) (by rw [e4]) (by omega) (by omega)
  have s1 := iSub (x := S.2 21 x2.toNatClampNeg) (y := S.2 20 x2.toNatClampNeg) (by omega) (by omega)
  have s2 := iSub (x := S.2 19 x2.toNatClampNeg) (y := S.2 21 x2.toNatClampNeg - S.2 20 x2.toNatClampNeg) (by omega) (by omega)
  rw [s1] at s2
  have s3 := iSub (x := S.2 19 x1.toNatClampNeg) (y := 1) (by rw [i1]; omega) (by rw [i1]; omega)
  rw [i1] at s3
  by_cases z : (S.2 19 x2.toNatClampNeg - (S.2 21 x2.toNatClampNeg - S.2 20 x2.toNatClampNeg)) ≤ 0
  · rw [if_pos z, if_pos z]
    have g := chg_94 h1 h2 (x3 := S.2 20 x2.toNatClampNeg) (x4 := S.2 21 x2.toNatClampNeg) (x5 := S.2 19 x2.toNatClampNeg) (x6 := S.2 19 x2.toNatClampNeg - (S.2 21 x2.toNatClampNeg - S.2 20 x2.toNatClampNeg)) (x7 := S.2 19 x1.toNatClampNeg) (x8 := 400 * x1) m f.1 (by omega) w2.2 w1.2 (by omega) ⟨by omega, by omega⟩ (by omega) S h
    refine ⟨⟨h2, h2, h2, h1, ?_⟩, _, s2, ?_⟩
    · with_reducible exact g.1
    · with_reducible exact g.2
  · rw [if_neg z, if_neg z]
    have z := mt iLe.mpr z
    rw [i0] at z
    have g := chg_58 h1 h2 (x3 := S.2 20 x2.toNatClampNeg) (x4 := S.2 21 x2.toNatClampNeg) (x5 := S.2 19 x2.toNatClampNeg) (x6 := S.2 19 x2.toNatClampNeg - (S.2 21 x2.toNatClampNeg - S.2 20 x2.toNatClampNeg)) (x7 := S.2 19 x1.toNatClampNeg) (x8 := 400 * x1) m f.1 (by omega) w2.2 w1.2 (by omega) (by omega) ⟨by omega, by omega⟩ 100000 S (S.2 19 x1.toNatClampNeg - 1) h (by omega) (by omega) (by omega)
    refine ⟨⟨h2, h2, h2, h1, ?_⟩, _, s2, ?_⟩
    · with_reducible exact g.1
    · with_reducible exact g.2
