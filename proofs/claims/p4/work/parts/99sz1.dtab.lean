/-! ===== a free place, in both; TABLE ===== -/
section
variable {wF : Prop × (Nat → Int32) × Int32 × (Nat → Int32)} {x : Nat} {S S1 S2 S3 S4 : Cst} {T T1 T2 T3 : Nat → List Nat} {F F1 : List Nat} {col c1 c2 c3 : Nat → Nat} {H H2 G R : HS} {N M M2 : Int} {v : Int32}
/-- the first free place -/
def fpl (H : HS) (p : Nat) : Prop := p < 8 ∧ H.2 34 p = 0 ∧ ∀ p', p' < p → H.2 34 p' ≠ 0
theorem fpl_ex : ∀ n, n ≤ 8 → (∃ p, p < n ∧ H.2 34 p = 0) → ∃ p, fpl H p ∧ p < n := by
  intro n
  induction n with
  | zero => intro _ ⟨p, h, _⟩; omega
  | succ n ih =>
    intro hn ⟨p, hp, z⟩
    by_cases y : ∃ p, p < n ∧ H.2 34 p = 0
    · obtain ⟨q, a, b⟩ := ih (by omega) y
      exact ⟨q, a, by omega⟩
    · refine ⟨p, ⟨by omega, z, fun p' h' z' => y ⟨p', by omega, z'⟩⟩, hp⟩
theorem free_w {p : Nat} (f : fpl H p) : ∀ (n : Nat) (b : Int32), 0 ≤ b.toInt → b.toInt ≤ p → 8 - b.toInt < n → (lp_X11_free_2 n H b).1.toInt = p ∧ (lp_X11_free_2 n H b).2 = H := by
  have e8 : (8 : Int32).toInt = 8 := by decide
  obtain ⟨p8, z, lt⟩ := f
  intro n
  induction n with
  | zero => intro b h1 h2 h3; omega
  | succ n ih =>
    intro b h1 h2 h3
    rw [lp_X11_free_2]
    unfold st_X11_free_2
    have k := iNat h1
    rw [if_neg (fun y => by have := iLe.mp y; rw [e8] at this; omega)]
    by_cases y : b.toNatClampNeg = p
    · rw [y, if_pos z]
      refine ⟨?_, rfl⟩
      show b.toInt = _
      omega
    · rw [if_neg (lt _ (by omega))]
      have e := iAdd (x := b) (y := 1) (by rw [i1]; omega) (by rw [i1]; omega)
      rw [i1] at e
      exact ih (b + 1) (by omega) (by omega) (by omega)
theorem free_W {p : Nat} (f : fpl H p) : (f_X11_free H).1.toInt = p ∧ (f_X11_free H).2 = H := free_w f 100000 0 (by rw [i0]; omega) (by rw [i0]; omega) (by rw [i0]; omega)
theorem first_w (wf : wfS S1) (kx : iK S1 x 0) {p : Nat} (p8 : p < 8) (z : giC S1 (x + 13 + 3 * p) 0 = 0) (lt : ∀ p', p' < p → giC S1 (x + 13 + 3 * p') 0 ≠ 0) : ∀ (n : Nat) (b : Int32), 0 ≤ b.toInt → b.toInt ≤ p → 8 - b.toInt < n → lp_Y0_firstFreePlace_2 S1 x n b = some (x + 13 + 3 * p) := by
  intro n
  induction n with
  | zero => intro b h1 h2 h3; omega
  | succ n ih =>
    intro b h1 h2 h3
    rw [lp_Y0_firstFreePlace_2, st_first wf kx h1 (by omega)]
    have k := iNat h1
    by_cases y : b.toNatClampNeg = p
    · rw [y, if_pos z]
    · rw [if_neg (lt _ (by omega))]
      have e := iAdd (x := b) (y := 1) (by rw [i1]; omega) (by rw [i1]; omega)
      rw [i1] at e
      exact ih (b + 1) (by omega) (by omega) (by omega)
/-- the first free place, in both -/
theorem first_V (a : AS x S T col S1 T1 c1) (r : RR wF N S1 T1 x H) {p : Nat} (f : fpl H p) : f_Y0_firstFreePlace S1 x = some (x + 13 + 3 * p) ∧ giC S1 (x + 13 + 3 * p) 0 = 0 := by
  obtain ⟨p8, z, lt⟩ := f
  have so := r.2.2.1.2.1
  have z' := (so p p8).1 z
  refine ⟨first_w a.ci.wf a.k1 p8 z' (fun p' hp' y => ?_) 100000 0 (by rw [i0]; omega) (by rw [i0]; omega) (by rw [i0]; omega), z'⟩
  have w := (so p' (by omega)).2 (lt p' hp')
  rw [y] at w
  by_cases a : H.2 37 p' = 0
  · rw [if_pos a] at w
    by_cases b : H.2 27 (hM H (p' + 2) 0) = 0
    · rw [if_pos b] at w
      exact absurd w (by decide)
    · rw [if_neg b] at w
      exact absurd w (by decide)
  · rw [if_neg a] at w
    exact absurd w (by decide)
/-- rows behind tabling -/
theorem tabRows {p : Nat} (hp : p < 8) {u : Nat → Int32} (q34 : ∀ p', H2.2 34 p' = upd (H.2 34) p (H.1 6) p') (q37 : ∀ p', H2.2 37 p' = upd (H.2 37) p 1 p') (q33 : H2.2 33 = u) (q32 : H2.2 32 = H.2 32) (q31 : H2.2 31 = H.2 31) (q6 : H2.1 6 = 0) (q36 : H2.1 36 = H.1 36) (q35 : H2.1 35 = H.1 35) (h9 : (H.1 6).toInt ≤ 9) (u1 : ∀ i : Nat, (i : Int) < (H.1 6).toInt → u (9 * p + i) = H.2 31 i) (u2 : ∀ j : Nat, (j : Int) < 9 * (p : Int) ∨ 9 * (p : Int) + (H.1 6).toInt ≤ j → u j = H.2 33 j) :
    hN H2 0 = 0 ∧ hN H2 (p + 2) = hN H 0 ∧ (∀ g, g ≠ 0 → g ≠ p + 2 → hN H2 g = hN H g) ∧ (∀ i : Nat, (i : Int) < hN H 0 → hM H2 (p + 2) i = hM H 0 i) ∧ (∀ g i, g ≠ p + 2 → i < 9 → hM H2 g i = hM H g i) ∧ hT H2 (p + 2) ∧ ∀ g, g ≠ p + 2 → (hT H2 g ↔ hT H g) := by
  refine ⟨?_, ?_, fun g n1 n2 => ?_, fun i hi => ?_, fun g i n hi => ?_, ?_, fun g n => ?_⟩
  · show (H2.1 6).toInt = 0
    rw [q6]
    rfl
  · show (H2.2 34 p).toInt = (H.1 6).toInt
    rw [q34, upd_eq]
  · match g, n1 with
    | 1, _ => show (H2.1 35).toInt = _; rw [q35]; rfl
    | p' + 2, _ => show (H2.2 34 p').toInt = (H.2 34 p').toInt; rw [q34, upd_ne (by omega)]
  · show (H2.2 33 (9 * p + i)).toNatClampNeg = (H.2 31 i).toNatClampNeg
    rw [q33, u1 i hi]
  · unfold hM
    match g with
    | 0 => show (H2.2 31 i).toNatClampNeg = _; rw [q31]; rfl
    | 1 => show (H2.2 32 i).toNatClampNeg = _; rw [q32]; rfl
    | p' + 2 =>
      show (H2.2 33 (9 * p' + i)).toNatClampNeg = (H.2 33 (9 * p' + i)).toNatClampNeg
      rw [q33, u2 _ (by omega)]
  · show H2.2 37 p ≠ 0
    rw [q37, upd_eq]
    decide
  · match g with
    | 0 => exact Iff.rfl
    | 1 => show H2.1 36 ≠ 0 ↔ H.1 36 ≠ 0; rw [q36]
    | p' + 2 =>
      show H2.2 37 p' ≠ 0 ↔ H.2 37 p' ≠ 0
      rw [q37, upd_ne (by omega)]
/-- the pending ones are put upon a place -/
theorem tab_B (a : AS x S T col S1 T1 c1) (r : RR wF N S1 T1 x H) (h : HI M H) (z6 : ¬ H.1 6 = 0) {p : Nat} (hp : p < 8) (z0 : H.2 34 p = 0) {u : Nat → Int32} (q1 : ∀ j, j ≠ 6 → H2.1 j = H.1 j) (q6 : H2.1 6 = 0) (q2 : ∀ k, k ≠ 33 → k ≠ 34 → k ≠ 37 → H2.2 k = H.2 k) (q34 : ∀ p', H2.2 34 p' = upd (H.2 34) p (H.1 6) p') (q37 : ∀ p', H2.2 37 p' = upd (H.2 37) p 1 p') (q33 : H2.2 33 = u) (u1 : ∀ i : Nat, (i : Int) < (H.1 6).toInt → u (9 * p + i) = H.2 31 i) (u2 : ∀ j : Nat, (j : Int) < 9 * (p : Int) ∨ 9 * (p : Int) + (H.1 6).toInt ≤ j → u j = H.2 33 j) (hc2 : HC M2 H2) : ∃ S3 T3, f_Y5_pourInto (siC S1 (x + 13 + 3 * p) 0 3) (x + 1) (x + 13 + 3 * p + 1) = (0, S3) ∧ Sst noE x S T [] col S3 T3 [] c1 ∧ RR wF N S3 T3 x H2 := by
  have o : pl x (x + 13 + 3 * p) := Or.inr ⟨p, hp, rfl⟩
  have b6 := h.ra.2.1
  have z6' := mt iEq.mpr z6
  rw [i0] at z6'
  have e06 : hN H 0 = (H.1 6).toInt := rfl
  have l0 := r.2.1 (p + 2) (by omega)
  have eT0 : T1 (x + 13 + 3 * p + 1) = [] := by
    have e0 : hN H (p + 2) = (H.2 34 p).toInt := rfl
    rw [e0, z0, i0] at l0
    exact List.length_eq_zero_iff.mp (by have := l0.1; rw [rP_p] at this; omega)
  have g := a.1.sort o 3
  have ln := (r.2.1 0 (by omega)).1
  have ln : ((T1 (x + 1)).length : Int) = (H.1 6).toInt := ln
  obtain ⟨-, S3, T3, f1, f2, f3, f4, f5, f6⟩ := y_pour noE_n g (P := x + 1) (Q := x + 13 + 3 * p + 1) (Or.inr (Or.inl rfl)) (by omega) o.o.1 o.o.2.1 (by omega) (by rw [eT0]; simp; omega)
  obtain ⟨r1, r2, r3, r4, r5, r6, r7⟩ := tabRows hp q34 q37 q33 (q2 32 (by decide) (by decide) (by decide)) (q2 31 (by decide) (by decide) (by decide)) q6 (q1 36 (by decide)) (q1 35 (by decide)) (by omega) u1 u2
  have G : gX (D5 x S3.1) S1 S3 := ((gX.si S1 (x + 13 + 3 * p) 0 3).mo (fun z y => Or.inr (by rw [y]; exact o))).tr (f3.x (D := D5 x S3.1))
  have n31 : S3.1 = S1.1 := f3.2.2.2
  obtain ⟨⟨K1, K2, K3, K4⟩, K8, Kc⟩ := frD (H2 := H2) r a.ci a.k1 G f2.ci.wf (Or.inr (Nat.le_refl _)) (fun z k => Or.inr (ik_b k G.1 n31)) (fun k => absurd k.1 (Nat.lt_irrefl _)) (fun k h1 h2 => q1 k h2) (q1 39 (by decide)) ⟨q2 11 (by decide) (by decide) (by decide), q2 12 (by decide) (by decide) (by decide), q2 38 (by decide) (by decide) (by decide), q2 40 (by decide) (by decide) (by decide), q2 41 (by decide) (by decide) (by decide)⟩
  have st : ∀ d, pl x d → giC S3 d 0 = if d = x + 13 + 3 * p then 3 else giC S1 d 0 := fun d od => by
    have k5 := pl.lt g.ci g.k1 od
    rw [f3.2.1 d k5.1 (by rw [k5.2]; decide), gi_si]
    by_cases y : d = x + 13 + 3 * p
    · rw [if_pos ⟨y, rfl⟩, if_pos y]
    · rw [if_neg (fun w => y w.1), if_neg y]
  have eTp : T3 (rP x (p + 2)) = T1 (rP x 0) := by
    show T3 (x + 13 + 3 * p + 1) = T1 (x + 1)
    rw [f5, eT0]
    rfl
  have eTz : T3 (rP x 0) = [] := f4
  have eTo : ∀ g, g ≠ 0 → g ≠ p + 2 → T3 (rP x g) = T1 (rP x g) := fun g n1 n2 => f6 _ (fun y => n1 (rP_inj (x := x) (g := g) (g' := 0) y)) (fun y => n2 (rP_inj (x := x) (g := g) (g' := p + 2) y))
  refine ⟨S3, T3, f1, f2, r.ex (gs := 10) (is := 0) h.1 hc2 K1 K2 K3 K4 (q1 0 (by decide)) (fun g' hg => ?_) ?_ (fun p' hp' => ?_) ⟨by rw [K8]; exact Int.le_refl _, by rw [K8]; exact r.2.2.2.2.2.1.2⟩ (fun s h1 h2 => by rw [q1 30 (by decide)]; omega) (fun g' i l n => ?_) (fun l => absurd l.1 (by omega)) (fun l => absurd l.1 (by omega)) (fun l => absurd l.1 (by omega)) (fun l => absurd l.1 (by omega)) (fun l => absurd l.1 (by omega))⟩
  · by_cases y1 : g' = 0
    · rw [y1, eTz, r1]
      rfl
    · by_cases y2 : g' = p + 2
      · rw [y2, eTp, r2]
        exact (r.2.1 0 (by omega)).1
      · rw [eTo g' y1 y2, r3 g' y1 y2]
        exact (r.2.1 g' hg).1
  · rw [st _ (Or.inl rfl), if_neg (by omega), q1 35 (by decide), q1 36 (by decide)]
    exact r.2.2.1.1
  · rw [st _ (Or.inr ⟨p', hp', rfl⟩), q34, q37]
    by_cases y : p' = p
    · subst y
      rw [if_pos rfl, upd_eq, upd_eq]
      exact ⟨fun w => absurd w z6, fun _ => by rw [if_neg (by decide)]⟩
    · rw [if_neg (by omega), upd_ne y, upd_ne y, r5 (p' + 2) 0 (by omega) (by omega), q2 27 (by decide) (by decide) (by decide)]
      exact r.2.2.1.2.1 p' hp'
  · have fin : ∀ g2 i', hL H g2 i' → hM H2 g' i = hM H g2 i' → (hT H2 g' ↔ hT H g2) → (¬ hT H g2 → 2 ≤ g2 → 2 ≤ g') → T3 (rP x g') = T1 (rP x g2) → i = i' → ∃ g2 i', oM S1 S3 T1 T3 x H H2 g' i g2 i' := fun g2 i' l' m' t' h2 e' ei => by
      have k := a.ci.tk _ _ (gD_mem (r.2.1.mem l'))
      refine ⟨g2, i', l', m', t', h2, by rw [e', ei], Kc _ k.1 (fun y => by have := k.1.1; have := G.1.1.1; omega), fun k h1 h2 => by rw [q2 k (by omega) (by omega) (by omega)], fun _ => by rw [q2 27 (by decide) (by decide) (by decide)], fun n _ => by rw [q2 28 (by decide) (by decide) (by decide)], fun n _ => by rw [q2 29 (by decide) (by decide) (by decide)]⟩
    by_cases y1 : g' = 0
    · have := l.2
      rw [y1, r1] at this
      omega
    · by_cases y2 : g' = p + 2
      · have l2 := l.2
        rw [y2, r2] at l2
        exact fin 0 i ⟨by omega, l2⟩ (by rw [y2]; exact r4 i l2) (by rw [y2]; exact ⟨fun _ => trivial, fun _ => r6⟩) (fun t => absurd trivial t) (by rw [y2]; exact eTp) rfl
      · have l2 := l.2
        rw [r3 g' y1 y2] at l2
        have b9 := (h.1.1 g' l.1).2.1
        exact fin g' i ⟨l.1, l2⟩ (r5 g' i y2 (by omega)) (r7 g' y2) (fun _ => id) (eTo g' y1 y2) rfl
end
