/-! ===== the deeds: laying ===== -/
section
variable {wF : Prop × (Nat → Int32) × Int32 × (Nat → Int32)} {E : Nat → Prop} {x : Nat} {S S1 S2 S3 : Cst} {T T1 T2 T3 : Nat → List Nat} {F F1 : List Nat} {col c1 : Nat → Nat} {H H2 H3 : HS} {N N2 M M2 : Int} {D : Nat → Prop}
theorem RR.up (r : RR wF N S1 T1 x H) (q : N ≤ N2) : RR wF N2 S1 T1 x H := by
  obtain ⟨a, b, c, d, e, n1, n2, n3, n4⟩ := r
  refine ⟨a, b, c, d, e, by omega, n2, n3, fun j l t y k => ?_⟩
  obtain ⟨q1, q2, q3, q4⟩ := n4 j l t y k
  exact ⟨q1, by omega, q3, q4⟩
theorem sA_id (S : HS) (k i : Nat) {v : Int32} (h : S.2 k i = v) : sA S k i v = S := by
  refine Prod.ext rfl (funext fun j => ?_)
  show (if j = k then upd (S.2 k) i v else S.2 j) = S.2 j
  by_cases z : j = k
  · rw [if_pos z, z]
    funext y
    unfold upd
    by_cases w : y = i
    · rw [if_pos w, w, h]
    · rw [if_neg w]
  · rw [if_neg z]
theorem lay_a {x1 : Int32} : ∀ (n : Nat) (S : HS) (x2 x : Int32), 0 ≤ x.toInt → x.toInt ≤ 9 → (S.1 35).toInt ≤ 9 → 10 - x.toInt < n → (lp_X11_lay_67 n S x1 x2 x).1 = x1 := by
  intro n
  induction n with
  | zero => intro S x2 x h1 h2 h3 h4; omega
  | succ n ih =>
    intro S x2 x h1 h2 h3 h4
    rw [lp_X11_lay_67]
    unfold st_X11_lay_67
    by_cases c : S.1 35 ≤ x
    · rw [if_pos c]
    · rw [if_neg c]
      have c := mt iLe.mpr c
      have e := iAdd (x := x) (y := 1) (by rw [i1]; omega) (by rw [i1]; omega)
      rw [i1] at e
      exact ih _ _ (x + 1) (by omega) (by omega) h3 (by omega)
theorem lay_W {x1 : Int32} (hx : 0 ≤ x1.toInt ∧ x1.toInt ≤ 7) (S : HS) (x2 : Int32) (hb : S.1 36 = 0 ∨ S.1 36 = 1) (h9 : 0 ≤ (S.1 35).toInt ∧ (S.1 35).toInt ≤ 9) : ∃ u, lp_X11_lay_67 100000 S x1 x2 0 = (x1, sI (sA (sA (sR S 33 u) 34 x1.toNatClampNeg (S.1 35)) 37 x1.toNatClampNeg (S.1 36)) 35 0) ∧ (∀ i : Nat, (i : Int) < (S.1 35).toInt → u (9 * x1.toNatClampNeg + i) = S.2 32 i) ∧ (∀ j : Nat, (j : Int) < 9 * x1.toInt ∨ 9 * x1.toInt + (S.1 35).toInt ≤ j → u j = S.2 33 j) := by
  obtain ⟨u, q1, q2, q3⟩ := lay_l hx 100000 S x2 0 hb h9.2 (by rw [i0]; omega) (by rw [i0]; omega) (by rw [i0]; omega)
  have e := lay_a (x1 := x1) 100000 S x2 0 (by rw [i0]; omega) (by rw [i0]; omega) h9.2 (by rw [i0]; omega)
  rw [i0] at q2 q3
  exact ⟨u, Prod.ext e q1, fun i hi => q2 i (by omega) hi, fun j hj => q3 j (by omega)⟩
/-- rows behind laying -/
theorem layRows {p : Nat} (hp : p < 8) {u : Nat → Int32} (e : H2 = sI (sA (sA (sR H 33 u) 34 p (H.1 35)) 37 p (H.1 36)) 35 0) (h9 : (H.1 35).toInt ≤ 9) (u1 : ∀ i : Nat, (i : Int) < (H.1 35).toInt → u (9 * p + i) = H.2 32 i) (u2 : ∀ j : Nat, (j : Int) < 9 * (p : Int) ∨ 9 * (p : Int) + (H.1 35).toInt ≤ j → u j = H.2 33 j) :
    hN H2 1 = 0 ∧ hN H2 (p + 2) = hN H 1 ∧ (∀ g, g ≠ 1 → g ≠ p + 2 → hN H2 g = hN H g) ∧ (∀ i : Nat, (i : Int) < hN H 1 → hM H2 (p + 2) i = hM H 1 i) ∧ (∀ g i, g ≠ p + 2 → i < 9 → hM H2 g i = hM H g i) ∧ (hT H2 (p + 2) ↔ hT H 1) ∧ ∀ g, g ≠ p + 2 → (hT H2 g ↔ hT H g) := by
  have q34 : ∀ p', H2.2 34 p' = upd (H.2 34) p (H.1 35) p' := fun p' => by rw [e]; rfl
  have q37 : ∀ p', H2.2 37 p' = upd (H.2 37) p (H.1 36) p' := fun p' => by rw [e]; rfl
  have q33 : H2.2 33 = u := by rw [e]; rfl
  have q31 : H2.2 31 = H.2 31 := by rw [e]; rfl
  have q32 : H2.2 32 = H.2 32 := by rw [e]; rfl
  have q6 : H2.1 6 = H.1 6 := by rw [e]; rfl
  have q36 : H2.1 36 = H.1 36 := by rw [e]; rfl
  have q35 : H2.1 35 = 0 := by rw [e]; rfl
  refine ⟨?_, ?_, fun g n1 n2 => ?_, fun i hi => ?_, fun g i n hi => ?_, ?_, fun g n => ?_⟩
  · show (H2.1 35).toInt = 0
    rw [q35]
    rfl
  · show (H2.2 34 p).toInt = (H.1 35).toInt
    rw [q34]
    exact congrArg _ (if_pos rfl)
  · match g, n1 with
    | 0, _ => show (H2.1 6).toInt = _; rw [q6]; rfl
    | p' + 2, _ => show (H2.2 34 p').toInt = (H.2 34 p').toInt; rw [q34]; exact congrArg _ (if_neg (by omega))
  · show (H2.2 33 (9 * p + i)).toNatClampNeg = (H.2 32 i).toNatClampNeg
    rw [q33, u1 i hi]
  · unfold hM
    match g with
    | 0 => show (H2.2 31 i).toNatClampNeg = _; rw [q31]; rfl
    | 1 => show (H2.2 32 i).toNatClampNeg = _; rw [q32]; rfl
    | p' + 2 =>
      show (H2.2 33 (9 * p' + i)).toNatClampNeg = (H.2 33 (9 * p' + i)).toNatClampNeg
      rw [q33, u2 _ (by omega)]
  · show H2.2 37 p ≠ 0 ↔ H.1 36 ≠ 0
    rw [q37]
    unfold upd
    rw [if_pos rfl]
  · match g with
    | 0 => exact Iff.rfl
    | 1 => show H2.1 36 ≠ 0 ↔ H.1 36 ≠ 0; rw [q36]
    | p' + 2 =>
      show H2.2 37 p' ≠ 0 ↔ H.2 37 p' ≠ 0
      rw [q37]
      unfold upd
      rw [if_neg (by omega)]
/-- what is drafted goes to a place -/
theorem lay_B (hS : Sst noE x S T [] col S1 T1 [] c1) (r : RR wF N S1 T1 x H) (hc : HC M H) {p : Nat} (hp : p < 8) (z0 : H.2 34 p = 0) (z1 : H.1 35 ≠ 0) {u : Nat → Int32} (e : H2 = sI (sA (sA (sR H 33 u) 34 p (H.1 35)) 37 p (H.1 36)) 35 0) (u1 : ∀ i : Nat, (i : Int) < (H.1 35).toInt → u (9 * p + i) = H.2 32 i) (u2 : ∀ j : Nat, (j : Int) < 9 * (p : Int) ∨ 9 * (p : Int) + (H.1 35).toInt ≤ j → u j = H.2 33 j) (hc2 : HC M2 H2) : ∃ S3 T3, f_Y6_takeFrom S1 (x + 13 + 3 * p) (x + 3) = (0, S3) ∧ Sst noE x S T [] col S3 T3 [] c1 ∧ RR wF N S3 T3 x H2 := by
  have o3 : pl x (x + 3) := Or.inl rfl
  have o : pl x (x + 13 + 3 * p) := Or.inr ⟨p, hp, rfl⟩
  have ci := hS.ci
  have kx := hS.k1
  have l0 := r.2.1 (p + 2) (by omega)
  have eT0 : T1 (x + 13 + 3 * p + 1) = [] := by
    have e0 : hN H (p + 2) = (H.2 34 p).toInt := rfl
    rw [e0, z0, i0] at l0
    exact List.length_eq_zero_iff.mp (by have := l0.1; rw [rP_p] at this; omega)
  obtain ⟨-, S3, T3, f1, f2, f3, f4, f5, f6, f7, f8⟩ := y_takeFrom noE_n hS o o3 (by omega) eT0
  have n23 := n1_take noE_n hS o o3 (by omega) eT0 f1
  have n35 := hc.1 1 (by omega)
  have e35 : hN H 1 = (H.1 35).toInt := rfl
  obtain ⟨r1, r2, r3, r4, r5, r6, r7⟩ := layRows hp e (by omega) u1 u2
  have q1 : ∀ j, j ≠ 35 → H2.1 j = H.1 j := fun j y => by rw [e]; exact if_neg y
  have q2 : ∀ k, k ≠ 33 → k ≠ 34 → k ≠ 37 → H2.2 k = H.2 k := fun k y y2 y3 => by
    rw [e]
    show (if k = 37 then _ else if k = 34 then _ else if k = 33 then _ else H.2 k) = H.2 k
    rw [if_neg y3, if_neg y2, if_neg y]
  have q34 : ∀ p', H2.2 34 p' = upd (H.2 34) p (H.1 35) p' := fun p' => by rw [e]; rfl
  have q37 : ∀ p', H2.2 37 p' = upd (H.2 37) p (H.1 36) p' := fun p' => by rw [e]; rfl
  have q35 : H2.1 35 = 0 := by rw [e]; rfl
  have G : gX (D5 x S3.1) S1 S3 := f3.mo (fun z y => Or.inr (y.elim (fun y => by rw [y]; exact o) (fun y => by rw [y]; exact o3)))
  obtain ⟨⟨K1, K2, K3, K4⟩, K8, Kc⟩ := frD (H2 := H2) r ci kx G f2.ci.wf (Or.inr (Nat.le_refl _)) (fun z k => Or.inr (ik_b k f3.1 n23)) (fun k => absurd k.1 (Nat.lt_irrefl _)) (fun k h1 h2 => q1 k (by omega)) (q1 39 (by decide)) ⟨q2 11 (by decide) (by decide) (by decide), q2 12 (by decide) (by decide) (by decide), q2 38 (by decide) (by decide) (by decide), q2 40 (by decide) (by decide) (by decide), q2 41 (by decide) (by decide) (by decide)⟩
  have z1' := mt iEq.mpr z1
  rw [i0] at z1'
  have L1 : hL H 1 0 := ⟨by omega, by omega⟩
  have eTp : T3 (rP x (p + 2)) = T1 (rP x 1) := f6
  have eT1 : T3 (rP x 1) = [] := f7
  have eTo : ∀ g, g ≠ 1 → g ≠ p + 2 → T3 (rP x g) = T1 (rP x g) := fun g n1 n2 => f8 _ (fun y => n2 (rP_inj (x := x) (g := g) (g' := p + 2) y)) (fun y => n1 (rP_inj (x := x) (g := g) (g' := 1) y))
  refine ⟨S3, T3, f1, f2, r.ex (gs := 10) (is := 0) hc hc2 K1 K2 K3 K4 (q1 0 (by decide)) (fun g hg => ?_) ⟨fun y => f5, fun y => absurd q35 y⟩ (fun p' hp' => ?_) ⟨?_, ?_⟩ (fun s h1 h2 => ?_) (fun g i l n => ?_) (fun l => absurd l.1 (by omega)) (fun l => absurd l.1 (by omega)) (fun l => absurd l.1 (by omega)) (fun l => absurd l.1 (by omega)) (fun l => absurd l.1 (by omega))⟩
  · by_cases y1 : g = 1
    · rw [y1, eT1, r1]
      rfl
    · by_cases y2 : g = p + 2
      · rw [y2, eTp, r2]
        exact (r.2.1 1 (by omega)).1
      · rw [eTo g y1 y2, r3 g y1 y2]
        exact (r.2.1 g hg).1
  · by_cases y : p' = p
    · subst y
      have e34 : H2.2 34 p' = H.1 35 := (q34 p').trans (if_pos rfl)
      have e37 : H2.2 37 p' = H.1 36 := (q37 p').trans (if_pos rfl)
      rw [e34, e37, f4]
      refine ⟨fun w => absurd w z1, fun _ => ?_⟩
      rw [r.2.2.1.1.2 z1]
      by_cases w : H.1 36 = 0
      · rw [if_pos w, if_pos w, r4 0 (by omega), q2 27 (by decide) (by decide) (by decide), if_pos]
        refine Classical.byContradiction (fun v => ?_)
        have := (r.2.2.1.2.2.2.2 1 (by omega) L1 (fun t => t w) v).1
        omega
      · rw [if_neg w, if_neg w]
    · have e34 : H2.2 34 p' = H.2 34 p' := (q34 p').trans (if_neg y)
      have e37 : H2.2 37 p' = H.2 37 p' := (q37 p').trans (if_neg y)
      have o' : pl x (x + 13 + 3 * p') := Or.inr ⟨p', hp', rfl⟩
      rw [e34, e37, srt f3 ci kx o' (by omega), r5 (p' + 2) 0 (by omega) (by omega), q2 27 (by decide) (by decide) (by decide)]
      exact r.2.2.1.2.1 p' hp'
  · rw [K8]
    exact Int.le_refl _
  · rw [K8]
    exact r.2.2.2.2.2.1.2
  · rw [q1 30 (by decide)]
    omega
  · have fin : ∀ g' i', hL H g' i' → hM H2 g i = hM H g' i' → (hT H2 g ↔ hT H g') → (2 ≤ g' → 2 ≤ g) → T3 (rP x g) = T1 (rP x g') → i = i' → ∃ g' i', oM S1 S3 T1 T3 x H H2 g i g' i' := fun g' i' l' m' t' g2 e' ei => by
      have k := ci.tk _ _ (gD_mem (r.2.1.mem l'))
      refine ⟨g', i', l', m', t', fun _ => g2, by rw [e', ei], Kc _ k.1 (fun y => by have := k.1.1; have := G.1.1.1; omega), fun k h1 h2 => by rw [q2 k (by omega) (by omega) (by omega)], fun _ => by rw [q2 27 (by decide) (by decide) (by decide)], fun n _ => by rw [q2 28 (by decide) (by decide) (by decide)], fun n _ => by rw [q2 29 (by decide) (by decide) (by decide)]⟩
    by_cases y1 : g = 1
    · have := l.2
      rw [y1, r1] at this
      omega
    · by_cases y2 : g = p + 2
      · have l2 := l.2
        rw [y2, r2] at l2
        have l' : hL H 1 i := ⟨by omega, l2⟩
        exact fin 1 i l' (by rw [y2]; exact r4 i l2) (by rw [y2]; exact r6) (fun _ => by omega) (by rw [y2]; exact eTp) rfl
      · have l2 := l.2
        rw [r3 g y1 y2] at l2
        have b9 := (hc.1 g l.1).2.1
        exact fin g i ⟨l.1, l2⟩ (r5 g i y2 (by omega)) (r7 g y2) id (eTo g y1 y2) rfl
end
