/-! ===== deeds that move motions ===== -/
section
variable {E E0 : Nat → Prop} {x : Nat} {S S1 S2 S3 : Cst} {T T1 T2 : Nat → List Nat} {F F1 : List Nat} {col c1 : Nat → Nat}
/-- an assembly between acts -/
def AS (x : Nat) (S : Cst) (T : Nat → List Nat) (col : Nat → Nat) (S1 : Cst) (T1 : Nat → List Nat) (c1 : Nat → Nat) : Prop := Sst noE x S T [] col S1 T1 [] c1 ∧ PI S1 T1 x
/-- a method's step -/
def am (x : Nat) (S : Cst) (T : Nat → List Nat) (col : Nat → Nat) (S1 : Cst) (p : Nat → Nat → Prop) (f : Int32 × Cst) : Prop := ∃ v S2 T2 c2, f = (v, S2) ∧ (∀ lc ls, S2.1 ≤ lc → S2.2.1 ≤ ls → p lc ls) ∧ AS x S T col S2 T2 c2 ∧ eN S1 S2
theorem AS.q (a : AS x S T col S1 T1 c1) {p : Prop} {f : Int32 × Cst} (m : qm noE x S T [] col T1 [] c1 S1 p f) : am x S T col S1 (fun _ _ => p) f := by
  obtain ⟨hp, v, S2, e, u⟩ := m
  exact ⟨v, S2, T1, c1, e, fun _ _ _ _ => hp, ⟨u.1, a.2.kp a.1.ci a.1.k1 u.2.1 (fun _ _ _ => rfl)⟩, u.2.2.n⟩
theorem sT_b (h : CI noE S1 T1 F1 c1) (k : iK S1 x 0) : ∀ n, n ≤ 8 → sT T1 x n ≤ 9 * n := by
  intro n
  induction n with
  | zero => intro _; exact Nat.le_refl _
  | succ n ih =>
    intro hn
    have i := ih (by omega)
    have kp := (h.wf.w5 (dk_ix h.wf k (show n < 8 by omega)).2).1
    rw [show x + 13 + 3 * n + 1 = x + 14 + 3 * n by omega] at kp
    have w := (h.tp _ (noE_n _) kp).2.1
    rw [sT]
    omega
theorem mT_b (h : CI noE S1 T1 F1 c1) (k : iK S1 x 0) : mT T1 x ≤ (T1 x).length + (T1 (x + 1)).length + (T1 (x + 4)).length + 72 := by
  have := sT_b h k 8 (by omega)
  unfold mT
  omega
theorem l1_b (h : CI noE S1 T1 F1 c1) (k : iK S1 x 0) : (T1 (x + 1)).length ≤ 9 := (h.tp _ (noE_n _) (h.wf.w0 k).1.2.1).2.1
theorem l4_b (h : CI noE S1 T1 F1 c1) (k : iK S1 x 0) : (T1 (x + 4)).length ≤ 9 := (h.tp _ (noE_n _) (h.wf.w5 (h.wf.w0 k).1.2.2.1).1).2.1
theorem tp_c (h : Sst noE x S T F col S1 T1 F1 c1) : mC S1 c1 x (f_Y5_top S1 (x + 1)) := by
  have kp := (h.ci.wf.w0 h.k1).1.2.1
  cases e : f_Y5_top S1 (x + 1) with
  | none => exact Or.inl rfl
  | some q =>
    obtain ⟨l, hl⟩ := (tp_i h.ci (noE_n _) kp).2 q e
    have m := h.ci.tk (x + 1) q (by rw [hl]; simp)
    exact Or.inr ⟨q, rfl, m.1, by rw [m.2]; exact h.cx 1 (by omega)⟩
theorem mo_i (h : CI noE S1 T1 F1 c1) (k : iK S1 x 0) {d q : Nat} (o : pl x d) (e : f_Y6_motion S1 d = some q) : giC S1 d 0 = 2 ∧ ∃ l, T1 (d + 1) = q :: l := by
  by_cases z : giC S1 d 0 = 2
  · refine ⟨z, ?_⟩
    obtain ⟨a, b⟩ := mot_s h k o (noE_n _) z
    cases t : T1 (d + 1) with
    | nil =>
      rw [a t] at e
      cases e
    | cons r l =>
      rw [b r l t] at e
      cases e
      exact ⟨l, rfl⟩
  · rw [mot_n h k o z] at e
    cases e
theorem mo_c (h : Sst noE x S T F col S1 T1 F1 c1) {d : Nat} (o : pl x d) : mC S1 c1 x (f_Y6_motion S1 d) := by
  cases e : f_Y6_motion S1 d with
  | none => exact Or.inl rfl
  | some q =>
    obtain ⟨_, l, hl⟩ := mo_i h.ci h.k1 o e
    have m := h.ci.tk (d + 1) q (by rw [hl]; exact List.mem_cons_self ..)
    exact Or.inr ⟨q, rfl, m.1, by rw [m.2]; exact h.oc o.o.1⟩
theorem dM_n (wf : wfS S) {q z : Nat} (k : iK S q 3) (n : z ≠ q) (kz : kdC S z = 3 ∨ kdC S z = 5) : ¬ dM q z := by
  rintro ⟨a, b⟩
  have w := wf.w3 k
  have e1 : kdC S (q + 1) = 6 := w.1.1.2
  have e2 : kdC S (q + 2) = 20 := (wf.w6 w.1.1).1.1.2
  have e3 : kdC S (q + 3) = 22 := w.1.2.1.2
  have : z = q + 1 ∨ z = q + 2 ∨ z = q + 3 := by omega
  rcases this with rfl | rfl | rfl <;> omega
theorem fcU_at {p : Nat} : ∀ n, p < n → (∀ r, r < n → r ≠ p → giC S2 (x + 13 + 3 * r) 0 = giC S1 (x + 13 + 3 * r) 0) → fcU S2 x n + (if giC S1 (x + 13 + 3 * p) 0 = 0 then 1 else 0) = fcU S1 x n + (if giC S2 (x + 13 + 3 * p) 0 = 0 then 1 else 0) := by
  intro n
  induction n with
  | zero => intro h; omega
  | succ n ih =>
    intro h g
    rw [fcU, fcU]
    by_cases e : p = n
    · rw [e, fcU_cg n (fun r hr => g r (by omega) (by omega))]
      omega
    · have := ih (by omega) (fun r hr => g r (by omega))
      rw [g n (by omega) (by omega)]
      omega
theorem pa_v (h : wfS S1) (k : iK S1 x 0) {i : Int32} {p : Nat} (hp : p < 8) (hi : i.toInt = p) : f_Y0_placeAt S1 x i = some (x + 13 + 3 * p) := by
  have hn := iNat (x := i) (by omega)
  unfold f_Y0_placeAt b_Y0_placeAt_10 b_Y0_placeAt_20
  rw [if_neg (fun z => by have := iLt.mp z; rw [i0] at this; omega), if_pos (iLt.mpr (by rw [e8]; omega)), show i.toNatClampNeg = p by omega]
  exact (dk_ix h k hp).1
/-- the draft alone is another one, or what is pending -/
theorem PI.dr (h : PI S1 T1 x) (hp : ∀ p, p < 8 → giC S2 (x + 13 + 3 * p) 0 = giC S1 (x + 13 + 3 * p) 0 ∧ T2 (x + 13 + 3 * p + 1) = T1 (x + 13 + 3 * p + 1)) (hd : (giC S2 (x + 3) 0 = 0 → T2 (x + 4) = []) ∧ (giC S2 (x + 3) 0 ≠ 3 → (T2 (x + 4)).length ≤ 1) ∧ sK (giC S2 (x + 3) 0) ∧ giC S2 (x + 3) 0 ≠ 1) (hn : nd S2 (T2 (x + 1)) → 1 ≤ fcU S1 x 8) (h3 : giC S2 (x + 3) 0 = 3 → 1 ≤ fcU S1 x 8) (h4 : nd S2 (T2 (x + 1)) → giC S2 (x + 3) 0 = 3 → 2 ≤ fcU S1 x 8) : PI S2 T2 x := by
  have hf : fcU S2 x 8 = fcU S1 x 8 := fcU_cg 8 (fun p hp' => (hp p hp').1)
  refine ⟨fun d o => ?_, ?_, ?_, ?_⟩
  · rcases o with rfl | ⟨p, hp', rfl⟩
    · exact ⟨hd.1, hd.2.1, hd.2.2.1, fun _ => hd.2.2.2⟩
    · rw [(hp p hp').1, (hp p hp').2]
      exact h.1 _ (Or.inr ⟨p, hp', rfl⟩)
  · rw [hf]
    exact hn
  · rw [hf]
    exact h3
  · rw [hf]
    exact h4
/-- one place is another one, and the draft -/
theorem PI.pc (h : PI S1 T1 x) {p0 : Nat} (hp : ∀ p, p < 8 → p ≠ p0 → giC S2 (x + 13 + 3 * p) 0 = giC S1 (x + 13 + 3 * p) 0 ∧ T2 (x + 13 + 3 * p + 1) = T1 (x + 13 + 3 * p + 1)) (h0 : (giC S2 (x + 13 + 3 * p0) 0 = 0 → T2 (x + 13 + 3 * p0 + 1) = []) ∧ (giC S2 (x + 13 + 3 * p0) 0 ≠ 3 → (T2 (x + 13 + 3 * p0 + 1)).length ≤ 1) ∧ sK (giC S2 (x + 13 + 3 * p0) 0)) (hd : (giC S2 (x + 3) 0 = 0 → T2 (x + 4) = []) ∧ (giC S2 (x + 3) 0 ≠ 3 → (T2 (x + 4)).length ≤ 1) ∧ sK (giC S2 (x + 3) 0) ∧ giC S2 (x + 3) 0 ≠ 1) (hn : nd S2 (T2 (x + 1)) → 1 ≤ fcU S2 x 8) (h3 : giC S2 (x + 3) 0 = 3 → 1 ≤ fcU S2 x 8) (h4 : nd S2 (T2 (x + 1)) → giC S2 (x + 3) 0 = 3 → 2 ≤ fcU S2 x 8) : PI S2 T2 x := by
  refine ⟨fun d o => ?_, hn, h3, h4⟩
  rcases o with rfl | ⟨p, hp', rfl⟩
  · exact ⟨hd.1, hd.2.1, hd.2.2.1, fun _ => hd.2.2.2⟩
  · by_cases e : p = p0
    · rw [e]
      exact ⟨h0.1, h0.2.1, h0.2.2, fun z => by omega⟩
    · rw [(hp p hp' e).1, (hp p hp' e).2]
      exact h.1 _ (Or.inr ⟨p, hp', rfl⟩)
theorem nd_nil : ¬ nd S [] := fun ⟨q, m, _⟩ => by cases m
theorem nd_sub {L L' : List Nat} (hk : ∀ q, q ∈ L' → q ∈ L ∧ giC S2 q 2 = giC S1 q 2) (h : nd S2 L') : nd S1 L := by
  obtain ⟨q, m, n⟩ := h
  rw [(hk q m).2] at n
  exact ⟨q, (hk q m).1, n⟩
theorem s0 : sK 0 := Or.inl rfl
theorem s2 : sK 2 := Or.inr (Or.inr (Or.inl rfl))
theorem AS.c0 (a : AS x S T col S1 T1 c1) {d : Nat} (o : pl x d) (z : giC S1 d 0 = 0) : T1 (d + 1) = [] := (a.2.1 d o).1 z
/-- act 10 -/
theorem y_draft (a : AS x S T col S1 T1 c1) (v : Int32) : am x S T col S1 (fun lc ls => p_Y1_begin S1 x lc ls v) (f_Y1_begin S1 x v) := by
  have h := a.1
  have w0 := h.ci.wf.w0 h.k1
  have o3 : pl x (x + 3) := Or.inl rfl
  obtain ⟨p1, S2, T2, f1, f2, f3, f4, f5, f6⟩ := y_discard h o3 (noE_n _)
  have b1 := mT_b f2.ci f2.k1
  have b2 := l1_b f2.ci f2.k1
  have b3 : (T2 (x + 4)).length = 0 := by rw [f5]; rfl
  obtain ⟨S3, T3, q, c3, g1, g2, g3, g4, g5, g6⟩ := y_newMotion f2 (fun z => by rw [z] at b1; simp only [List.length_nil] at b1 ⊢; omega) v
  have hT3 : T3 (x + 3 + 1) = [] := by rw [g6 _ (by omega)]; exact f5
  obtain ⟨r1, S4, r2, r3, r4, r5⟩ := y_hold g3 2 o3 (noE_n _) (by rw [hT3]; decide)
  have w2 := f2.ci.wf.w0 f2.k1
  have kq := (g3.ci.tf.2 q (List.mem_cons_self ..))
  unfold p_Y1_begin f_Y1_begin q_Y1_begin_8a b_Y1_begin_8a q_Y1_begin_18a b_Y1_begin_18a q_Y1_begin_21a b_Y1_begin_21a
  rw [w0.2.1.2.2.1, Option.getD_some, f1, g1, w2.2.1.2.2.1]
  simp only [Option.getD_some, r2]
  refine ⟨_, S4, _, _, rfl, fun lc ls A B => ⟨ir_so.mpr w0.1.2.2.1, p1, ⟨⟨g4.1.1.1, Nat.le_trans r4.1.1.1 A⟩, g4.1.1.2, Nat.le_trans r4.1.1.2 B⟩, g2 _ _ (Nat.le_refl _) (Nat.le_refl _), fun z e => ?_, ir_so.mpr (w2.1.2.2.1.n g4.1), r1, trivial⟩, ⟨r3, ?_⟩, (f3.1.tr g4.1).tr r4.1⟩
  · cases e
    exact w2.1.2.2.1.1
  · refine a.2.dr (fun p hp => ⟨?_, ?_⟩) ⟨fun z => ?_, fun _ => ?_, ?_, ?_⟩ (fun n => ?_) (fun n => ?_) (fun _ n => ?_)
    · have o : pl x (x + 13 + 3 * p) := Or.inr ⟨p, hp, rfl⟩
      have k1 := o.lt h.ci h.k1
      have k2 := o.lt f2.ci f2.k1
      have k3 := o.lt g3.ci g3.k1
      rw [r4.2.1 _ k3.1 (by rw [k3.2]; decide) (by omega), g4.2.1 _ k2.1 (by rw [k2.2]; decide) (dM_n g3.ci.wf kq.1 (fun z => by have := kq.1.2; rw [← z, k3.2] at this; omega) (Or.inr k3.2)), f3.2.1 _ k1.1 (by rw [k1.2]; decide) (by omega)]
    · rw [tU_ne _ _ (by omega), g6 _ (by omega), f6 _ (by omega) (by omega)]
    · rw [r5] at z
      exact absurd z (by decide)
    · rw [show x + 4 = x + 3 + 1 by omega, tU_at, hT3]
      exact Nat.le_refl _
    · rw [r5]
      exact s2
    · rw [r5]
      decide
    · refine a.2.2.1 (nd_sub (fun z m => ?_) n)
      rw [tU_ne _ _ (by omega), g6 _ (by omega)] at m
      have m3 : z ∈ T3 (x + 1) := by rw [g6 _ (by omega)]; exact m
      have k3 := (g3.ci.tk _ _ m3).1
      have k2 := (f2.ci.tk _ _ m).1
      have nq : z ≠ q := fun e => kq.2 (x + 1) (by rw [← e]; exact m3)
      have m1 : z ∈ T1 (x + 1) := by rw [← f6 (x + 1) (by omega) (by omega)]; exact m
      have k1 := (h.ci.tk _ _ m1).1
      refine ⟨m1, ?_⟩
      rw [r4.2.1 _ k3.1 (by rw [k3.2]; decide) (fun e => by have := (o3.lt g3.ci g3.k1).2; rw [← e, k3.2] at this; omega), g4.2.1 _ k2.1 (by rw [k2.2]; decide) (dM_n g3.ci.wf kq.1 nq (Or.inl k3.2)), f3.2.1 _ k1.1 (by rw [k1.2]; decide) (fun e => by have := (o3.lt h.ci h.k1).2; rw [← e, k1.2] at this; omega)]
    · rw [r5] at n
      exact absurd n (by decide)
    · rw [r5] at n
      exact absurd n (by decide)
/-- act 22 -/
theorem y_endSitting (a : AS x S T col S1 T1 c1) : am x S T col S1 (fun _ _ => p_Y1_endSitting S1 x) (f_Y1_endSitting S1 x) := by
  have h := a.1
  have w0 := h.ci.wf.w0 h.k1
  have o3 : pl x (x + 3) := Or.inl rfl
  obtain ⟨p1, S2, T2, f1, f2, f3, f4, f5⟩ := y_release h (noE_n _) (show own x (x + 1) from Or.inr (Or.inl rfl)) (by omega)
  have w2 := f2.ci.wf.w0 f2.k1
  obtain ⟨q1, S3, T3, g1, g2, g3, g4, g5, g6⟩ := y_discard f2 o3 (noE_n _)
  have w3 := g2.ci.wf.w0 g2.k1
  have u := (QU.rf g2).hI 6 (-1) (by omega)
  unfold p_Y1_endSitting f_Y1_endSitting q_Y1_endSitting_16a b_Y1_endSitting_16a q_Y1_endSitting_24a b_Y1_endSitting_24a
  rw [w0.2.1.2.1, Option.getD_some, f1]
  simp only
  rw [w2.2.1.2.2.1, Option.getD_some, g1]
  simp only
  rw [w3.2.1.1, Option.getD_some]
  refine ⟨_, _, T3, c1, rfl, fun _ _ _ _ => ⟨ir_so.mpr w0.1.2.1, ir_so.mpr w0.1.2.1, p1, ir_so.mpr w2.1.2.2.1, q1, ir_so.mpr w3.1.1, trivial⟩, ⟨u.1, ?_⟩, (f3.1.tr g3.1).tr u.2.2.n⟩
  have ed : giC (siC S3 (x + 37) 6 (-1)) (x + 3) 0 = 0 := by rw [gi_si, if_neg (by omega)]; exact g4
  have e1 : T3 (x + 1) = [] := by rw [g6 _ (by omega) (by omega)]; exact f4
  refine a.2.dr (fun p hp => ⟨?_, ?_⟩) ⟨fun _ => g5, fun _ => ?_, ?_, ?_⟩ (fun n => ?_) (fun n => ?_) (fun n _ => ?_)
  · have o : pl x (x + 13 + 3 * p) := Or.inr ⟨p, hp, rfl⟩
    have k1 := o.lt h.ci h.k1
    have k2 := o.lt f2.ci f2.k1
    rw [gi_si, if_neg (by omega), g3.2.1 _ k2.1 (by rw [k2.2]; decide) (by omega), f3.2.1 _ k1.1 (by rw [k1.2]; decide)]
  · rw [g6 _ (by omega) (by omega), f5 _ (by omega) (by omega)]
  · rw [show x + 4 = x + 3 + 1 by omega, g5]
    exact Nat.zero_le _
  · rw [ed]
    exact s0
  · rw [ed]
    decide
  · rw [e1] at n
    exact absurd n nd_nil
  · rw [ed] at n
    exact absurd n (by decide)
  · rw [e1] at n
    exact absurd n nd_nil
/-- the top goes to the spare ones -/
theorem y_dropA (a : AS x S T col S1 T1 c1) : p_Y0_dropTop S1 x (x + 1) ∧ ∃ S2 T2, f_Y0_dropTop S1 x (x + 1) = (0, S2) ∧ AS x S T col S2 T2 c1 ∧ gF S1 S2 ∧ T2 (x + 1) = (T1 (x + 1)).dropLast ∧ ∀ c, c ≠ x + 1 → c ≠ x → T2 c = T1 c := by
  have h := a.1
  have o3 : pl x (x + 3) := Or.inl rfl
  obtain ⟨p1, S2, T2, f1, f2, f3, f4, f5⟩ := y_dropTop h (noE_n _) (show own x (x + 1) from Or.inr (Or.inl rfl)) (by omega)
  have hk : ∀ q, q ∈ T2 (x + 1) → q ∈ T1 (x + 1) ∧ giC S2 q 2 = giC S1 q 2 := fun q m => by
    rw [f4] at m
    have m1 := List.dropLast_subset _ m
    have k1 := (h.ci.tk _ _ m1).1
    exact ⟨m1, f3.2.1 _ k1.1 (by rw [k1.2]; decide) 2⟩
  have k3 := o3.lt h.ci h.k1
  have ed : giC S2 (x + 3) 0 = giC S1 (x + 3) 0 := f3.2.1 _ k3.1 (by rw [k3.2]; decide) 0
  have et : T2 (x + 4) = T1 (x + 4) := f5 _ (by omega) (by omega)
  have A := a.2.1 _ o3
  refine ⟨p1, S2, T2, f1, ⟨f2, a.2.dr (fun p hp => ⟨?_, ?_⟩) ⟨?_, ?_, ?_, ?_⟩ (fun n => a.2.2.1 (nd_sub hk n)) (fun n => a.2.2.2.1 ?_) (fun n m => a.2.2.2.2 (nd_sub hk n) ?_)⟩, f3, f4, f5⟩
  · have o : pl x (x + 13 + 3 * p) := Or.inr ⟨p, hp, rfl⟩
    have k1 := o.lt h.ci h.k1
    rw [f3.2.1 _ k1.1 (by rw [k1.2]; decide)]
  · exact f5 _ (by omega) (by omega)
  · rw [ed, et]
    exact A.1
  · rw [ed, et]
    exact A.2.1
  · rw [ed]
    exact A.2.2.1
  · rw [ed]
    exact A.2.2.2 rfl
  · rw [← ed]
    exact n
  · rw [← ed]
    exact m
/-- act 19 -/
theorem y_ruling (a : AS x S T col S1 T1 c1) (hl : (T1 (x + 1)).length < 9) : am x S T col S1 (fun lc ls => p_Y1_putRuling S1 x lc ls) (f_Y1_putRuling S1 x) := by
  have h := a.1
  have o3 : pl x (x + 3) := Or.inl rfl
  have b1 := mT_b h.ci h.k1
  have b3 := l4_b h.ci h.k1
  obtain ⟨S3, T3, q, c3, g1, g2, g3, g4, g5, g6⟩ := y_newMotion h (fun z => by rw [z] at b1; simp only [List.length_nil] at b1 ⊢; omega) 9
  have w3 := g3.ci.wf.w0 g3.k1
  have kq := (g3.ci.tf.2 q (List.mem_cons_self ..))
  have u := (QU.rf g3).mI kq.1 (g3.fc q (List.mem_cons_self ..)) 3 (giC S3 (x + 37) 3) (by omega) (by omega)
  have w4 := u.w0
  have hT3 : T3 (x + 1) = T1 (x + 1) := g6 _ (by omega)
  obtain ⟨r1, S5, r2, r3, r4, _⟩ := y_put u.1 (P := x + 1) (noE_n _) (Or.inr (Or.inl rfl)) (by omega) (by rw [hT3]; exact hl)
  unfold p_Y1_putRuling f_Y1_putRuling q_Y1_putRuling_6a b_Y1_putRuling_6a q_Y1_putRuling_26a b_Y1_putRuling_26a
  rw [g1]
  simp only [Option.getD_some]
  rw [w3.2.1.1, Option.getD_some, w4.2.1.2.1, Option.getD_some, r2]
  refine ⟨_, S5, _, _, rfl, fun lc ls A B => ⟨⟨⟨g4.1.1.1, Nat.le_trans (u.2.2.n.tr r4.1).1.1 A⟩, g4.1.1.2, Nat.le_trans (u.2.2.n.tr r4.1).1.2 B⟩, g2 _ _ (Nat.le_refl _) (Nat.le_refl _), ir_so.mpr w3.1.1, ir_so.mpr kq.1, ir_so.mpr w4.1.2.1, r1, trivial⟩, ⟨r3, ?_⟩, (g4.1.tr u.2.2.n).tr r4.1⟩
  have hs : ∀ z, kdC S3 z = 5 → ∀ k1 : iK S1 z 5, giC S5 z 0 = giC S1 z 0 := fun z e k1 => by
    have k3 : iK S3 z 5 := k1.n g4.1
    have k4 := k3.e u.2.2
    rw [r4.2.1 _ k4.1 (by rw [k4.2]; decide), u.2.1.2.1 z k3.1 k3.2, g4.2.1 _ k1.1 (by rw [k1.2]; decide) (dM_n g3.ci.wf kq.1 (fun y => by have := kq.1.2; rw [← y, e] at this; omega) (Or.inr e))]
  have hd : giC S5 (x + 3) 0 = giC S1 (x + 3) 0 := hs _ (o3.lt g3.ci g3.k1).2 (o3.lt h.ci h.k1)
  have ht : tU T3 (x + 1) (T3 (x + 1) ++ [q]) (x + 4) = T1 (x + 4) := by rw [tU_ne _ _ (by omega), g6 _ (by omega)]
  have A := a.2.1 _ o3
  have hn : nd S5 (tU T3 (x + 1) (T3 (x + 1) ++ [q]) (x + 1)) → nd S1 (T1 (x + 1)) := fun ⟨z, m, n⟩ => by
    rw [tU_at] at m
    rcases List.mem_append.mp m with m | m
    · have k3 := (g3.ci.tk _ _ m).1
      have k4 := k3.e u.2.2
      have nq : z ≠ q := fun e => kq.2 (x + 1) (by rw [← e]; exact m)
      rw [hT3] at m
      have k1 := (h.ci.tk _ _ m).1
      rw [r4.2.1 _ k4.1 (by rw [k4.2]; decide), u.2.1.2.2 z k3.1 k3.2, g4.2.1 _ k1.1 (by rw [k1.2]; decide) (dM_n g3.ci.wf kq.1 nq (Or.inl k3.2))] at n
      exact ⟨z, m, n⟩
    · rw [List.mem_singleton.mp m] at n
      have k4 := kq.1.e u.2.2
      rw [r4.2.1 _ k4.1 (by rw [k4.2]; decide), u.2.1.2.2 q kq.1.1 kq.1.2, g5] at n
      unfold nK at n
      exact absurd n (by decide)
  refine a.2.dr (fun p hp => ⟨?_, ?_⟩) ⟨?_, ?_, ?_, ?_⟩ (fun n => a.2.2.1 (hn n)) (fun n => a.2.2.2.1 ?_) (fun n m => a.2.2.2.2 (hn n) ?_)
  · have o : pl x (x + 13 + 3 * p) := Or.inr ⟨p, hp, rfl⟩
    exact hs _ (o.lt g3.ci g3.k1).2 (o.lt h.ci h.k1)
  · rw [tU_ne _ _ (by omega), g6 _ (by omega)]
  · rw [hd, ht]
    exact A.1
  · rw [hd, ht]
    exact A.2.1
  · rw [hd]
    exact A.2.2.1
  · rw [hd]
    exact A.2.2.2 rfl
  · rw [← hd]
    exact n
  · rw [← hd]
    exact m
end
