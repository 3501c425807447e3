/-! ===== places: discard, clear, pullLowest, pourInto, takeFrom, hold ===== -/
def pl (x d : Nat) : Prop := d = x + 3 ∨ ∃ p, p < 8 ∧ d = x + 13 + 3 * p
theorem pl.o {x d : Nat} (h : pl x d) : own x (d + 1) ∧ d + 1 ≠ x ∧ ∃ j, j < 40 ∧ d = x + j := by
  rcases h with h | ⟨p, hp, h⟩
  · exact ⟨Or.inr (Or.inr (Or.inl (by omega))), by omega, 3, by omega, h⟩
  · exact ⟨Or.inr (Or.inr (Or.inr ⟨p, hp, by omega⟩)), by omega, 13 + 3 * p, by omega, by omega⟩
/-- all numbers but the sizes of piles and those at D stand -/
def gX (D : Nat → Prop) (S S' : Cst) : Prop := eN S S' ∧ (∀ q, q < S.1 → kdC S q ≠ 4 → ¬ D q → ∀ k, giC S' q k = giC S q k) ∧ gL S S'
theorem gF.x {D : Nat → Prop} {S S' : Cst} (h : gF S S') : gX D S S' := ⟨h.1, fun q a b _ k => h.2.1 q a b k, h.2.2.1⟩
theorem gX.tr {D : Nat → Prop} {S S1 S2 : Cst} (h : gX D S S1) (g : gX D S1 S2) : gX D S S2 := ⟨h.1.tr g.1, fun q a b c k => (g.2.1 q (Nat.lt_of_lt_of_le a h.1.1.1) (by rw [(h.1.2 q a).1]; exact b) c k).trans (h.2.1 q a b c k), gL.tr h.1 h.2.2 g.2.2⟩
theorem gX.mo {D D' : Nat → Prop} {S S1 : Cst} (h : gX D S S1) (m : ∀ q, D q → D' q) : gX D' S S1 := ⟨h.1, fun q a b c k => h.2.1 q a b (fun z => c (m q z)) k, h.2.2⟩
theorem gX.si (S : Cst) (d b : Nat) (v : Int32) : gX (fun q => q = d) S (siC S d b v) := ⟨(eK.si S d b v).n, fun q _ _ n k => by rw [gi_si, if_neg (fun z => n z.1)], gL.si S d b v⟩
section
variable {E E0 : Nat → Prop} {x : Nat} {S S1 : Cst} {T T1 : Nat → List Nat} {F F1 : List Nat} {col c1 : Nat → Nat}
theorem pl.k (h : Sst E x S T F col S1 T1 F1 c1) {d : Nat} (o : pl x d) : iK S1 d 5 ∧ c1 d = x := by
  refine ⟨?_, ?_⟩
  · rcases o with o | ⟨p, hp, o⟩
    · rw [o]
      exact (h.ci.wf.w0 h.k1).1.2.2.1
    · rw [o]
      exact (dk_ix h.ci.wf h.k1 hp).2
  · obtain ⟨j, hj, e⟩ := o.o.2.2
    rw [e]
    exact h.cx j hj
theorem Sst.sort (h : Sst E x S T F col S1 T1 F1 c1) {d : Nat} (o : pl x d) (v : Int32) : Sst E x S T F col (siC S1 d 0 v) T1 F1 c1 := by
  have k := o.k h
  exact h.si k.2 (by rw [k.1.2]; decide) ⟨fun z => by rw [k.1.2] at z; omega, fun z => by rw [k.1.2] at z; omega, fun z => by rw [k.1.2] at z; omega, fun z => by rw [k.1.2] at z; omega, fun z => by rw [k.1.2] at z; omega, fun z => by rw [k.1.2] at z; omega⟩
theorem y_discard (h : Sst E x S T F col S1 T1 F1 c1) {d : Nat} (o : pl x d) (e : ¬ E (d + 1)) : p_Y0_discard S1 x d ∧ ∃ S2 T2, f_Y0_discard S1 x d = (0, S2) ∧ Sst E x S T F col S2 T2 F1 c1 ∧ gX (fun q => q = d) S1 S2 ∧ giC S2 d 0 = 0 ∧ T2 (d + 1) = [] ∧ ∀ c, c ≠ d + 1 → c ≠ x → T2 c = T1 c := by
  have k := o.k h
  have w5 := h.ci.wf.w5 k.1
  obtain ⟨p1, S2, T2, f1, f2, f3, f4, f5⟩ := y_release h e o.o.1 o.o.2.1
  unfold p_Y0_discard f_Y0_discard
  simp only [q_Y0_discard_8a, b_Y0_discard_8a, w5.2, Option.getD_some, ir_so, f1]
  exact ⟨⟨w5.1, p1, trivial⟩, _, T2, rfl, f2.sort o 0, f3.x.tr (gX.si S2 d 0 0), by rw [gi_si, if_pos ⟨rfl, rfl⟩], f4, f5⟩
theorem em1 : (-1 : Int32).toInt = -1 := by decide
theorem clear_lp (hE : ∀ c, ¬ E c) : ∀ (n : Nat) (S1 : Cst) (T1 : Nat → List Nat) (b : Int32), Sst E x S T F col S1 T1 F1 c1 → 0 ≤ b.toInt → b.toInt ≤ 8 → 8 - b.toInt < n → lq_Y0_clear_18 x n S1 b ∧ ∃ S2 T2, lp_Y0_clear_18 x n S1 b = (0, S2) ∧ Sst E x S T F col S2 T2 F1 c1 ∧ gX (fun q => ∃ p, b.toNatClampNeg ≤ p ∧ p < 8 ∧ q = x + 13 + 3 * p) S1 S2 ∧ (∀ p, b.toNatClampNeg ≤ p → p < 8 → giC S2 (x + 13 + 3 * p) 0 = 0 ∧ T2 (x + 14 + 3 * p) = []) ∧ ∀ c, c ≠ x → (∀ p, b.toNatClampNeg ≤ p → p < 8 → c ≠ x + 14 + 3 * p) → T2 c = T1 c := by
  intro n
  induction n with
  | zero => intro S1 T1 b h h1 h2 h3; omega
  | succ n ih =>
    intro S1 T1 b h h1 h2 h3
    rw [lq_Y0_clear_18, lp_Y0_clear_18]
    have hb := iNat h1
    unfold ps_Y0_clear_18 st_Y0_clear_18
    by_cases c : b.toInt = 8
    · have c8 : 8 ≤ b := iLe.mpr (by rw [e8]; omega)
      rw [if_pos c8, if_pos c8]
      exact ⟨⟨trivial, trivial⟩, S1, T1, rfl, h, (gF.rf S1).x, fun p a b => by omega, fun _ _ _ => rfl⟩
    · have c8 : ¬ 8 ≤ b := fun z => by have := iLe.mp z; rw [e8] at this; omega
      rw [if_neg c8, if_neg c8]
      have dk := dk_ix h.ci.wf h.k1 (i := b.toNatClampNeg) (by omega)
      rw [dk.1, Option.getD_some]
      have o : pl x (x + 13 + 3 * b.toNatClampNeg) := Or.inr ⟨_, by omega, rfl⟩
      obtain ⟨p1, S2, T2, f1, f2, f3, f4, f5, f6⟩ := y_discard h o (hE _)
      rw [f1]
      have e := iAdd (x := b) (y := 1) (by rw [i1]; omega) (by rw [i1]; omega)
      rw [i1] at e
      have hb' := iNat (x := b + 1) (by omega)
      have hs : (b + 1).toNatClampNeg = b.toNatClampNeg + 1 := by omega
      obtain ⟨r1, S3, T3, r2, r3, r4, r5, r6⟩ := ih S2 T2 (b + 1) f2 (by omega) (by omega) (by omega)
      rw [hs] at r4 r5 r6
      unfold b_Y0_clear_34a q_Y0_clear_34a
      refine ⟨⟨⟨g0_3 h.ci.wf h.k1, ?_, ir_so.mpr dk.2, p1, trivial⟩, r1⟩, S3, T3, r2, r3, (f3.mo (fun q z => ⟨_, Nat.le_refl _, by omega, z⟩)).tr (r4.mo (fun q ⟨p, a, b, c⟩ => ⟨p, by omega, b, c⟩)), fun p a d => ?_, fun c nx nc => ?_⟩
      · rw [dk_ln h.ci.wf h.k1]
        exact vIn h1 (by omega)
      · by_cases y : p = b.toNatClampNeg
        · subst y
          refine ⟨?_, ?_⟩
          · have k2 : iK S2 (x + 13 + 3 * b.toNatClampNeg) 5 := (o.k f2).1
            rw [r4.2.1 _ k2.1 (by rw [k2.2]; decide) (fun ⟨p, a, b, c⟩ => by omega), f4]
          · rw [r6 _ (by omega) (fun p a b => by omega), show x + 14 + 3 * b.toNatClampNeg = x + 13 + 3 * b.toNatClampNeg + 1 by omega]
            exact f5
        · exact r5 p (by omega) d
      · rw [r6 c nx (fun p a b => nc p (by omega) b)]
        exact f6 c (fun z => nc _ (Nat.le_refl _) (by omega) (by omega)) nx
/-- nothing pending, drafted or lying -/
def clr (S : Cst) (T : Nat → List Nat) (x : Nat) : Prop := T (x + 1) = [] ∧ T (x + 4) = [] ∧ giC S (x + 3) 0 = 0 ∧ ∀ p, p < 8 → giC S (x + 13 + 3 * p) 0 = 0 ∧ T (x + 14 + 3 * p) = []
theorem y_clear (hE : ∀ c, ¬ E c) (h : Sst E x S T F col S1 T1 F1 c1) : p_Y0_clear S1 x ∧ ∃ S2 T2, f_Y0_clear S1 x = (0, S2) ∧ Sst E x S T F col S2 T2 F1 c1 ∧ gX (fun q => kdC S1 q = 5) S1 S2 ∧ clr S2 T2 x := by
  have w0 := h.ci.wf.w0 h.k1
  obtain ⟨p1, S2, T2, f1, f2, f3, f4, f5⟩ := y_release h (hE _) (show own x (x + 1) from Or.inr (Or.inl rfl)) (by omega)
  have o3 : pl x (x + 3) := Or.inl rfl
  obtain ⟨q1, S3, T3, g1, g2, g3, g4, g5, g6⟩ := y_discard f2 o3 (hE _)
  obtain ⟨r1, S4, T4, r2, r3, r4, r5, r6⟩ := clear_lp hE 100000 S3 T3 0 g2 (by rw [i0]; omega) (by rw [i0]; omega) (by rw [i0]; omega)
  have w2 := f2.ci.wf.w0 f2.k1
  have z0 : (0 : Int32).toNatClampNeg = 0 := rfl
  rw [z0] at r4 r5 r6
  have k3 := (o3.k g2).1
  unfold p_Y0_clear f_Y0_clear
  simp only [q_Y0_clear_34a, q_Y0_clear_16a, q_Y0_clear_8a, b_Y0_clear_34a, b_Y0_clear_16a, b_Y0_clear_8a, w0.2.1.2.1, Option.getD_some, ir_so, f1, w2.2.1.2.2.1, g1]
  refine ⟨⟨w0.1.2.1, p1, w2.1.2.2.1, q1, r1⟩, S4, T4, r2, r3, ?_, ?_, ?_, ?_, fun p hp => r5 p (Nat.zero_le _) hp⟩
  · refine f3.x.tr ?_
    have g3' : gX (fun q => kdC S1 q = 5) S2 S3 := ⟨g3.1, fun q a b c k => g3.2.1 q a b (fun z => c (by
      have k1 := (o3.k h).1.2
      rw [z]
      exact k1)) k, g3.2.2⟩
    have r4' : gX (fun q => kdC S1 q = 5) S3 S4 := ⟨r4.1, fun q a b c k => r4.2.1 q a b (fun ⟨p, _, hp, z⟩ => c (by
      rw [z]
      exact (dk_ix h.ci.wf h.k1 hp).2.2)) k, r4.2.2⟩
    exact g3'.tr r4'
  · rw [r6 _ (by omega) (fun p _ _ => by omega), g6 _ (by omega) (by omega)]
    exact f4
  · rw [r6 _ (by omega) (fun p _ _ => by omega)]
    exact g5
  · rw [r4.2.1 _ k3.1 (by rw [k3.2]; decide) (fun ⟨p, _, _, z⟩ => by omega)]
    exact g4
/-- the lowest of those pending comes afloat, the others go to the spare ones -/
theorem lowest_lp (hE : ∀ c, ¬ E c) {q0 : Nat} : ∀ (n : Nat) (S1 : Cst) (T1 : Nat → List Nat) (v : Int32) (l : List Nat), Sst E x S T F col S1 T1 F1 c1 → T1 (x + 1) = q0 :: l → v.toInt = l.length + 1 → l.length + 1 < n → lq_Y0_pullLowest_8 x n S1 v ∧ ∃ S2 T2, lp_Y0_pullLowest_8 x n S1 v = (some q0, S2) ∧ Sst E x S T F col S2 T2 (q0 :: F1) c1 ∧ gF S1 S2 ∧ T2 (x + 1) = [] ∧ ∀ c, c ≠ x + 1 → c ≠ x → T2 c = T1 c := by
  intro n
  induction n with
  | zero => intro S1 T1 v l h hT hv g; omega
  | succ n ih =>
    intro S1 T1 v l h hT hv g
    have w0 := h.ci.wf.w0 h.k1
    have l9 := (h.ci.tp (x + 1) (hE _) w0.1.2.1).2.1
    rw [hT, List.length_cons] at l9
    rw [lq_Y0_pullLowest_8, lp_Y0_pullLowest_8]
    unfold ps_Y0_pullLowest_8 st_Y0_pullLowest_8
    rw [w0.2.1.2.1, Option.getD_some]
    cases l with
    | nil =>
      have c : v ≤ 1 := iLe.mpr (by rw [i1, hv]; decide)
      rw [if_pos c, if_pos c]
      obtain ⟨p1, _, p3⟩ := y_pull h (hE _) (show own x (x + 1) from Or.inr (Or.inl rfl)) (by omega)
      obtain ⟨S2, f1, f2, f3⟩ := p3 [] q0 hT
      rw [f1]
      exact ⟨⟨⟨ir_so.mpr w0.1.2.1, p1, trivial⟩, trivial⟩, S2, _, rfl, f2, f3, tU_at .., fun c a _ => tU_ne _ _ a⟩
    | cons a l =>
      have c : ¬ v ≤ 1 := fun z => by have := iLe.mp z; rw [i1, hv, List.length_cons] at this; omega
      rw [if_neg c, if_neg c]
      obtain ⟨p1, S2, T2, f1, f2, f3, f4, f5⟩ := y_dropTop h (hE _) (show own x (x + 1) from Or.inr (Or.inl rfl)) (by omega)
      rw [f1]
      rw [List.length_cons] at hv g l9
      have e1 := iAdd (x := v) (y := -1) (by rw [em1]; omega) (by rw [em1]; omega)
      rw [em1] at e1
      have hl : T2 (x + 1) = q0 :: (a :: l).dropLast := by
        rw [f4, hT]
        rfl
      have hlen : ((a :: l).dropLast).length = l.length := by
        rw [List.length_dropLast, List.length_cons]
        omega
      obtain ⟨r1, S3, T3, r2, r3, r4, r5, r6⟩ := ih S2 T2 (v + -1) _ f2 hl (by rw [hlen]; omega) (by rw [hlen]; omega)
      unfold b_Y0_pullLowest_21a q_Y0_pullLowest_21a
      exact ⟨⟨⟨ir_so.mpr w0.1.2.1, p1, trivial⟩, r1⟩, S3, T3, r2, r3, f3.tr r4, r5, fun c a b => (r6 c a b).trans (f5 c a b)⟩
theorem y_lowest (hE : ∀ c, ¬ E c) (h : Sst E x S T F col S1 T1 F1 c1) {q0 : Nat} {l : List Nat} (hT : T1 (x + 1) = q0 :: l) : p_Y0_pullLowest S1 x ∧ ∃ S2 T2, f_Y0_pullLowest S1 x = (some q0, S2) ∧ Sst E x S T F col S2 T2 (q0 :: F1) c1 ∧ gF S1 S2 ∧ T2 (x + 1) = [] ∧ ∀ c, c ≠ x + 1 → c ≠ x → T2 c = T1 c := by
  have w0 := h.ci.wf.w0 h.k1
  have w := h.ci.tp (x + 1) (hE _) w0.1.2.1
  rw [hT, List.length_cons] at w
  unfold p_Y0_pullLowest f_Y0_pullLowest
  rw [w0.2.1.2.1, Option.getD_some]
  obtain ⟨r1, r⟩ := lowest_lp hE 100000 S1 T1 (giC S1 (x + 1) 1) l h hT (by omega) (by omega)
  exact ⟨⟨ir_so.mpr w0.1.2.1, r1⟩, r⟩
theorem y_hold {q : Nat} (h : Sst E x S T F col S1 T1 (q :: F1) c1) {d : Nat} (v : Int32) (o : pl x d) (e : ¬ E (d + 1)) (hl : (T1 (d + 1)).length < 9) : p_Y6_hold S1 d v (some q) ∧ ∃ S2, f_Y6_hold S1 d v (some q) = (0, S2) ∧ Sst E x S T F col S2 (tU T1 (d + 1) (T1 (d + 1) ++ [q])) F1 c1 ∧ gX (fun z => z = d) S1 S2 ∧ giC S2 d 0 = v := by
  have k := (o.k h).1
  have w5 := h.ci.wf.w5 k
  have h2 := h.sort o v
  obtain ⟨p1, S2, f1, f2, f3, _⟩ := y_put h2 e o.o.1 o.o.2.1 hl
  have k2 := (o.k h2).1
  unfold p_Y6_hold f_Y6_hold
  simp only [q_Y6_hold_13a, b_Y6_hold_13a, gr_si, w5.2, Option.getD_some, ir_so, ik_si, f1]
  refine ⟨⟨w5.1, p1, trivial⟩, S2, rfl, f2, (gX.si S1 d 0 v).tr f3.x, ?_⟩
  rw [f3.2.1 d k2.1 (by rw [k2.2]; decide), gi_si, if_pos ⟨rfl, rfl⟩]
end
