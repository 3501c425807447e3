/-! ===== act 21: told ===== -/
section
variable {x : Nat} {S S1 S2 S3 : Cst} {T T1 T2 : Nat → List Nat} {F F1 : List Nat} {col c1 c2 : Nat → Nat}
theorem at_c (h : Sst noE x S T F col S1 T1 F1 c1) (i : Int32) : mC S1 c1 x (f_Y5_at S1 (x + 1) i) := by
  have kp := (h.ci.wf.w0 h.k1).1.2.1
  by_cases z : 0 ≤ i.toInt ∧ i.toInt < (T1 (x + 1)).length
  · have hn := iNat z.1
    rw [at_s h.ci (noE_n _) kp z.1 z.2]
    have m : (T1 (x + 1)).getD i.toNatClampNeg 0 ∈ T1 (x + 1) := by
      rw [List.getD_eq_getElem?_getD, List.getElem?_eq_getElem (show i.toNatClampNeg < _ by omega)]
      exact List.getElem_mem _
    have t := h.ci.tk _ _ m
    exact Or.inr ⟨_, rfl, t.1, by rw [t.2]; exact h.cx 1 (by omega)⟩
  · rw [at_n h.ci (noE_n _) kp (by omega)]
    exact Or.inl rfl
/-- results kept -/
theorem kw_w (h : CI noE S1 T1 F1 c1) (k : iK S1 x 0) (c v : Int32) : iR S1 (grC S1 x 5) 2 ∧ p_Y3_write S1 ((grC S1 x 5).getD 0) c v ∧ ∃ S2, f_Y3_write S1 ((grC S1 x 5).getD 0) c v = (0, S2) ∧ LSt noE T1 F1 (x + 9) S1 c1 S2 c1 := by
  have w := h.wf.w0 k
  obtain ⟨p, S2, f, g, _⟩ := w_write h w.1.2.2.2.2.2.1 c v
  rw [w.2.1.2.2.2.2.2.1]
  exact ⟨ir_so.mpr w.1.2.2.2.2.2.1, p, S2, f, g⟩
theorem y_keepRes (h : CI noE S1 T1 F1 c1) (k : iK S1 x 0) (a b d e : Int32) : ∃ S2 c2, f_Y7_keep S1 x a b d e = (0, S2) ∧ (∀ lc ls, S2.1 ≤ lc → S2.2.1 ≤ ls → p_Y7_keep S1 x lc ls a b d e) ∧ LSt noE T1 F1 (x + 9) S1 c1 S2 c2 := by
  have w := h.wf.w0 k
  obtain ⟨S2, c2, f, p, g, _⟩ := w_open h w.1.2.2.2.2.2.1
  have k2 := k.n g.2.1
  have w2 := g.1.wf.w0 k2
  obtain ⟨i0', p0, S3, f0, g0⟩ := kw_w g.1 k2 0 (giC S2 ((grC S2 x 4).getD 0) 3)
  have k3 := k2.n g0.2.1
  obtain ⟨i1', p1, S4, f1, g1⟩ := kw_w g0.1 k3 1 a
  have k4 := k3.n g1.2.1
  obtain ⟨i2', p2, S5, f2, g2⟩ := kw_w g1.1 k4 2 b
  have k5 := k4.n g2.2.1
  obtain ⟨i3', p3, S6, f3, g3⟩ := kw_w g2.1 k5 3 d
  have k6 := k5.n g3.2.1
  obtain ⟨i4', p4, S7, f4, g4⟩ := kw_w g3.1 k6 4 e
  unfold f_Y7_keep p_Y7_keep b_Y7_keep_7a q_Y7_keep_7a b_Y7_keep_22a q_Y7_keep_22a b_Y7_keep_31a q_Y7_keep_31a b_Y7_keep_40a q_Y7_keep_40a b_Y7_keep_49a q_Y7_keep_49a b_Y7_keep_59a q_Y7_keep_59a
  rw [w.2.1.2.2.2.2.2.1, Option.getD_some, f]
  simp only [f0, f1, f2, f3, f4]
  have G := (((g0.tr g1).tr g2).tr g3).tr g4
  refine ⟨S7, c2, rfl, fun lc ls A B => ⟨ir_so.mpr w.1.2.2.2.2.2.1, ⟨⟨g.2.1.1.1, Nat.le_trans G.2.1.1.1 A⟩, g.2.1.1.2, Nat.le_trans G.2.1.1.2 B⟩, p _ _ (Nat.le_refl _) (Nat.le_refl _), ?_, i0', p0, i1', p1, i2', p2, i3', p3, i4', p4, trivial⟩, g.tr G⟩
  rw [w2.2.1.2.2.2.2.1]
  exact ir_so.mpr w2.1.2.2.2.2.1
theorem AS.led (a : AS x S T col S1 T1 c1) {l : Nat} (hl : l = x + 7 ∨ l = x + 9) (g : LSt noE T1 [] l S1 c1 S2 c2) : AS x S T col S2 T1 c2 := by
  have w := a.1.ci.wf.w0 a.1.k1
  have k : iK S1 l 2 := by
    rcases hl with e | e <;> rw [e]
    · exact w.1.2.2.2.2.1
    · exact w.1.2.2.2.2.2.1
  exact ⟨a.1.led hl g, a.2.kp a.1.ci a.1.k1 (g.p k a.1.ci.wf) (fun _ _ _ => rfl)⟩
/-- the laid ones follow -/
theorem am_69 {m q : Nat} (u : QU noE x S T F col T1 F1 c1 S1 S2) (km : iK S2 m 3) {r : Option Nat} (hr : mC S2 c1 x r) (a b w i : Int32) : q_Y7_amend_69a S2 x (some m) (some q) a b w i r ∧ ∃ S3, b_Y7_amend_69a S2 x (some m) (some q) a b w i r = Sum.inr (S3, some m, some q, a, b, w, i + 1) ∧ QU noE x S T F col T1 F1 c1 S1 S3 := by
  unfold q_Y7_amend_69a b_Y7_amend_69a q_Y7_amend_114 b_Y7_amend_114
  rcases hr with rfl | ⟨z, rfl, k, c⟩
  · simp only [if_true]
    exact ⟨trivial, S2, rfl, u⟩
  · simp only [reduceCtorEq, if_false, Option.getD_some, ir_so]
    by_cases e1 : giC S2 z 10 = 0
    · simp only [if_pos e1]
      exact ⟨⟨k, trivial⟩, S2, rfl, u⟩
    · simp only [if_neg e1]
      by_cases e2 : f_Y4_amends S2 z = 0
      · simp only [if_pos e2]
        exact ⟨⟨k, k, y_amends _ _, trivial⟩, S2, rfl, u⟩
      · simp only [if_neg e2]
        by_cases e3 : giC S2 z 1 = giC S2 m 0
        · simp only [if_pos e3]
          obtain ⟨p, v, S3, f, g⟩ := y_follow u.1 k c a b w
          rw [f]
          exact ⟨⟨k, k, y_amends _ _, k, km, k, p, trivial⟩, S3, rfl, u.tr g⟩
        · simp only [if_neg e3]
          exact ⟨⟨k, k, y_amends _ _, k, km, trivial⟩, S2, rfl, u⟩
theorem amend_lp {m q : Nat} (km : iK S1 m 3) (a b w : Int32) : ∀ (n : Nat) (S2 : Cst) (i : Int32), QU noE x S T F col T1 F1 c1 S1 S2 → -1 ≤ i.toInt → i.toInt ≤ 8 → 8 - i.toInt < n → qm noE x S T F col T1 F1 c1 S1 (lq_Y7_amend_37 x n S2 (some m) (some q) a b w i) (lp_Y7_amend_37 x n S2 (some m) (some q) a b w i) := by
  intro n
  induction n with
  | zero => intro S2 i u h1 h2 h3; omega
  | succ n ih =>
    intro S2 i u h1 h2 h3
    unfold qm
    rw [lq_Y7_amend_37, lp_Y7_amend_37]
    unfold ps_Y7_amend_37 st_Y7_amend_37
    have w0 := u.w0
    by_cases c : 8 ≤ i
    · rw [if_pos c, if_pos c]
      exact ⟨⟨trivial, trivial⟩, _, _, rfl, u⟩
    · rw [if_neg c, if_neg c]
      have c := mt iLe.mpr c
      rw [e8] at c
      have e := iAdd (x := i) (y := 1) (by rw [i1]; omega) (by rw [i1]; omega)
      rw [i1] at e
      by_cases d : 0 ≤ i
      · rw [if_pos d, if_pos d]
        have d := iLe.mp d
        rw [i0] at d
        have hn := iNat d
        have dk := dk_ix u.1.ci.wf u.1.k1 (i := i.toNatClampNeg) (by omega)
        have ln := dk_ln u.1.ci.wf u.1.k1
        rw [dk.1, ln]
        simp only [Option.getD_some, ir_so]
        have hm := mo_c u.1 (show pl x (x + 13 + 3 * i.toNatClampNeg) from Or.inr ⟨_, by omega, rfl⟩)
        have pm := y_motion u.1.ci.wf dk.2
        obtain ⟨p1, S3, f1, g1⟩ := am_69 (q := q) u (km.e u.2.2) hm a b w i
        rw [f1]
        obtain ⟨r1, r2⟩ := ih S3 (i + 1) g1 (by omega) (by omega) (by omega)
        exact ⟨⟨⟨g0_3 u.1.ci.wf u.1.k1, vIn d (by omega), dk.2, pm, p1⟩, r1⟩, r2⟩
      · rw [if_neg d, if_neg d]
        have d := mt iLe.mpr d
        rw [i0] at d
        rw [w0.2.1.2.2.1]
        simp only [Option.getD_some, ir_so]
        have hm := mo_c u.1 (show pl x (x + 3) from Or.inl rfl)
        have pm := y_motion u.1.ci.wf w0.1.2.2.1
        obtain ⟨p1, S3, f1, g1⟩ := am_69 (q := q) u (km.e u.2.2) hm a b w i
        rw [f1]
        obtain ⟨r1, r2⟩ := ih S3 (i + 1) g1 (by omega) (by omega) (by omega)
        exact ⟨⟨⟨w0.1.2.2.1, pm, p1⟩, r1⟩, r2⟩
theorem y_amendAll (h : Sst noE x S T F col S1 T1 F1 c1) {m q : Nat} (km : iK S1 m 3) (cm : c1 m = x) (kq : iK S1 q 3) : qm noE x S T F col T1 F1 c1 S1 (p_Y7_amend S1 x (some m) (some q)) (f_Y7_amend S1 x (some m) (some q)) := by
  have wm := h.ci.wf.w3 km
  have wq := h.ci.wf.w3 kq
  have u := QU.rf h
  unfold qm p_Y7_amend f_Y7_amend q_Y7_amend_34a b_Y7_amend_34a
  simp only [Option.getD_some, ir_so]
  rw [wm.2.1.1, wq.2.1.1]
  simp only [Option.getD_some, ir_so]
  obtain ⟨p1, v, S2, f1, g1⟩ := y_replace h wm.1.1 (u.mc km cm 1 (by omega)) (u.mc km cm 2 (by omega)) wq.1.1 (giC S1 q 8) (giC S1 q 9)
  rw [f1]
  obtain ⟨r1, r2⟩ := amend_lp (q := q) km (giC S1 q 8) (giC S1 q 9) (giC S1 (q + 1) 1) 100000 S2 (-1) g1 (by rw [em1]; omega) (by rw [em1]; omega) (by rw [em1]; omega)
  exact ⟨⟨kq, kq, kq, wq.1.1, km, kq, wm.1.1, wq.1.1, p1, r1⟩, r2⟩
theorem ca_89 (h : Sst noE x S T F col S1 T1 F1 c1) {q : Nat} (kq : iK S1 q 3) {r : Option Nat} (hr : mC S1 c1 x r) : qm noE x S T F col T1 F1 c1 S1 (q_Y7_carryAlone_89 S1 x (some q) r) (b_Y7_carryAlone_89 S1 x (some q) r) := by
  have u := QU.rf h
  unfold qm q_Y7_carryAlone_89 b_Y7_carryAlone_89 q_Y7_carryAlone_106 b_Y7_carryAlone_106
  rcases hr with rfl | ⟨m, rfl, km, cm⟩
  · simp only [if_true]
    exact ⟨trivial, _, _, rfl, u⟩
  · simp only [reduceCtorEq, if_false, Option.getD_some, ir_so]
    by_cases e : f_Y4_amends S1 q = 0
    · simp only [if_pos e]
      exact ⟨⟨kq, y_amends _ _, trivial⟩, _, _, rfl, u⟩
    · simp only [if_neg e]
      obtain ⟨p, v, S2, f, g⟩ := y_amendAll h km cm kq
      rw [f]
      exact ⟨⟨kq, y_amends _ _, p, trivial⟩, _, _, rfl, g⟩
theorem y_carry (h : Sst noE x S T F col S1 T1 F1 c1) {q : Nat} (kq : iK S1 q 3) : qm noE x S T F col T1 F1 c1 S1 (p_Y7_carryAlone S1 x (some q)) (f_Y7_carryAlone S1 x (some q)) := by
  have u := QU.rf h
  have w0 := u.w0
  have wq := h.ci.wf.w3 kq
  have pa := y_at h.ci.wf w0.1.2.1 (giC S1 (x + 1) 1 - 2)
  have hr := at_c h (giC S1 (x + 1) 1 - 2)
  unfold qm p_Y7_carryAlone f_Y7_carryAlone q_Y7_carryAlone_16a b_Y7_carryAlone_16a q_Y7_carryAlone_36a b_Y7_carryAlone_36a q_Y7_carryAlone_65a b_Y7_carryAlone_65a
  rw [w0.2.1.2.1]
  simp only [Option.getD_some, ir_so]
  generalize f_Y5_at S1 (x + 1) (giC S1 (x + 1) 1 - 2) = r at hr ⊢
  have k89 := ca_89 h kq hr
  obtain ⟨b1, b2⟩ := k89
  by_cases e1 : giC S1 q 2 = 1
  · simp only [if_pos e1]
    rw [w0.2.1.2.2.2.2.2.2, wq.2.1.1]
    simp only [Option.getD_some, ir_so]
    obtain ⟨p, S2, f, g, g2, g3, _⟩ := y_tBecome h w0.1.2.2.2.2.2.2 (h.cx 11 (by omega)) (h.cx 12 (by omega)) wq.1.1
    rw [f]
    have k12 := (h.ci.wf.w6 w0.1.2.2.2.2.2.2).1.1
    have u2 : QU noE x S T F col T1 F1 c1 S1 S2 := ⟨g, g2.p (fun z _ y e => by
      rcases y with y | y <;> rw [y] at e
      · have := w0.1.2.2.2.2.2.2.2; omega
      · have := k12.2; omega) (fun z _ y e => by
      rcases y with y | y <;> rw [y] at e
      · have := w0.1.2.2.2.2.2.2.2; omega
      · have := k12.2; omega), g3⟩
    unfold q_Y7_carryAlone_106 b_Y7_carryAlone_106
    exact ⟨⟨w0.1.2.1, w0.1.2.1, pa, kq, kq, w0.1.2.2.2.2.2.2, wq.1.1, p, trivial⟩, _, _, rfl, u2.aI 7 _⟩
  · simp only [if_neg e1]
    by_cases e2 : giC S1 q 2 = 8
    · simp only [if_pos e2]
      rw [w0.2.1.1]
      simp only [Option.getD_some, ir_so]
      obtain ⟨p, v, S2, f, g⟩ := y_hempty h
      rw [f]
      unfold q_Y7_carryAlone_106 b_Y7_carryAlone_106
      exact ⟨⟨w0.1.2.1, w0.1.2.1, pa, kq, kq, w0.1.1, p, trivial⟩, _, _, rfl, g⟩
    · simp only [if_neg e2]
      rcases hr with rfl | ⟨m, rfl, km, cm⟩
      · simp only [if_true]
        exact ⟨⟨w0.1.2.1, w0.1.2.1, pa, kq, kq, b1⟩, b2⟩
      · simp only [reduceCtorEq, if_false, Option.getD_some]
        by_cases e3 : giC S1 q 2 = 6
        · simp only [if_pos e3]
          unfold q_Y7_carryAlone_106 b_Y7_carryAlone_106
          exact ⟨⟨w0.1.2.1, w0.1.2.1, pa, kq, kq, kq, ir_so.mpr km, trivial⟩, _, _, rfl, u.mI km cm 7 1 (by omega) (fun _ => bz1)⟩
        · simp only [if_neg e3]
          exact ⟨⟨w0.1.2.1, w0.1.2.1, pa, kq, kq, kq, b1⟩, b2⟩
theorem fcU_0 : ∀ n, (∀ p, p < n → ¬ giC S1 (x + 13 + 3 * p) 0 = 0) → fcU S1 x n = 0 := by
  intro n
  induction n with
  | zero => intro _; rfl
  | succ n ih =>
    intro h
    rw [fcU, ih (fun p hp => h p (by omega)), if_neg (h n (by omega))]
theorem first_s (wf : wfS S1) (k : iK S1 x 0) (h : 1 ≤ fcU S1 x 8) : ∃ p, p < 8 ∧ f_Y0_firstFreePlace S1 x = some (x + 13 + 3 * p) ∧ giC S1 (x + 13 + 3 * p) 0 = 0 := by
  rcases first_v wf k with ⟨_, b⟩ | a
  · have := fcU_0 8 b
    omega
  · exact a
/-- a method's step that makes nothing -/
def bm (x : Nat) (S : Cst) (T : Nat → List Nat) (col c1 : Nat → Nat) (S1 : Cst) (p : Prop) (f : Int32 × Cst) : Prop := p ∧ ∃ v S3 T3, f = (v, S3) ∧ AS x S T col S3 T3 c1 ∧ eN S1 S3
theorem put_on (a : AS x S T col S1 T1 c1) (hn : nd S1 (T1 (x + 1))) {q0 p : Nat} (hp : p < 8) (hs : giC S1 (x + 13 + 3 * p) 0 = 0) (f2 : Sst noE x S T [] col S2 T2 [q0] c1) (f3 : gF S1 S2) (e1 : T2 (x + 1) = []) (fr : ∀ c, c ≠ x + 1 → c ≠ x → T2 c = T1 c) (m : mU noE x S T [] col T2 [q0] c1 q0 S2 S3) {v : Int32} (hv : v = 1 ∨ v = 2) : p_Y6_hold S3 (x + 13 + 3 * p) v (some q0) ∧ ∃ S4 T4, f_Y6_hold S3 (x + 13 + 3 * p) v (some q0) = (0, S4) ∧ AS x S T col S4 T4 c1 ∧ eN S1 S4 := by
  have o3 : pl x (x + 3) := Or.inl rfl
  have o : pl x (x + 13 + 3 * p) := Or.inr ⟨p, hp, rfl⟩
  have h := a.1
  have hT2 : T2 (x + 13 + 3 * p + 1) = [] := by rw [fr _ (by omega) (by omega)]; exact a.c0 o hs
  obtain ⟨r1, S4, r2, r3, r4, r5⟩ := y_hold m.1 v o (noE_n _) (by rw [hT2]; decide)
  have hd : ∀ d, pl x d → giC S3 d 0 = giC S1 d 0 := fun d od => by
    have k1 := od.lt h.ci h.k1
    have k2 := od.lt f2.ci f2.k1
    have k3 := od.lt m.1.ci m.1.k1
    rw [m.2.1.2.1 d k2.1 (by rw [k2.2]; decide) (dM_n m.1.ci.wf m.2.2.1 (fun y => by have := m.2.2.1.2; rw [← y, k3.2] at this; omega) (Or.inr k3.2)), f3.2.1 d k1.1 (by rw [k1.2]; decide)]
  have hp4 : ∀ r, r < 8 → r ≠ p → giC S4 (x + 13 + 3 * r) 0 = giC S1 (x + 13 + 3 * r) 0 := fun r hr n => by
    have o' : pl x (x + 13 + 3 * r) := Or.inr ⟨r, hr, rfl⟩
    rw [gX_s r4 (o'.lt m.1.ci m.1.k1) (by omega), hd _ o']
  have e3 : giC S4 (x + 3) 0 = giC S1 (x + 3) 0 := by rw [gX_s r4 (o3.lt m.1.ci m.1.k1) (by omega), hd _ o3]
  have hf := fcU_at (S1 := S1) (S2 := S4) (x := x) (p := p) 8 hp (fun r hr n => hp4 r hr n)
  have v0 : v ≠ 0 := by rcases hv with e | e <;> rw [e] <;> decide
  have v3 : v ≠ 3 := by rcases hv with e | e <;> rw [e] <;> decide
  rw [if_pos hs, r5, if_neg v0] at hf
  have e4 : ∀ L, tU T2 (x + 13 + 3 * p + 1) L (x + 4) = T1 (x + 4) := fun L => by rw [tU_ne _ _ (by omega), fr _ (by omega) (by omega)]
  have A := a.2.1 _ o3
  have hN : ∀ L, ¬ nd S4 (tU T2 (x + 13 + 3 * p + 1) L (x + 1)) := fun L n => by
    rw [tU_ne _ _ (by omega), e1] at n
    exact nd_nil n
  refine ⟨r1, S4, _, r2, ⟨r3, a.2.pc (p0 := p) (fun r hr n => ⟨hp4 r hr n, ?_⟩) ⟨fun z => ?_, fun _ => ?_, ?_⟩ ⟨?_, ?_, ?_, ?_⟩ (fun n => absurd n (hN _)) (fun z => ?_) (fun n => absurd n (hN _))⟩, (f3.1.tr m.2.1.1).tr r4.1⟩
  · rw [tU_ne _ _ (by omega), fr _ (by omega) (by omega)]
  · rw [r5] at z
    exact absurd z v0
  · rw [tU_at, hT2]
    exact Nat.le_refl _
  · rw [r5]
    rcases hv with e | e <;> rw [e]
    · exact Or.inr (Or.inl rfl)
    · exact s2
  · rw [e3, e4]
    exact A.1
  · rw [e3, e4]
    exact A.2.1
  · rw [e3]
    exact A.2.2.1
  · rw [e3]
    exact A.2.2.2 rfl
  · rw [e3] at z
    have := a.2.2.2.2 hn z
    omega
theorem nd_cons (h : nd S1 (T1 (x + 1))) : ∃ q0 l, T1 (x + 1) = q0 :: l := by
  obtain ⟨q, m, _⟩ := h
  cases t : T1 (x + 1) with
  | nil =>
    rw [t] at m
    cases m
  | cons q0 l => exact ⟨q0, l, rfl⟩
theorem y_commit (a : AS x S T col S1 T1 c1) (hn : nd S1 (T1 (x + 1))) : bm x S T col c1 S1 (p_Y7_commit S1 x) (f_Y7_commit S1 x) := by
  have h := a.1
  obtain ⟨p, hp, e, hs⟩ := first_s h.ci.wf h.k1 (a.2.2.1 hn)
  obtain ⟨q0, l, hT⟩ := nd_cons hn
  obtain ⟨p1, S2, T2, f1, f2, f3, f4, f5⟩ := y_lowest noE_n h hT
  have kq := (f2.ci.tf.2 q0 (List.mem_cons_self ..)).1
  obtain ⟨p2, S3, g1, g2, _⟩ := y_keep f2 kq (f2.fc q0 (List.mem_cons_self ..)) 1
  obtain ⟨p3, S4, T4, r1, r2, r3⟩ := put_on a hn hp hs f2 f3 f4 f5 g2 (v := 1) (Or.inl rfl)
  have pf := y_first h.ci.wf h.k1
  have kd := (show pl x (x + 13 + 3 * p) from Or.inr ⟨p, hp, rfl⟩).lt g2.1.ci g2.1.k1
  unfold bm p_Y7_commit f_Y7_commit q_Y7_commit_9a b_Y7_commit_9a q_Y7_commit_23a b_Y7_commit_23a q_Y7_commit_29 b_Y7_commit_29
  rw [e, f1]
  simp only [reduceCtorEq, if_false, Option.getD_some, ir_so]
  rw [g1]
  simp only
  rw [r1]
  exact ⟨⟨pf, p1, kq, p2, kd, p3, trivial⟩, _, S4, T4, rfl, r2, r3⟩
theorem y_postpone (a : AS x S T col S1 T1 c1) (hn : nd S1 (T1 (x + 1))) : bm x S T col c1 S1 (p_Y7_postpone S1 x) (f_Y7_postpone S1 x) := by
  have h := a.1
  obtain ⟨p, hp, e, hs⟩ := first_s h.ci.wf h.k1 (a.2.2.1 hn)
  obtain ⟨q0, l, hT⟩ := nd_cons hn
  obtain ⟨p1, S2, T2, f1, f2, f3, f4, f5⟩ := y_lowest noE_n h hT
  have kq := (f2.ci.tf.2 q0 (List.mem_cons_self ..)).1
  obtain ⟨p2, S3, g1, g2, _⟩ := y_keep f2 kq (f2.fc q0 (List.mem_cons_self ..)) (giC S2 q0 2)
  have kq3 := g2.2.2.1
  have g5 := ((g2.si 3 (giC S2 q0 3) (by omega)).si 4 (giC S2 q0 4) (by omega)).si 10 1 (fun _ => bz1)
  obtain ⟨p3, S4, T4, r1, r2, r3⟩ := put_on a hn hp hs f2 f3 f4 f5 g5 (v := 2) (Or.inr rfl)
  have pf := y_first h.ci.wf h.k1
  have kd := (show pl x (x + 13 + 3 * p) from Or.inr ⟨p, hp, rfl⟩).lt g5.1.ci g5.1.k1
  unfold bm p_Y7_postpone f_Y7_postpone q_Y7_postpone_9a b_Y7_postpone_9a q_Y7_postpone_37a b_Y7_postpone_37a q_Y7_postpone_59 b_Y7_postpone_59
  rw [e, f1]
  simp only [reduceCtorEq, if_false, Option.getD_some, ir_so]
  rw [g1]
  simp only
  rw [r1]
  exact ⟨⟨pf, p1, kq, kq, kq, kq, p2, kq3, ik_si.mpr kq3, ik_si.mpr (ik_si.mpr kq3), kd, p3, trivial⟩, _, S4, T4, rfl, r2, r3⟩
theorem y_table (a : AS x S T col S1 T1 c1) (hn : nd S1 (T1 (x + 1))) : bm x S T col c1 S1 (p_Y7_table S1 x) (f_Y7_table S1 x) := by
  have h := a.1
  have w0 := h.ci.wf.w0 h.k1
  have o3 : pl x (x + 3) := Or.inl rfl
  obtain ⟨p, hp, e, hs⟩ := first_s h.ci.wf h.k1 (a.2.2.1 hn)
  have o : pl x (x + 13 + 3 * p) := Or.inr ⟨p, hp, rfl⟩
  have pf := y_first h.ci.wf h.k1
  obtain ⟨p1, S2, T2, f1, f2, f3, f4, f5⟩ := y_dropA a
  have kd := o.lt f2.1.ci f2.1.k1
  have g := f2.1.sort o 3
  have kd2 := o.lt g.ci g.k1
  have w2 := g.ci.wf.w0 g.k1
  have w5 := g.ci.wf.w5 kd2
  have hT2 : T2 (x + 13 + 3 * p + 1) = [] := by rw [f5 _ (by omega) (by omega)]; exact a.c0 o hs
  have l9 := l1_b f2.1.ci f2.1.k1
  obtain ⟨p2, S3, T3, r1, r2, r3, r4, r5, r6⟩ := y_pour noE_n g (P := x + 1) (Q := x + 13 + 3 * p + 1) (Or.inr (Or.inl rfl)) (by omega) o.o.1 o.o.2.1 (by omega) (by rw [hT2]; simp; exact l9)
  unfold bm p_Y7_table f_Y7_table q_Y7_table_13a b_Y7_table_13a q_Y7_table_33 b_Y7_table_33
  rw [e, w0.2.1.2.1]
  simp only [reduceCtorEq, if_false, Option.getD_some, ir_so]
  rw [f1]
  simp only
  rw [w2.2.1.2.1, w5.2]
  simp only [Option.getD_some, ir_so]
  rw [r1]
  have hs3 : ∀ d, pl x d → giC S3 d 0 = giC (siC S2 (x + 13 + 3 * p) 0 3) d 0 := fun d od => by
    have k := od.lt g.ci g.k1
    exact r3.2.1 d k.1 (by rw [k.2]; decide) 0
  have hs2 : ∀ d, pl x d → d ≠ x + 13 + 3 * p → giC S3 d 0 = giC S1 d 0 := fun d od n => by
    have k := od.lt h.ci h.k1
    rw [hs3 d od, gi_si, if_neg (fun z => n z.1), f3.2.1 d k.1 (by rw [k.2]; decide)]
  have e3 := hs2 _ o3 (by omega)
  have ep : giC S3 (x + 13 + 3 * p) 0 = 3 := by rw [hs3 _ o, gi_si, if_pos ⟨rfl, rfl⟩]
  have hf := fcU_at (S1 := S1) (S2 := S3) (x := x) (p := p) 8 hp (fun r hr n => hs2 _ (Or.inr ⟨r, hr, rfl⟩) (by omega))
  rw [if_pos hs, ep, if_neg (by decide)] at hf
  have e4 : T3 (x + 4) = T1 (x + 4) := by rw [r6 _ (by omega) (by omega), f5 _ (by omega) (by omega)]
  have A := a.2.1 _ o3
  have hN : ¬ nd S3 (T3 (x + 1)) := by rw [r4]; exact nd_nil
  refine ⟨⟨pf, w0.1.2.1, p1, kd, kd2, w2.1.2.1, w5.1, p2, trivial⟩, _, S3, T3, rfl, ⟨r2, a.2.pc (p0 := p) (fun r hr n => ⟨hs2 _ (Or.inr ⟨r, hr, rfl⟩) (by omega), ?_⟩) ⟨fun z => ?_, fun z => ?_, ?_⟩ ⟨?_, ?_, ?_, ?_⟩ (fun n => absurd n hN) (fun z => ?_) (fun n => absurd n hN)⟩, (f3.1.tr (eK.si ..).n).tr r3.1⟩
  · rw [r6 _ (by omega) (by omega), f5 _ (by omega) (by omega)]
  · rw [ep] at z
    exact absurd z (by decide)
  · exact absurd ep z
  · rw [ep]
    exact Or.inr (Or.inr (Or.inr rfl))
  · rw [e3, e4]
    exact A.1
  · rw [e3, e4]
    exact A.2.1
  · rw [e3]
    exact A.2.2.1
  · rw [e3]
    exact A.2.2.2 rfl
  · rw [e3] at z
    have := a.2.2.2.2 hn z
    omega
theorem an_195 (a : AS x S T col S1 T1 c1) (lc ls : Nat) (r : Option Nat) (x2 x3 x4 x5 x6 : Int32) : bm x S T col c1 S1 (q_Y7_announce_195 S1 x lc ls r x2 x3 x4 x5 x6) (b_Y7_announce_195 S1 x r x2 x3 x4 x5 x6) := by
  have u := (QU.rf a.1).hI 6 (-1) (by omega)
  have w0 := a.1.ci.wf.w0 a.1.k1
  unfold bm q_Y7_announce_195 b_Y7_announce_195
  rw [w0.2.1.1, Option.getD_some]
  exact ⟨⟨ir_so.mpr w0.1.1, trivial⟩, _, _, T1, rfl, ⟨u.1, a.2.kp a.1.ci a.1.k1 u.2.1 (fun _ _ _ => rfl)⟩, u.2.2.n⟩
theorem bm.to {p : Prop} {f : Int32 × Cst} (e : eN S1 S2) (h : bm x S T col c1 S2 p f) : bm x S T col c1 S1 p f := by
  obtain ⟨hp, v, S3, T3, a, b, c⟩ := h
  exact ⟨hp, v, S3, T3, a, b, e.tr c⟩
theorem an_181 (a : AS x S T col S1 T1 c1) (lc ls : Nat) (r : Option Nat) (x2 x3 x4 x5 x6 : Int32) : bm x S T col c1 S1 (q_Y7_announce_181a S1 x lc ls r x2 x3 x4 x5 x6) (b_Y7_announce_181a S1 x r x2 x3 x4 x5 x6) := by
  have w0 := a.1.ci.wf.w0 a.1.k1
  unfold q_Y7_announce_181a b_Y7_announce_181a
  by_cases e : x5 = 4
  · simp only [if_pos e]
    rw [w0.2.1.2.1]
    simp only [Option.getD_some, ir_so]
    obtain ⟨p1, S2, T2, f1, f2, f3, _⟩ := y_dropA a
    rw [f1]
    obtain ⟨k1, k2⟩ := (an_195 f2 lc ls r x2 x3 x4 x5 x6).to f3.1
    exact ⟨⟨w0.1.2.1, p1, k1⟩, k2⟩
  · simp only [if_neg e]
    exact an_195 a lc ls r x2 x3 x4 x5 x6
theorem an_173 (a : AS x S T col S1 T1 c1) (lc ls : Nat) (r : Option Nat) (x2 x3 x4 x5 x6 : Int32) : bm x S T col c1 S1 (q_Y7_announce_173 S1 x lc ls r x2 x3 x4 x5 x6) (b_Y7_announce_173 S1 x r x2 x3 x4 x5 x6) := by
  have w0 := a.1.ci.wf.w0 a.1.k1
  unfold q_Y7_announce_173 b_Y7_announce_173
  rw [w0.2.1.2.1]
  simp only [Option.getD_some, ir_so]
  obtain ⟨p1, S2, T2, f1, f2, f3, _⟩ := y_dropA a
  rw [f1]
  obtain ⟨k1, k2⟩ := (an_181 f2 lc ls r x2 x3 x4 x5 x6).to f3.1
  exact ⟨⟨w0.1.2.1, p1, k1⟩, k2⟩
theorem an_163 (a : AS x S T col S1 T1 c1) {q : Nat} (kq : iK S1 q 3) (lc ls : Nat) (x2 x3 x4 x5 x6 : Int32) : bm x S T col c1 S1 (q_Y7_announce_163 S1 x lc ls (some q) x2 x3 x4 x5 x6) (b_Y7_announce_163 S1 x (some q) x2 x3 x4 x5 x6) := by
  unfold q_Y7_announce_163 b_Y7_announce_163
  by_cases e : x6 = 0
  · simp only [if_pos e]
    exact an_173 a lc ls (some q) x2 x3 x4 x5 x6
  · simp only [if_neg e]
    obtain ⟨p, v, S2, f, g⟩ := y_carry a.1 kq
    rw [f]
    obtain ⟨k1, k2⟩ := (an_173 ⟨g.1, a.2.kp a.1.ci a.1.k1 g.2.1 (fun _ _ _ => rfl)⟩ lc ls (some q) x2 x3 x4 x5 x6).to g.2.2.n
    exact ⟨⟨p, k1⟩, k2⟩
theorem an_142 (a : AS x S T col S1 T1 c1) {q : Nat} (mq : q ∈ T1 (x + 1)) (lc ls : Nat) (x2 x3 x4 x5 x6 : Int32) : bm x S T col c1 S1 (q_Y7_announce_142 S1 x lc ls (some q) x2 x3 x4 x5 x6) (b_Y7_announce_142 S1 x (some q) x2 x3 x4 x5 x6) := by
  have kq := (a.1.ci.tk _ _ mq).1
  unfold q_Y7_announce_142 b_Y7_announce_142
  by_cases e : x6 = 0
  · simp only [if_pos e]
    exact an_163 a kq lc ls x2 x3 x4 x5 x6
  · simp only [if_neg e, Option.getD_some, ir_so]
    by_cases d : giC S1 q 2 = 7
    · simp only [if_pos d]
      obtain ⟨p, v, S2, T2, f, g, g2⟩ := y_table a ⟨q, mq, Or.inr (Or.inr d)⟩
      rw [f]
      obtain ⟨k1, k2⟩ := (an_181 g lc ls (some q) x2 x3 x4 x5 x6).to g2
      exact ⟨⟨kq, p, k1⟩, k2⟩
    · simp only [if_neg d]
      obtain ⟨k1, k2⟩ := an_163 a kq lc ls x2 x3 x4 x5 x6
      exact ⟨⟨kq, k1⟩, k2⟩
theorem an_122 (a : AS x S T col S1 T1 c1) {q : Nat} (mq : q ∈ T1 (x + 1)) (lc ls : Nat) (x2 x3 x4 x5 x6 : Int32) : bm x S T col c1 S1 (q_Y7_announce_122 S1 x lc ls (some q) x2 x3 x4 x5 x6) (b_Y7_announce_122 S1 x (some q) x2 x3 x4 x5 x6) := by
  have kq := (a.1.ci.tk _ _ mq).1
  unfold q_Y7_announce_122 b_Y7_announce_122
  by_cases e : x6 = 0
  · simp only [if_pos e]
    exact an_142 a mq lc ls x2 x3 x4 x5 x6
  · simp only [if_neg e, Option.getD_some, ir_so]
    by_cases d : giC S1 q 2 = 5
    · simp only [if_pos d]
      obtain ⟨p, v, S2, T2, f, g, g2⟩ := y_postpone a ⟨q, mq, Or.inr (Or.inl d)⟩
      rw [f]
      obtain ⟨k1, k2⟩ := (an_181 g lc ls (some q) x2 x3 x4 x5 x6).to g2
      exact ⟨⟨kq, p, k1⟩, k2⟩
    · simp only [if_neg d]
      obtain ⟨k1, k2⟩ := an_142 a mq lc ls x2 x3 x4 x5 x6
      exact ⟨⟨kq, k1⟩, k2⟩
theorem an_100 (a : AS x S T col S1 T1 c1) {q : Nat} (mq : q ∈ T1 (x + 1)) (lc ls : Nat) (x2 x3 x4 x5 x6 : Int32) : bm x S T col c1 S1 (q_Y7_announce_100 S1 x lc ls (some q) x2 x3 x4 x5 x6) (b_Y7_announce_100 S1 x (some q) x2 x3 x4 x5 x6) := by
  have kq := (a.1.ci.tk _ _ mq).1
  unfold q_Y7_announce_100 b_Y7_announce_100
  by_cases e : x6 = 0
  · simp only [if_pos e]
    exact an_122 a mq lc ls x2 x3 x4 x5 x6
  · simp only [if_neg e, Option.getD_some, ir_so]
    by_cases d : giC S1 q 2 = 4
    · simp only [if_pos d]
      obtain ⟨p, v, S2, T2, f, g, g2⟩ := y_commit a ⟨q, mq, Or.inl d⟩
      rw [f]
      obtain ⟨k1, k2⟩ := (an_181 g lc ls (some q) x2 x3 x4 x5 x6).to g2
      exact ⟨⟨kq, p, k1⟩, k2⟩
    · simp only [if_neg d]
      obtain ⟨k1, k2⟩ := an_122 a mq lc ls x2 x3 x4 x5 x6
      exact ⟨⟨kq, k1⟩, k2⟩
theorem an_89 (a : AS x S T col S1 T1 c1) {q : Nat} (mq : q ∈ T1 (x + 1)) (lc ls : Nat) (x2 x3 x4 x5 : Int32) : bm x S T col c1 S1 (q_Y7_announce_89a S1 x lc ls (some q) x2 x3 x4 x5) (b_Y7_announce_89a S1 x (some q) x2 x3 x4 x5) := by
  unfold q_Y7_announce_89a b_Y7_announce_89a
  by_cases e : x5 = 1
  · simp only [if_pos e]
    exact an_100 a mq lc ls x2 x3 x4 x5 1
  · simp only [if_neg e]
    exact an_100 a mq lc ls x2 x3 x4 x5 0
theorem an_61 (a : AS x S T col S1 T1 c1) {q : Nat} (mq : q ∈ T1 (x + 1)) (x2 x3 x4 : Int32) : am x S T col S1 (fun lc ls => q_Y7_announce_61 S1 x lc ls (some q) x2 x3 x4) (b_Y7_announce_61 S1 x (some q) x2 x3 x4) := by
  have kq := (a.1.ci.tk _ _ mq).1
  have w0 := a.1.ci.wf.w0 a.1.k1
  have po := y_outcome a.1.ci.wf w0.1.1 (ir_so.mpr kq) x3 x4
  unfold q_Y7_announce_61 b_Y7_announce_61
  rw [w0.2.1.1]
  simp only [Option.getD_some, ir_so]
  obtain ⟨S2, c2, f, p, g⟩ := y_keepRes a.1.ci a.1.k1 (giC S1 q 2) (f_Y7_outcomeOf S1 (x + 37) (some q) x3 x4) x3 x4
  rw [f]
  have B := fun lc ls => an_89 (a.led (Or.inr rfl) g) mq lc ls x2 x3 x4 (f_Y7_outcomeOf S1 (x + 37) (some q) x3 x4)
  obtain ⟨_, v, S3, T3, e1, e2, e3⟩ := B 0 0
  refine ⟨v, S3, T3, c2, e1, fun lc ls A B' => ⟨w0.1.1, po, kq, ⟨⟨g.2.1.1.1, Nat.le_trans e3.1.1 A⟩, g.2.1.1.2, Nat.le_trans e3.1.2 B'⟩, p _ _ (Nat.le_refl _) (Nat.le_refl _), fun z y => by cases y; exact kq.1, (B lc ls).1⟩, e2, g.2.1.tr e3⟩
theorem an_43 (a : AS x S T col S1 T1 c1) {q : Nat} (mq : q ∈ T1 (x + 1)) (x2 x3 : Int32) : am x S T col S1 (fun lc ls => q_Y7_announce_43 S1 x lc ls (some q) x2 x3) (b_Y7_announce_43 S1 x (some q) x2 x3) := by
  have kq := (a.1.ci.tk _ _ mq).1
  have w0 := a.1.ci.wf.w0 a.1.k1
  unfold q_Y7_announce_43 b_Y7_announce_43
  by_cases e : x2 = 0
  · simp only [if_pos e]
    exact an_61 a mq x2 x3 0
  · simp only [if_neg e]
    rw [w0.2.1.1]
    simp only [Option.getD_some, ir_so]
    obtain ⟨v, S3, T3, c3, e1, e2, e3⟩ := an_61 a mq x2 x3 (f_Y2_tally S1 (x + 37) (some q) 0)
    exact ⟨v, S3, T3, c3, e1, fun lc ls A B => ⟨w0.1.1, y_tally a.1.ci.wf w0.1.1 (ir_so.mpr kq) 0, e2 lc ls A B⟩, e3⟩
theorem an_25 (a : AS x S T col S1 T1 c1) {q : Nat} (mq : q ∈ T1 (x + 1)) (x2 : Int32) : am x S T col S1 (fun lc ls => q_Y7_announce_25 S1 x lc ls (some q) x2) (b_Y7_announce_25 S1 x (some q) x2) := by
  have kq := (a.1.ci.tk _ _ mq).1
  have w0 := a.1.ci.wf.w0 a.1.k1
  unfold q_Y7_announce_25 b_Y7_announce_25
  by_cases e : x2 = 0
  · simp only [if_pos e]
    exact an_43 a mq x2 0
  · simp only [if_neg e]
    rw [w0.2.1.1]
    simp only [Option.getD_some, ir_so]
    obtain ⟨v, S3, T3, c3, e1, e2, e3⟩ := an_43 a mq x2 (f_Y2_tally S1 (x + 37) (some q) 1)
    exact ⟨v, S3, T3, c3, e1, fun lc ls A B => ⟨w0.1.1, y_tally a.1.ci.wf w0.1.1 (ir_so.mpr kq) 1, e2 lc ls A B⟩, e3⟩
theorem y_announce (a : AS x S T col S1 T1 c1) {q : Nat} (mq : q ∈ T1 (x + 1)) : am x S T col S1 (fun lc ls => p_Y7_announce S1 x lc ls (some q)) (f_Y7_announce S1 x (some q)) := by
  have kq := (a.1.ci.tk _ _ mq).1
  have w0 := a.1.ci.wf.w0 a.1.k1
  unfold p_Y7_announce f_Y7_announce
  rw [w0.2.1.1]
  simp only [Option.getD_some, ir_so]
  by_cases e : f_Y2_hasQuorum S1 (x + 37) = 0
  · simp only [if_pos e]
    exact ⟨_, S1, T1, c1, rfl, fun _ _ _ _ => ⟨w0.1.1, y_hasQuorum _ _, trivial⟩, a, eN.rf _⟩
  · simp only [if_neg e]
    by_cases d : giC S1 q 4 = -1
    · simp only [if_pos d]
      obtain ⟨v, S3, T3, c3, e1, e2, e3⟩ := an_25 a mq 0
      exact ⟨v, S3, T3, c3, e1, fun lc ls A B => ⟨w0.1.1, y_hasQuorum _ _, kq, e2 lc ls A B⟩, e3⟩
    · simp only [if_neg d]
      obtain ⟨v, S3, T3, c3, e1, e2, e3⟩ := an_25 a mq 1
      exact ⟨v, S3, T3, c3, e1, fun lc ls A B => ⟨w0.1.1, y_hasQuorum _ _, kq, e2 lc ls A B⟩, e3⟩
end
