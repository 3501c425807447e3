/-! ===== piles: what pull, put, dropTop, release do ===== -/
/-- all numbers but the sizes of piles stand -/
def gL (S S' : Cst) : Prop := ∀ l, l < S.1 → kdC S l = 2 → grC S' l 2 = grC S l 2
theorem gL.tr {S S1 S2 : Cst} (e : eN S S1) (h : gL S S1) (g : gL S1 S2) : gL S S2 := fun l a k => (g l (Nat.lt_of_lt_of_le a e.1.1) (by rw [(e.2 l a).1]; exact k)).trans (h l a k)
theorem gL.si (S : Cst) (a b : Nat) (v : Int32) : gL S (siC S a b v) := fun _ _ _ => gr_si ..
theorem gL.sr (S : Cst) {a : Nat} (b : Nat) (v : Option Nat) (h : kdC S a ≠ 2) : gL S (srC S a b v) := fun l _ k => by rw [gr_sr, if_neg (fun y => h (by rw [← y.1]; exact k))]
def gF (S S' : Cst) : Prop := eN S S' ∧ (∀ q, q < S.1 → kdC S q ≠ 4 → ∀ k, giC S' q k = giC S q k) ∧ gL S S' ∧ S'.1 = S.1
theorem gF.rf (S : Cst) : gF S S := ⟨eN.rf S, fun _ _ _ _ => rfl, fun _ _ _ => rfl, rfl⟩
theorem gF.ik {S S' : Cst} (h : gF S S') {q c : Nat} (k : iK S' q c) : iK S q c := by
  have a : q < S.1 := by rw [← h.2.2.2]; exact k.1
  exact ⟨a, by rw [← (h.1.2 q a).1]; exact k.2⟩
theorem gF.tr {S S1 S2 : Cst} (h : gF S S1) (g : gF S1 S2) : gF S S2 := ⟨h.1.tr g.1, fun q a b k => (g.2.1 q (Nat.lt_of_lt_of_le a h.1.1.1) (by rw [(h.1.2 q a).1]; exact b) k).trans (h.2.1 q a b k), gL.tr h.1 h.2.2.1 g.2.2.1, g.2.2.2.trans h.2.2.2⟩
section
variable {E E0 : Nat → Prop} {x : Nat} {S S1 : Cst} {T T1 : Nat → List Nat} {F F1 : List Nat} {col c1 : Nat → Nat}
theorem y_pull (h : Sst E x S T F col S1 T1 F1 c1) {P : Nat} (e : ¬ E P) (o : own x P) (n : P ≠ x) : p_Y5_pull S1 P ∧ (T1 P = [] → f_Y5_pull S1 P = (none, S1)) ∧ ∀ l q, T1 P = l ++ [q] → ∃ S2, f_Y5_pull S1 P = (some q, S2) ∧ Sst E x S T F col S2 (tU T1 P l) (q :: F1) c1 ∧ gF S1 S2 := by
  have k := own.k h o n
  have w4 := h.ci.wf.w4 k
  have w := h.ci.tp P e k
  have h9 : (Int32.ofNat 9).toInt = 9 := by decide
  refine ⟨?_, fun z => ?_, fun l q hT => ?_⟩
  · unfold p_Y5_pull
    simp only [q_Y5_pull_20, gi_si, gr_si, kd_si, ln_si, n1_si, n2_si, gi_sr, gr_sr, kd_sr, ln_sr, n1_sr, n2_sr, gi_sf, gr_sf, kd_sf, ln_sf, n1_sf, n2_sf, ik_si, ik_sr, ik_sf, ir_si, ir_sr, ir_sf, ir_so, Option.getD_some, and_self, if_true, true_and, and_true, w4.2.1, w4.1.2]
    refine iteI (fun _ => trivial) (fun g => ⟨w4.1.1, iteI (fun _ => ?_) (fun _ => trivial)⟩)
    have g := mt iLt.mpr g
    rw [i1] at g
    have e1 := iSub (x := giC S1 P 1) (y := 1) (by rw [i1]; omega) (by rw [i1]; omega)
    rw [i1] at e1
    have v : vp_in (giC S1 P 1 - 1) 9 := vIn (by omega) (by omega)
    exact ⟨w4.1.1, v, w4.1.1, v⟩
  · rw [z] at w
    unfold f_Y5_pull b_Y5_pull_20
    rw [if_pos (iLt.mpr (by rw [i1, w.1]; decide))]
  · rw [hT, List.length_append] at w
    simp only [List.length_singleton] at w
    have e1 := iSub (x := giC S1 P 1) (y := 1) (by rw [i1]; omega) (by rw [i1]; omega)
    rw [i1] at e1
    have e2 := iNat (x := giC S1 P 1 - 1) (by omega)
    have e3 : (giC S1 P 1 - 1).toNatClampNeg = l.length := by omega
    have e4 : grC S1 (P + 1) l.length = some q := by
      rw [w.2.2 l.length (by omega)]
      congr 1
      rw [List.getD_eq_getElem?_getD, List.getElem?_append_right (Nat.le_refl _), Nat.sub_self]
      rfl
    refine ⟨_, ?_, h.pull e o n hT (v := giC S1 P 1 - 1) (by omega), ?_⟩
    · unfold f_Y5_pull
      rw [if_neg (fun z => by have := iLt.mp z; rw [i1] at this; omega), w4.2.1, Option.getD_some, w4.1.2, if_pos (iLe.mpr (by rw [h9]; omega))]
      simp only [gi_si, gr_si, kd_si, ln_si, n1_si, n2_si, gi_sr, gr_sr, kd_sr, ln_sr, n1_sr, n2_sr, gi_sf, gr_sf, kd_sf, ln_sf, n1_sf, n2_sf, ik_si, ik_sr, ik_sf, ir_si, ir_sr, ir_sf, ir_so, Option.getD_some, and_self, if_true, true_and, and_true, w4.2.1, e3, e4]
    · refine ⟨((eK.si S1 P 1 _).tr (eK.sr _ _ _ _)).n, fun z _ nz j => ?_, gL.tr (eK.si S1 P 1 _).n (gL.si S1 P 1 _) (gL.sr _ _ _ (by rw [kd_si, w4.1.1.2]; decide)), rfl⟩
      rw [gi_sr, gi_si, if_neg (fun y => nz (by rw [y.1]; exact k.2))]
theorem y_put {q : Nat} (h : Sst E x S T F col S1 T1 (q :: F1) c1) {P : Nat} (e : ¬ E P) (o : own x P) (n : P ≠ x) (hl : (T1 P).length < 9) : p_Y5_put S1 P (some q) ∧ ∃ S2, f_Y5_put S1 P (some q) = (0, S2) ∧ Sst E x S T F col S2 (tU T1 P (T1 P ++ [q])) F1 c1 ∧ gF S1 S2 ∧ (∀ Q i, Q ≠ P + 1 → kdC S1 Q = 23 → grC S2 Q i = grC S1 Q i) ∧ ∀ Q i, kdC S1 Q = 4 → Q ≠ P → giC S2 Q i = giC S1 Q i := by
  have k := own.k h o n
  have w4 := h.ci.wf.w4 k
  have w := h.ci.tp P e k
  have h9 : (Int32.ofNat 9).toInt = 9 := by decide
  have kq := (h.ci.tf.2 q (List.mem_cons_self ..)).1
  have e1 := iAdd (x := giC S1 P 1) (y := 1) (by rw [i1]; omega) (by rw [i1]; omega)
  rw [i1] at e1
  have e2 := iNat (x := giC S1 P 1) (by omega)
  have e3 : (giC S1 P 1).toNatClampNeg = (T1 P).length := by omega
  refine ⟨?_, _, ?_, h.put e o n hl (v := giC S1 P 1 + 1) (by omega), ?_, ?_, ?_⟩
  · unfold p_Y5_put
    simp only [q_Y5_put_36, gi_si, gr_si, kd_si, ln_si, n1_si, n2_si, gi_sr, gr_sr, kd_sr, ln_sr, n1_sr, n2_sr, gi_sf, gr_sf, kd_sf, ln_sf, n1_sf, n2_sf, ik_si, ik_sr, ik_sf, ir_si, ir_sr, ir_sf, ir_so, Option.getD_some, and_self, if_true, true_and, and_true, w4.2.1, w4.1.2, reduceCtorEq, if_false]
    exact ⟨w4.1.1, iteI (fun _ => trivial) (fun _ => ⟨w4.1.1, kq, vIn (by omega) (by omega)⟩)⟩
  · unfold f_Y5_put b_Y5_put_36
    rw [if_neg (by simp), w4.2.1, Option.getD_some, w4.1.2, if_neg (fun z => by have := iLe.mp z; rw [h9] at this; omega)]
    simp only [gi_si, gr_si, kd_si, ln_si, n1_si, n2_si, gi_sr, gr_sr, kd_sr, ln_sr, n1_sr, n2_sr, gi_sf, gr_sf, kd_sf, ln_sf, n1_sf, n2_sf, ik_si, ik_sr, ik_sf, ir_si, ir_sr, ir_sf, ir_so, Option.getD_some, and_self, if_true, true_and, and_true, e3]
  · refine ⟨((eK.sr S1 _ _ _).tr (eK.si _ _ _ _)).n, fun z _ nz j => ?_, gL.tr (eK.sr S1 _ _ _).n (gL.sr S1 _ _ (by rw [w4.1.1.2]; decide)) (gL.si _ _ _ _), rfl⟩
    rw [gi_si, if_neg (fun y => nz (by rw [y.1]; exact k.2)), gi_sr]
  · intro Q i nQ kQ
    rw [gr_si, gr_sr, if_neg (fun y => nQ y.1)]
  · intro Q i _ nQ
    rw [gi_si, if_neg (fun y => nQ y.1), gi_sr]
theorem y_dropTop (h : Sst E x S T F col S1 T1 F1 c1) {P : Nat} (e : ¬ E P) (o : own x P) (n : P ≠ x) : p_Y0_dropTop S1 x P ∧ ∃ S2 T2, f_Y0_dropTop S1 x P = (0, S2) ∧ Sst E x S T F col S2 T2 F1 c1 ∧ gF S1 S2 ∧ T2 P = (T1 P).dropLast ∧ ∀ c, c ≠ P → c ≠ x → T2 c = T1 c := by
  obtain ⟨p1, p2, p3⟩ := y_pull h e o n
  unfold p_Y0_dropTop f_Y0_dropTop
  rcases List.eq_nil_or_concat (T1 P) with z | ⟨l, q, z⟩
  · rw [p2 z]
    refine ⟨⟨p1, ?_⟩, S1, T1, ?_, h, gF.rf S1, by rw [z]; rfl, fun _ _ _ => rfl⟩
    · simp only [q_Y0_dropTop_22, q_Y0_dropTop_4a, if_true]
    · simp only [b_Y0_dropTop_22, b_Y0_dropTop_4a, if_true]
  · rw [List.concat_eq_append] at z
    obtain ⟨S2, f1, f2, f3⟩ := p3 l q z
    rw [f1]
    have kq := (f2.ci.tf.2 q (List.mem_cons_self ..)).1
    refine ⟨⟨p1, ?_⟩, _, _, ?_, f2.push, f3.tr ⟨((eK.sr S2 _ _ _).tr (eK.sr _ _ _ _)).n, fun z _ _ j => by rw [gi_sr, gi_sr], gL.tr (eK.sr S2 _ _ _).n (gL.sr S2 _ _ (by rw [kq.2]; decide)) (gL.sr _ _ _ (by rw [kd_sr, f2.k1.2]; decide)), rfl⟩, ?_, fun c a b => ?_⟩
    · simp only [q_Y0_dropTop_22, q_Y0_dropTop_4a, gi_si, gr_si, kd_si, ln_si, n1_si, n2_si, gi_sr, gr_sr, kd_sr, ln_sr, n1_sr, n2_sr, gi_sf, gr_sf, kd_sf, ln_sf, n1_sf, n2_sf, ik_si, ik_sr, ik_sf, ir_si, ir_sr, ir_sf, ir_so, Option.getD_some, and_self, if_true, true_and, and_true, reduceCtorEq, if_false]
      exact kq
    · simp only [b_Y0_dropTop_22, b_Y0_dropTop_4a, gi_si, gr_si, kd_si, ln_si, n1_si, n2_si, gi_sr, gr_sr, kd_sr, ln_sr, n1_sr, n2_sr, gi_sf, gr_sf, kd_sf, ln_sf, n1_sf, n2_sf, ik_si, ik_sr, ik_sf, ir_si, ir_sr, ir_sf, ir_so, Option.getD_some, and_self, if_true, true_and, and_true, reduceCtorEq, if_false]
    · rw [tU_ne _ _ n, tU_at, z, List.dropLast_concat]
    · rw [tU_ne _ _ b, tU_ne _ _ a]
/-- all of a pile's motions go to the spare ones -/
theorem release_lp {P : Nat} (n : P ≠ x) (e : ¬ E P) (o : own x P) : ∀ (m : Nat) (S1 : Cst) (T1 : Nat → List Nat) (v : Int32), Sst E x S T F col S1 T1 F1 c1 → v.toInt = (T1 P).length → (T1 P).length < m → lq_Y0_release_5 x P m S1 v ∧ ∃ S2 T2, lp_Y0_release_5 x P m S1 v = (0, S2) ∧ Sst E x S T F col S2 T2 F1 c1 ∧ gF S1 S2 ∧ T2 P = [] ∧ ∀ c, c ≠ P → c ≠ x → T2 c = T1 c := by
  intro m
  induction m with
  | zero => intro S1 T1 v _ _ g; omega
  | succ m ih =>
    intro S1 T1 v h hv g
    rw [lq_Y0_release_5, lp_Y0_release_5]
    unfold ps_Y0_release_5 st_Y0_release_5
    by_cases z : T1 P = []
    · have c : v ≤ 0 := iLe.mpr (by rw [i0, hv, z]; decide)
      rw [if_pos c, if_pos c]
      exact ⟨⟨trivial, trivial⟩, S1, T1, rfl, h, gF.rf S1, z, fun _ _ _ => rfl⟩
    · have lz : 0 < (T1 P).length := List.length_pos_iff.mpr z
      have c : ¬ v ≤ 0 := fun y => by have := iLe.mp y; rw [i0] at this; omega
      rw [if_neg c, if_neg c]
      obtain ⟨p1, S2, T2, f1, f2, f3, f4, f5⟩ := y_dropTop h e o n
      rw [f1]
      have l9 := (h.ci.tp P e (own.k h o n)).2.1
      have em : (-1 : Int32).toInt = -1 := by decide
      have e1 := iAdd (x := v) (y := -1) (by rw [em]; omega) (by rw [em]; omega)
      rw [em] at e1
      have l2 : (T2 P).length = (T1 P).length - 1 := by rw [f4, List.length_dropLast]
      obtain ⟨r1, S3, T3, r2, r3, r4, r5, r6⟩ := ih S2 T2 (v + -1) f2 (by omega) (by omega)
      unfold b_Y0_release_14a q_Y0_release_14a
      exact ⟨⟨⟨p1, trivial⟩, r1⟩, S3, T3, r2, r3, f3.tr r4, r5, fun c a b => (r6 c a b).trans (f5 c a b)⟩
theorem y_release (h : Sst E x S T F col S1 T1 F1 c1) {P : Nat} (e : ¬ E P) (o : own x P) (n : P ≠ x) : p_Y0_release S1 x P ∧ ∃ S2 T2, f_Y0_release S1 x P = (0, S2) ∧ Sst E x S T F col S2 T2 F1 c1 ∧ gF S1 S2 ∧ T2 P = [] ∧ ∀ c, c ≠ P → c ≠ x → T2 c = T1 c := by
  have w := h.ci.tp P e (own.k h o n)
  exact release_lp n e o 100000 S1 T1 _ h w.1 (by omega)
end
