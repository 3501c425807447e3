/-! ===== pourInto, takeFrom ===== -/
def xE (E : Nat → Prop) (P : Nat) : Nat → Prop := fun Z => E Z ∨ Z = P
section
variable {E E0 : Nat → Prop} {x : Nat} {S S1 : Cst} {T T1 : Nat → List Nat} {F F1 : List Nat} {col c1 : Nat → Nat}
/-- a pile's motions come afloat, the pile itself is not looked at for a while -/
theorem CI.xo (h : CI E S T F col) {P : Nat} (k : iK S P 4) : CI (xE E P) S (tU T P []) (T P ++ F) col := by
  have sub : ∀ c z, z ∈ tU T P [] c → z ∈ T c ∧ c ≠ P := fun c z m => by
    by_cases y : c = P
    · rw [y, tU_at] at m
      cases m
    · rw [tU_ne T _ y] at m
      exact ⟨m, y⟩
  refine ⟨h.wf, fun c g => ?_, fun c q m => h.tk c q (sub c q m).1, fun c d q a b => h.td c d q (sub c q a).1 (sub d q b).1, fun c => ?_, ⟨?_, fun q m => ?_⟩, fun Q e kQ => ?_, fun y ky => ?_, h.c0, h.c3, h.c2⟩
  · by_cases y : c = P
    · rw [y]
      exact k.1
    · rw [tU_ne T _ y] at g
      exact h.tz c g
  · by_cases y : c = P
    · rw [y, tU_at]
      exact List.nodup_nil
    · rw [tU_ne T _ y]
      exact h.tn c
  · exact List.nodup_append.mpr ⟨h.tn P, h.tf.1, fun a m b m' z => (h.tf.2 b m').2 P (by rw [← z]; exact m)⟩
  · rcases List.mem_append.mp m with m | m
    · exact ⟨(h.tk P q m).1, fun c y => (sub c q y).2 (h.td c P q (sub c q y).1 m)⟩
    · exact ⟨(h.tf.2 q m).1, fun c y => (h.tf.2 q m).2 c (sub c q y).1⟩
  · have nP : Q ≠ P := fun z => e (Or.inr z)
    rw [tU_ne T _ nP]
    exact h.tp Q (fun z => e (Or.inl z)) kQ
  · have nP : y ≠ P := fun z => by have := ky.2; rw [z, k.2] at this; omega
    rw [tU_ne T _ nP]
    exact h.tc y ky
/-- one of its slots made empty -/
theorem CI.xs {P : Nat} (h : CI (xE E P) S T F col) (k : iK S P 4) (i : Nat) : CI (xE E P) (srC S (P + 1) i none) T F col := by
  have k1 := (h.wf.w4 k).1.1.2
  refine ⟨wf_sr h.wf ?_, h.tz, fun c q m => ⟨ik_sr.mpr (h.tk c q m).1, (h.tk c q m).2⟩, h.td, h.tn, ⟨h.tf.1, fun q m => ⟨ik_sr.mpr (h.tf.2 q m).1, (h.tf.2 q m).2⟩⟩, fun Q e kQ => ?_, fun y ky => ?_, fun y ky => h.c0 y (ik_sr.mp ky), fun q kq => h.c3 q (ik_sr.mp kq), fun l kl => ?_⟩
  · refine ⟨fun z y => (by cases y), ?_, ?_, ?_, ?_, ?_, ?_, ?_, ?_, fun _ => Or.inl rfl, ?_⟩ <;> (rw [k1]; intro z; omega)
  · have nP : Q ≠ P := fun z => e (Or.inr z)
    have w := h.tp Q e (ik_sr.mp kQ)
    rw [gi_sr]
    refine ⟨w.1, w.2.1, fun i hi => ?_⟩
    rw [gr_sr, if_neg (fun z => nP (by omega))]
    exact w.2.2 i hi
  · have ky := ik_sr.mp ky
    rw [gr_sr, if_neg (fun z => by have := ky.2; rw [z.1, k1] at this; omega)]
    exact (h.tc y ky).cg _ _ (fun z m => by rw [gr_sr, if_neg (fun w => by have := (h.tk y z m).1.2; rw [w.1, k1] at this; omega)])
  · have kl := ik_sr.mp kl
    rw [gr_sr, if_neg (fun z => by have := kl.2; rw [z.1, k1] at this; omega)]
    exact h.c2 l kl
/-- it is empty: looked at again -/
theorem CI.xc {P : Nat} {v : Int32} (h : CI (xE E P) S T F col) (k : iK S P 4) (hT : T P = []) (hv : v.toInt = 0) : CI E (siC S P 1 v) T F col := by
  refine ⟨wf_si h.wf ?_, h.tz, fun c q m => ⟨ik_si.mpr (h.tk c q m).1, (h.tk c q m).2⟩, h.td, h.tn, ⟨h.tf.1, fun q m => ⟨ik_si.mpr (h.tf.2 q m).1, (h.tf.2 q m).2⟩⟩, fun Q e kQ => ?_, fun y ky => ?_, fun y ky => h.c0 y (ik_si.mp ky), fun q kq => h.c3 q (ik_si.mp kq), fun l kl => ?_⟩
  · rw [k.2]
    exact ⟨fun z => by omega, fun z => by omega, fun z => by omega, fun _ _ => ⟨by omega, by omega⟩, fun z => by omega, fun z => by omega⟩
  · have kQ := ik_si.mp kQ
    by_cases y : Q = P
    · rw [y, gi_si, if_pos ⟨rfl, rfl⟩, hT]
      exact ⟨hv, by simp, fun i hi => by simp at hi⟩
    · have w := h.tp Q (fun z => z.elim e y) kQ
      rw [gi_si, if_neg (fun z => y z.1)]
      simp only [gr_si]
      exact w
  · rw [gr_si]
    exact (h.tc y (ik_si.mp ky)).cg _ _ (fun z _ => gr_si ..)
  · rw [gr_si]
    exact h.c2 l (ik_si.mp kl)
theorem Sst.xo (h : Sst E x S T F col S1 T1 F1 c1) {P : Nat} (o : own x P) (n : P ≠ x) : Sst (xE E P) x S T F col S1 (tU T1 P []) (T1 P ++ F1) c1 := by
  have k := own.k h o n
  have hc := h.oc o
  refine h.u (h.ci.xo k) (eK.rf S1) (fun _ _ => rfl) (fun c m => tU_ne T1 _ (fun z => m (by rw [z]; exact hc))) (fun l _ => ⟨rfl, rfl⟩) ?_ (fun q m => ?_)
  · have := mT_U (T := T1) (l := []) o
    simp at this ⊢
    omega
  · rcases List.mem_append.mp m with m | m
    · rw [(h.ci.tk P q m).2, hc]
    · exact h.fc q m
theorem own.cc (h : Sst E x S T F col S1 T1 F1 c1) {P : Nat} (o : own x P) (n : P ≠ x) : c1 (P + 1) = x := by
  rcases o with o | o | o | ⟨p, hp, o⟩
  · exact absurd o n
  · rw [o]
    exact h.cx 2 (by omega)
  · rw [o]
    exact h.cx 5 (by omega)
  · rw [o, show x + 14 + 3 * p + 1 = x + (15 + 3 * p) by omega]
    exact h.cx (15 + 3 * p) (by omega)
theorem Sst.xs {P : Nat} (h : Sst (xE E P) x S T F col S1 T1 F1 c1) (o : own x P) (n : P ≠ x) (i : Nat) : Sst (xE E P) x S T F col (srC S1 (P + 1) i none) T1 F1 c1 := by
  have k := own.k h o n
  have k1 := (h.ci.wf.w4 k).1.1.2
  refine h.u (h.ci.xs k i) (eK.sr ..) (fun q m => ce_sr _ _ (fun z => m (by rw [z]; exact o.cc h n))) (fun _ _ => rfl) (fun l kl => ?_) rfl h.fc
  rw [gr_sr, if_neg (fun z => by have := kl.2; rw [z.1, k1] at this; omega), gi_sr]
  exact ⟨rfl, rfl⟩
theorem Sst.xc {P : Nat} {v : Int32} (h : Sst (xE E P) x S T F col S1 T1 F1 c1) (o : own x P) (n : P ≠ x) (hT : T1 P = []) (hv : v.toInt = 0) : Sst E x S T F col (siC S1 P 1 v) T1 F1 c1 := by
  have k := own.k h o n
  refine h.u (h.ci.xc k hT hv) (eK.si ..) (fun q m => ce_si _ _ (fun z => m (by rw [z]; exact h.oc o))) (fun _ _ => rfl) (fun l kl => ?_) rfl h.fc
  rw [gr_si, gi_si, if_neg (fun z => by have := kl.2; rw [z.1, k.2] at this; omega)]
  exact ⟨rfl, rfl⟩
theorem pour_lp {P Q : Nat} (hE : ∀ c, ¬ E c) (o : own x P) (n : P ≠ x) (oQ : own x Q) (nQ : Q ≠ x) (PQ : P ≠ Q) : ∀ (m : Nat) (r : List Nat) (S1 : Cst) (T1 : Nat → List Nat) (v : Int32), Sst (xE E P) x S T F col S1 T1 (r ++ F1) c1 → T1 P = [] → 0 ≤ v.toInt → (giC S1 P 1).toInt = v.toInt + r.length → v.toInt + r.length ≤ 9 → (∀ i, i < r.length → grC S1 (P + 1) (v.toNatClampNeg + i) = some (r.getD i 0)) → (T1 Q).length + r.length ≤ 9 → r.length < m → lq_Y5_pourInto_2 P Q m S1 v ∧ ∃ S2 T2, lp_Y5_pourInto_2 P Q m S1 v = (0, S2) ∧ Sst E x S T F col S2 T2 F1 c1 ∧ gF S1 S2 ∧ T2 P = [] ∧ T2 Q = T1 Q ++ r ∧ ∀ c, c ≠ P → c ≠ Q → T2 c = T1 c := by
  intro m
  induction m with
  | zero => intro r S1 T1 v h hT h0 hs h9 hr hQ g; omega
  | succ m ih =>
    intro r S1 T1 v h hT h0 hs h9 hr hQ g
    have k := own.k h o n
    have kQ := own.k h oQ nQ
    have w4 := h.ci.wf.w4 k
    have h9' : (Int32.ofNat 9).toInt = 9 := by decide
    rw [lq_Y5_pourInto_2, lp_Y5_pourInto_2]
    unfold ps_Y5_pourInto_2 st_Y5_pourInto_2
    rw [w4.2.1, Option.getD_some, w4.1.2]
    cases r with
    | nil =>
      have c : giC S1 P 1 ≤ v := iLe.mpr (by rw [hs]; simp)
      rw [if_pos c, if_pos c]
      unfold b_Y5_pourInto_42 q_Y5_pourInto_42
      refine ⟨⟨trivial, trivial⟩, _, T1, rfl, h.xc o n hT i0, ⟨(eK.si ..).n, fun q _ nq j => ?_, gL.si _ _ _ _, rfl⟩, hT, by simp, fun _ _ _ => rfl⟩
      rw [gi_si, if_neg (fun z => nq (by rw [z.1]; exact k.2))]
    | cons q r =>
      rw [List.length_cons] at hs h9 hQ g
      have c : ¬ giC S1 P 1 ≤ v := fun z => by have := iLe.mp z; omega
      have c9 : ¬ Int32.ofNat 9 ≤ v := fun z => by have := iLe.mp z; omega
      rw [if_neg c, if_neg c, if_neg c9, if_neg c9]
      have e1 : grC S1 (P + 1) v.toNatClampNeg = some q := hr 0 (by simp)
      rw [e1]
      have nE : ¬ xE E P Q := fun z => z.elim (hE Q) (fun y => PQ y.symm)
      obtain ⟨p1, S2, f1, f2, f3, f4, f5⟩ := y_put h nE oQ nQ (by omega)
      rw [f1]
      have k2 := own.k f2 o n
      have w42 := f2.ci.wf.w4 k2
      have e := iAdd (x := v) (y := 1) (by rw [i1]; omega) (by rw [i1]; omega)
      rw [i1] at e
      have hv := iNat h0
      have hv' := iNat (x := v + 1) (by omega)
      have vin : vp_in v 9 := vIn h0 (by omega)
      unfold b_Y5_pourInto_29a q_Y5_pourInto_29a
      simp only [w42.2.1, Option.getD_some, w42.1.2]
      have f6 := f2.xs o n v.toNatClampNeg
      obtain ⟨r1, S3, T3, r2, r3, r4, r5, r6, r7⟩ := ih r (srC S2 (P + 1) v.toNatClampNeg none) _ (v + 1) f6 (by rw [tU_ne _ _ PQ]; exact hT) (by omega) (by rw [gi_sr, f5 P 1 k.2 PQ, hs, e]; omega) (by omega) (fun i hi => by
        rw [gr_sr, if_neg (fun z => by have := z.2; omega), f4 (P + 1) _ (by omega) w4.1.1.2]
        have := hr (i + 1) (by simp; omega)
        rw [show (v + 1).toNatClampNeg + i = v.toNatClampNeg + (i + 1) by omega, this]
        rfl) (by rw [tU_at, List.length_append, List.length_singleton]; omega) (by omega)
      refine ⟨⟨⟨ir_so.mpr w4.1.1, ir_so.mpr w4.1.1, vin, p1, ir_so.mpr w42.1.1, vin, trivial⟩, r1⟩, S3, T3, r2, r3, f3.tr (gF.tr ⟨(eK.sr ..).n, fun q _ _ j => by rw [gi_sr], gL.sr _ _ _ (by rw [(f3.1.2 _ w4.1.1.1).1, w4.1.1.2]; decide), rfl⟩ r4), r5, ?_, fun c a b => ?_⟩
      · rw [r6, tU_at, List.append_assoc]
        rfl
      · rw [r7 c a b, tU_ne _ _ b]
theorem y_pour (hE : ∀ c, ¬ E c) (h : Sst E x S T F col S1 T1 F1 c1) {P Q : Nat} (o : own x P) (n : P ≠ x) (oQ : own x Q) (nQ : Q ≠ x) (PQ : P ≠ Q) (hl : (T1 Q).length + (T1 P).length ≤ 9) : p_Y5_pourInto S1 P Q ∧ ∃ S2 T2, f_Y5_pourInto S1 P Q = (0, S2) ∧ Sst E x S T F col S2 T2 F1 c1 ∧ gF S1 S2 ∧ T2 P = [] ∧ T2 Q = T1 Q ++ T1 P ∧ ∀ c, c ≠ P → c ≠ Q → T2 c = T1 c := by
  have w := h.ci.tp P (hE P) (own.k h o n)
  have z0 : (0 : Int32).toNatClampNeg = 0 := rfl
  have hq : tU T1 P [] Q = T1 Q := tU_ne _ _ (fun z => PQ z.symm)
  obtain ⟨r1, S2, T2, r2, r3, r4, r5, r6, r7⟩ := pour_lp hE o n oQ nQ PQ 100000 (T1 P) S1 (tU T1 P []) 0 (h.xo o n) (tU_at ..) (by rw [i0]; omega) (by rw [i0, w.1]; omega) (by rw [i0]; omega) (fun i hi => by rw [z0, Nat.zero_add]; exact w.2.2 i hi) (by rw [hq]; exact hl) (by omega)
  exact ⟨r1, S2, T2, r2, r3, r4, r5, by rw [r6, hq], fun c a b => by rw [r7 c a b, tU_ne _ _ a]⟩
theorem y_takeFrom (hE : ∀ c, ¬ E c) (h : Sst E x S T F col S1 T1 F1 c1) {d d2 : Nat} (o : pl x d) (o2 : pl x d2) (n : d ≠ d2) (hT : T1 (d + 1) = []) : p_Y6_takeFrom S1 d d2 ∧ ∃ S2 T2, f_Y6_takeFrom S1 d d2 = (0, S2) ∧ Sst E x S T F col S2 T2 F1 c1 ∧ gX (fun q => q = d ∨ q = d2) S1 S2 ∧ giC S2 d 0 = giC S1 d2 0 ∧ giC S2 d2 0 = 0 ∧ T2 (d + 1) = T1 (d2 + 1) ∧ T2 (d2 + 1) = [] ∧ ∀ c, c ≠ d + 1 → c ≠ d2 + 1 → T2 c = T1 c := by
  have k := (o.k h).1
  have k2 := (o2.k h).1
  have w5 := h.ci.wf.w5 k
  have w52 := h.ci.wf.w5 k2
  have l9 := (h.ci.tp (d2 + 1) (hE _) w52.1).2.1
  have g := h.sort o (giC S1 d2 0)
  obtain ⟨p1, S2, T2, f1, f2, f3, f4, f5, f6⟩ := y_pour hE g o2.o.1 o2.o.2.1 o.o.1 o.o.2.1 (by omega) (by rw [hT]; simp; exact l9)
  unfold p_Y6_takeFrom f_Y6_takeFrom
  simp only [q_Y6_takeFrom_19a, b_Y6_takeFrom_19a, gr_si, w5.2, w52.2, Option.getD_some, ir_so, ik_si, f1]
  have kd := (o.k g).1
  refine ⟨⟨w52.1, w5.1, p1, trivial⟩, _, T2, rfl, f2.sort o2 0, ?_, ?_, ?_, ?_, f4, fun c a b => f6 c b a⟩
  · exact ((gX.si S1 d 0 _).mo (fun q z => Or.inl z)).tr (f3.x.tr ((gX.si S2 d2 0 0).mo (fun q z => Or.inr z)))
  · rw [gi_si, if_neg (fun z => n z.1), f3.2.1 d kd.1 (by rw [kd.2]; decide), gi_si, if_pos ⟨rfl, rfl⟩]
  · rw [gi_si, if_pos ⟨rfl, rfl⟩]
  · rw [f5, hT]
    rfl
end
