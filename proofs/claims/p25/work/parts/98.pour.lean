section
/-! ===== pourInto, takeFrom ===== -/
def xE (E : Nat → Prop) (P : Nat) : Nat → Prop := fun Z => E Z ∨ Z = P
section
variable {E E0 : Nat → Prop} {x : Nat} {S S1 : Cst} {T T1 : Nat → List Nat} {F F1 : List Nat} {col c1 : Nat → Nat}
/-- a pile's motions come afloat, the pile itself is not looked at for a while -/
theorem CI.xo (h : CI E S T F col) {P : Nat} (k : iK S P 4) : CI (xE E P) S (tU T P []) (T P ++ F) col := by
  have sub : ∀ c z, z ∈ tU T P [] c → z ∈ T c ∧ c ≠ P := fun c z m => by
    by_cases y : c = P
    · rw [y, tU_at] at m
      cases m
    · rw [tU_ne T _ y] at m
      exact ⟨m, y⟩
  refine ⟨h.wf, fun c g => ?_, fun c q m => h.tk c q (sub c q m).1, fun c d q a b => h.td c d q (sub c q a).1 (sub d q b).1, fun c => ?_, ⟨?_, fun q m => ?_⟩, fun Q e kQ => ?_, fun y ky => ?_, h.c0, h.c3, h.c2⟩
  · by_cases y : c = P
    · rw [y]
      exact k.1
    · rw [tU_ne T _ y] at g
      exact h.tz c g
  · by_cases y : c = P
    · rw [y, tU_at]
      exact List.nodup_nil
    · rw [tU_ne T _ y]
      exact h.tn c
  · exact List.nodup_append.mpr ⟨h.tn P, h.tf.1, fun a m b m' z => (h.tf.2 b m').2 P (by rw [← z]; exact m)⟩
  · rcases List.mem_append.mp m with m | m
    · exact ⟨(h.tk P q m).1, fun c y => (sub c q y).2 (h.td c P q (sub c q y).1 m)⟩
    · exact ⟨(h.tf.2 q m).1, fun c y => (h.tf.2 q m).2 c (sub c q y).1⟩
  · have nP : Q ≠ P := fun z => e (Or.inr z)
    rw [tU_ne T _ nP]
    exact h.tp Q (fun z => e (Or.inl z)) kQ
  · have nP : y ≠ P := fun z => by have := ky.2; rw [z, k.2] at this; omega
    rw [tU_ne T _ nP]
    exact h.tc y ky
/-- one of its slots made empty -/
theorem CI.xs {P : Nat} (h : CI (xE E P) S T F col) (k : iK S P 4) (i : Nat) : CI (xE E P) (srC S (P + 1) i none) T F col := by
  have k1 := (h.wf.w4 k).1.1.2
  refine ⟨wf_sr h.wf ?_, h.tz, fun c q m => ⟨ik_sr.mpr (h.tk c q m).1, (h.tk c q m).2⟩, h.td, h.tn, ⟨h.tf.1, fun q m => ⟨ik_sr.mpr (h.tf.2 q m).1, (h.tf.2 q m).2⟩⟩, fun Q e kQ => ?_, fun y ky => ?_, fun y ky => h.c0 y (ik_sr.mp ky), fun q kq => h.c3 q (ik_sr.mp kq), fun l kl => ?_⟩
  · refine ⟨fun z y => (by cases y), ?_, ?_, ?_, ?_, ?_, ?_, ?_, ?_, fun _ => Or.inl rfl, ?_⟩ <;> (rw [k1]; intro z; omega)
  · have nP : Q ≠ P := fun z => e (Or.inr z)
    have w := h.tp Q e (ik_sr.mp kQ)
    rw [gi_sr]
    refine ⟨w.1, w.2.1, fun i hi => ?_⟩
    rw [gr_sr, if_neg (fun z => nP (by omega))]
    exact w.2.2 i hi
  · have ky := ik_sr.mp ky
    rw [gr_sr, if_neg (fun z => by have := ky.2; rw [z.1, k1] at this; omega)]
    exact (h.tc y ky).cg _ _ (fun z m => by rw [gr_sr, if_neg (fun w => by have := (h.tk y z m).1.2; rw [w.1, k1] at this; omega)])
  · have kl := ik_sr.mp kl
    rw [gr_sr, if_neg (fun z => by have := kl.2; rw [z.1, k1] at this; omega)]
    exact h.c2 l kl
/-- it is empty: looked at again -/
theorem CI.xc {P : Nat} {v : Int32} (h : CI (xE E P) S T F col) (k : iK S P 4) (hT : T P = []) (hv : v.toInt = 0) : CI E (siC S P 1 v) T F col := by
  refine ⟨wf_si h.wf ?_, h.tz, fun c q m => ⟨ik_si.mpr (h.tk c q m).1, (h.tk c q m).2⟩, h.td, h.tn, ⟨h.tf.1, fun q m => ⟨ik_si.mpr (h.tf.2 q m).1, (h.tf.2 q m).2⟩⟩, fun Q e kQ => ?_, fun y ky => ?_, fun y ky => h.c0 y (ik_si.mp ky), fun q kq => h.c3 q (ik_si.mp kq), fun l kl => ?_⟩
  · rw [k.2]
    exact ⟨fun z => by omega, fun z => by omega, fun z => by omega, fun _ _ => ⟨by omega, by omega⟩, fun z => by omega, fun z => by omega⟩
  · have kQ := ik_si.mp kQ
    by_cases y : Q = P
    · rw [y, gi_si, if_pos ⟨rfl, rfl⟩, hT]
      exact ⟨hv, by simp, fun i hi => by simp at hi⟩
    · have w := h.tp Q (fun z => z.elim e y) kQ
      rw [gi_si, if_neg (fun z => y z.1)]
      simp only [gr_si]
      exact w
  · rw [gr_si]
    exact (h.tc y (ik_si.mp ky)).cg _ _ (fun z _ => gr_si ..)
  · rw [gr_si]
    exact h.c2 l (ik_si.mp kl)
theorem Sst.xo (h : Sst E x S T F col S1 T1 F1 c1) {P : Nat} (o : own x P) (n : P ≠ x) : Sst (xE E P) x S T F col S1 (tU T1 P []) (T1 P ++ F1) c1 := by
  have k := own.k h o n
  have hc := h.oc o
  refine h.u (h.ci.xo k) (eK.rf S1) (fun _ _ => rfl) (fun c m => tU_ne T1 _ (fun z => m (by rw [z]; exact hc))) (fun l _ => ⟨rfl, rfl⟩) ?_ (fun q m => ?_)
  · have := mT_U (T := T1) (l := []) o
    simp at this ⊢
    omega
  · rcases List.mem_append.mp m with m | m
    · rw [(h.ci.tk P q m).2, hc]
    · exact h.fc q m
theorem own.cc (h : Sst E x S T F col S1 T1 F1 c1) {P : Nat} (o : own x P) (n : P ≠ x) : c1 (P + 1) = x := by
  rcases o with o | o | o | ⟨p, hp, o⟩
  · exact absurd o n
  · rw [o]
    exact h.cx 2 (by omega)
  · rw [o]
    exact h.cx 5 (by omega)
  · rw [o, show x + 14 + 3 * p + 1 = x + (15 + 3 * p) by omega]
    exact h.cx (15 + 3 * p) (by omega)
theorem Sst.xs {P : Nat} (h : Sst (xE E P) x S T F col S1 T1 F1 c1) (o : own x P) (n : P ≠ x) (i : Nat) : Sst (xE E P) x S T F col (srC S1 (P + 1) i none) T1 F1 c1 := by
  have k := own.k h o n
  have k1 := (h.ci.wf.w4 k).1.1.2
  refine h.u (h.ci.xs k i) (eK.sr ..) (fun q m => ce_sr _ _ (fun z => m (by rw [z]; exact o.cc h n))) (fun _ _ => rfl) (fun l kl => ?_) rfl h.fc
  rw [gr_sr, if_neg (fun z => by have := kl.2; rw [z.1, k1] at this; omega), gi_sr]
  exact ⟨rfl, rfl⟩
theorem Sst.xc {P : Nat} {v : Int32} (h : Sst (xE E P) x S T F col S1 T1 F1 c1) (o : own x P) (n : P ≠ x) (hT : T1 P = []) (hv : v.toInt = 0) : Sst E x S T F col (siC S1 P 1 v) T1 F1 c1 := by
  have k := own.k h o n
  refine h.u (h.ci.xc k hT hv) (eK.si ..) (fun q m => ce_si _ _ (fun z => m (by rw [z]; exact h.oc o))) (fun _ _ => rfl) (fun l kl => ?_) rfl h.fc
  rw [gr_si, gi_si, if_neg (fun z => by have := kl.2; rw [z.1, k.2] at this; omega)]
  exact ⟨rfl, rfl⟩
theorem pour_lp {P Q : Nat} (hE : ∀ c, ¬ E c) (o : own x P) (n : P ≠ x) (oQ : own x Q) (nQ : Q ≠ x) (PQ : P ≠ Q) : ∀ (m : Nat) (r : List Nat) (S1 : Cst) (T1 : Nat → List Nat) (v : Int32), Sst (xE E P) x S T F col S1 T1 (r ++ F1) c1 → T1 P = [] → 0 ≤ v.toInt → (giC S1 P 1).toInt = v.toInt + r.length → v.toInt + r.length ≤ 9 → (∀ i, i < r.length → grC S1 (P + 1) (v.toNatClampNeg + i) = some (r.getD i 0)) → (T1 Q).length + r.length ≤ 9 → r.length < m → lq_Y5_pourInto_2 P Q m S1 v ∧ ∃ S2 T2, lp_Y5_pourInto_2 P Q m S1 v = (0, S2) ∧ Sst E x S T F col S2 T2 F1 c1 ∧ gF S1 S2 ∧ T2 P = [] ∧ T2 Q = T1 Q ++ r ∧ ∀ c, c ≠ P → c ≠ Q → T2 c = T1 c := by
  intro m
  induction m with
  | zero => intro r S1 T1 v h hT h0 hs h9 hr hQ g; omega
  | succ m ih =>
    intro r S1 T1 v h hT h0 hs h9 hr hQ g
    have k := own.k h o n
    have kQ := own.k h oQ nQ
    have w4 := h.ci.wf.w4 k
    have h9' : (Int32.ofNat 9).toInt = 9 := by decide
    rw [lq_Y5_pourInto_2, lp_Y5_pourInto_2]
    unfold ps_Y5_pourInto_2 st_Y5_pourInto_2
    rw [w4.2.1, Option.getD_some, w4.1.2]
    cases r with
    | nil =>
      have c : giC S1 P 1 ≤ v := iLe.mpr (by rw [hs]; simp)
      rw [if_pos c, if_pos c]
      unfold b_Y5_pourInto_42 q_Y5_pourInto_42
      refine ⟨⟨trivial, trivial⟩, _, T1, rfl, h.xc o n hT i0, ⟨(eK.si ..).n, fun q _ nq j => ?_, gL.si _ _ _ _, rfl⟩, hT, by simp, fun _ _ _ => rfl⟩
      rw [gi_si, if_neg (fun z => nq (by rw [z.1]; exact k.2))]
    | cons q r =>
      rw [List.length_cons] at hs h9 hQ g
      have c : ¬ giC S1 P 1 ≤ v := fun z => by have := iLe.mp z; omega
      have c9 : ¬ Int32.ofNat 9 ≤ v := fun z => by have := iLe.mp z; omega
      rw [if_neg c, if_neg c, if_neg c9, if_neg c9]
      have e1 : grC S1 (P + 1) v.toNatClampNeg = some q := hr 0 (by simp)
      rw [e1]
      have nE : ¬ xE E P Q := fun z => z.elim (hE Q) (fun y => PQ y.symm)
      obtain ⟨p1, S2, f1, f2, f3, f4, f5⟩ := y_put h nE oQ nQ (by omega)
      rw [f1]
      have k2 := own.k f2 o n
      have w42 := f2.ci.wf.w4 k2
      have e := iAdd (x := v) (y := 1) (by rw [i1]; omega) (by rw [i1]; omega)
      rw [i1] at e
      have hv := iNat h0
      have hv' := iNat (x := v + 1) (by omega)
      have vin : vp_in v 9 := vIn h0 (by omega)
      unfold b_Y5_pourInto_29a q_Y5_pourInto_29a
      simp only [w42.2.1, Option.getD_some, w42.1.2]
      have f6 := f2.xs o n v.toNatClampNeg
      obtain ⟨r1, S3, T3, r2, r3, r4, r5, r6, r7⟩ := ih r (srC S2 (P + 1) v.toNatClampNeg none) _ (v + 1) f6 (by rw [tU_ne _ _ PQ]; exact hT) (by omega) (by rw [gi_sr, f5 P 1 k.2 PQ, hs, e]; omega) (by omega) (fun i hi => by
        rw [gr_sr, if_neg (fun z => by have := z.2; omega), f4 (P + 1) _ (by omega) w4.1.1.2]
        have := hr (i + 1) (by simp; omega)
        rw [show (v + 1).toNatClampNeg + i = v.toNatClampNeg + (i + 1) by omega, this]
        rfl) (by rw [tU_at, List.length_append, List.length_singleton]; omega) (by omega)
      refine ⟨⟨⟨ir_so.mpr w4.1.1, ir_so.mpr w4.1.1, vin, p1, ir_so.mpr w42.1.1, vin, trivial⟩, r1⟩, S3, T3, r2, r3, f3.tr (gF.tr ⟨(eK.sr ..).n, fun q _ _ j => by rw [gi_sr], gL.sr _ _ _ (by rw [(f3.1.2 _ w4.1.1.1).1, w4.1.1.2]; decide), rfl⟩ r4), r5, ?_, fun c a b => ?_⟩
      · rw [r6, tU_at, List.append_assoc]
        rfl
      · rw [r7 c a b, tU_ne _ _ b]
theorem y_pour (hE : ∀ c, ¬ E c) (h : Sst E x S T F col S1 T1 F1 c1) {P Q : Nat} (o : own x P) (n : P ≠ x) (oQ : own x Q) (nQ : Q ≠ x) (PQ : P ≠ Q) (hl : (T1 Q).length + (T1 P).length ≤ 9) : p_Y5_pourInto S1 P Q ∧ ∃ S2 T2, f_Y5_pourInto S1 P Q = (0, S2) ∧ Sst E x S T F col S2 T2 F1 c1 ∧ gF S1 S2 ∧ T2 P = [] ∧ T2 Q = T1 Q ++ T1 P ∧ ∀ c, c ≠ P → c ≠ Q → T2 c = T1 c := by
  have w := h.ci.tp P (hE P) (own.k h o n)
  have z0 : (0 : Int32).toNatClampNeg = 0 := rfl
  have hq : tU T1 P [] Q = T1 Q := tU_ne _ _ (fun z => PQ z.symm)
  obtain ⟨r1, S2, T2, r2, r3, r4, r5, r6, r7⟩ := pour_lp hE o n oQ nQ PQ 100000 (T1 P) S1 (tU T1 P []) 0 (h.xo o n) (tU_at ..) (by rw [i0]; omega) (by rw [i0, w.1]; omega) (by rw [i0]; omega) (fun i hi => by rw [z0, Nat.zero_add]; exact w.2.2 i hi) (by rw [hq]; exact hl) (by omega)
  exact ⟨r1, S2, T2, r2, r3, r4, r5, by rw [r6, hq], fun c a b => by rw [r7 c a b, tU_ne _ _ a]⟩
theorem y_takeFrom (hE : ∀ c, ¬ E c) (h : Sst E x S T F col S1 T1 F1 c1) {d d2 : Nat} (o : pl x d) (o2 : pl x d2) (n : d ≠ d2) (hT : T1 (d + 1) = []) : p_Y6_takeFrom S1 d d2 ∧ ∃ S2 T2, f_Y6_takeFrom S1 d d2 = (0, S2) ∧ Sst E x S T F col S2 T2 F1 c1 ∧ gX (fun q => q = d ∨ q = d2) S1 S2 ∧ giC S2 d 0 = giC S1 d2 0 ∧ giC S2 d2 0 = 0 ∧ T2 (d + 1) = T1 (d2 + 1) ∧ T2 (d2 + 1) = [] ∧ ∀ c, c ≠ d + 1 → c ≠ d2 + 1 → T2 c = T1 c := by
  have k := (o.k h).1
  have k2 := (o2.k h).1
  have w5 := h.ci.wf.w5 k
  have w52 := h.ci.wf.w5 k2
  have l9 := (h.ci.tp (d2 + 1) (hE _) w52.1).2.1
  have g := h.sort o (giC S1 d2 0)
  obtain ⟨p1, S2, T2, f1, f2, f3, f4, f5, f6⟩ := y_pour hE g o2.o.1 o2.o.2.1 o.o.1 o.o.2.1 (by omega) (by rw [hT]; simp; exact l9)
  unfold p_Y6_takeFrom f_Y6_takeFrom
  simp only [q_Y6_takeFrom_19a, b_Y6_takeFrom_19a, gr_si, w5.2, w52.2, Option.getD_some, ir_so, ik_si, f1]
  have kd := (o.k g).1
  refine ⟨⟨w52.1, w5.1, p1, trivial⟩, _, T2, rfl, f2.sort o2 0, ?_, ?_, ?_, ?_, f4, fun c a b => f6 c b a⟩
  · exact ((gX.si S1 d 0 _).mo (fun q z => Or.inl z)).tr (f3.x.tr ((gX.si S2 d2 0 0).mo (fun q z => Or.inr z)))
  · rw [gi_si, if_neg (fun z => n z.1), f3.2.1 d kd.1 (by rw [kd.2]; decide), gi_si, if_pos ⟨rfl, rfl⟩]
  · rw [gi_si, if_pos ⟨rfl, rfl⟩]
  · rw [f5, hT]
    rfl
end
end
section
/-! ===== motions: keepTextAs, renew, become; texts: become ===== -/
def dM (q : Nat) : Nat → Prop := fun z => q ≤ z ∧ z ≤ q + 3
section
variable {E E0 : Nat → Prop} {x : Nat} {S S1 : Cst} {T T1 : Nat → List Nat} {F F1 : List Nat} {col c1 : Nat → Nat}
/-- S2 comes of S1 by writing at a motion q of the assembly alone -/
def mU (E : Nat → Prop) (x : Nat) (S : Cst) (T : Nat → List Nat) (F : List Nat) (col : Nat → Nat) (T1 : Nat → List Nat) (F1 : List Nat) (c1 : Nat → Nat) (q : Nat) (S1 S2 : Cst) : Prop := Sst E x S T F col S2 T1 F1 c1 ∧ gX (dM q) S1 S2 ∧ iK S2 q 3 ∧ c1 q = x
theorem mU.rf (h : Sst E x S T F col S1 T1 F1 c1) {q : Nat} (k : iK S1 q 3) (c : c1 q = x) : mU E x S T F col T1 F1 c1 q S1 S1 := ⟨h, (gF.rf S1).x, k, c⟩
theorem mU.si {q : Nat} {S2 : Cst} (h : mU E x S T F col T1 F1 c1 q S1 S2) (b : Nat) (v : Int32) (ok : b = 7 ∨ b = 10 ∨ b = 11 → bZ v) : mU E x S T F col T1 F1 c1 q S1 (siC S2 q b v) := by
  obtain ⟨a, g, k, c⟩ := h
  refine ⟨a.si c (by rw [k.2]; decide) ⟨fun z => by rw [k.2] at z; omega, fun z => by rw [k.2] at z; omega, fun _ z => ok z, fun z => by rw [k.2] at z; omega, fun z => by rw [k.2] at z; omega, fun z => by rw [k.2] at z; omega⟩, g.tr ((gX.si S2 q b v).mo (fun z y => ⟨by omega, by omega⟩)), ik_si.mpr k, c⟩
theorem bz0 : bZ 0 := Or.inl rfl
theorem bz1 : bZ 1 := Or.inr rfl
theorem mU.c {q : Nat} {S2 : Cst} (h : mU E x S T F col T1 F1 c1 q S1 S2) (j : Nat) (hj : j < 4) : c1 (q + j) = x := by rw [h.1.ci.c3 q h.2.2.1 j hj]; exact h.2.2.2
theorem fill_lp {q : Nat} : ∀ (n : Nat) (S2 : Cst) (b : Int32), mU E x S T F col T1 F1 c1 q S1 S2 → 0 ≤ b.toInt → b.toInt ≤ 200 → 200 - b.toInt < n → lq_K7_fill_031fb_5 (q + 3) n S2 0 b (Int32.ofNat 200) ∧ ∃ S3, lp_K7_fill_031fb_5 (q + 3) n S2 0 b (Int32.ofNat 200) = (0, S3) ∧ mU E x S T F col T1 F1 c1 q S1 S3 ∧ gX (fun z => z = q + 3) S2 S3 := by
  have h2 : (Int32.ofNat 200).toInt = 200 := by decide
  intro n
  induction n with
  | zero => intro S2 b h h1 h2 h3; omega
  | succ n ih =>
    intro S2 b h h1 h3 h4
    rw [lq_K7_fill_031fb_5, lp_K7_fill_031fb_5]
    unfold ps_K7_fill_031fb_5 st_K7_fill_031fb_5
    by_cases c : Int32.ofNat 200 ≤ b
    · rw [if_pos c, if_pos c]
      exact ⟨⟨trivial, trivial⟩, S2, rfl, h, (gF.rf S2).x⟩
    · rw [if_neg c, if_neg c]
      have c := mt iLe.mpr c
      have e := iAdd (x := b) (y := 1) (by rw [i1]; omega) (by rw [i1]; omega)
      rw [i1] at e
      have k3 := (h.1.ci.wf.w3 h.2.2.1).1
      have f := h.1.si (a := q + 3) (b := b.toNatClampNeg) (v := vp_nar .byte 0) (h.c 3 (by omega)) (by rw [k3.2.1.2]; decide) ⟨fun z => by rw [k3.2.1.2] at z; omega, fun z => by rw [k3.2.1.2] at z; omega, fun z => by rw [k3.2.1.2] at z; omega, fun z => by rw [k3.2.1.2] at z; omega, fun z => by rw [k3.2.1.2] at z; omega, fun _ => rfl⟩
      obtain ⟨r1, S3, r2, r3, r4⟩ := ih _ (b + 1) ⟨f, h.2.1.tr ((gX.si S2 (q + 3) _ _).mo (fun z y => ⟨by omega, by omega⟩)), ik_si.mpr h.2.2.1, h.2.2.2⟩ (by omega) (by omega) (by omega)
      refine ⟨⟨⟨?_, trivial⟩, r1⟩, S3, r2, r3, (gX.si S2 (q + 3) _ _).tr r4⟩
      rw [k3.2.2]
      exact vIn h1 (by omega)
theorem y_keep (h : Sst E x S T F col S1 T1 F1 c1) {q : Nat} (k : iK S1 q 3) (c : c1 q = x) (v : Int32) : p_Y4_keepTextAs S1 q v ∧ ∃ S2, f_Y4_keepTextAs S1 q v = (0, S2) ∧ mU E x S T F col T1 F1 c1 q S1 S2 ∧ giC S2 q 2 = v := by
  have u := (((((((((((((mU.rf h k c).si 0 0 (by omega)).si 1 0 (by omega)).si 2 v (by omega)).si 3 (-1) (by omega)).si 4 (-1) (by omega)).si 5 0 (by omega)).si 6 0 (by omega)).si 7 0 (fun _ => bz0)).si 8 0 (by omega)).si 9 0 (by omega)).si 10 0 (fun _ => bz0)).si 11 0 (fun _ => bz0))
  unfold p_Y4_keepTextAs f_Y4_keepTextAs
  have hv : giC (siC (siC (siC (siC (siC (siC (siC (siC (siC (siC (siC (siC S1 q 0 0) q 1 0) q 2 v) q 3 (-1)) q 4 (-1)) q 5 0) q 6 0) q 7 0) q 8 0) q 9 0) q 10 0) q 11 0) q 2 = v := by
    simp only [gi_si]
    simp
  generalize siC (siC (siC (siC (siC (siC (siC (siC (siC (siC (siC (siC S1 q 0 0) q 1 0) q 2 v) q 3 (-1)) q 4 (-1)) q 5 0) q 6 0) q 7 0) q 8 0) q 9 0) q 10 0) q 11 0 = S2 at u hv ⊢
  unfold b_Y4_keepTextAs_60a q_Y4_keepTextAs_60a
  by_cases z : giC S2 q 14 ≤ 0
  · rw [if_pos z, if_pos z]
    exact ⟨trivial, S2, rfl, u, hv⟩
  · rw [if_neg z, if_neg z]
    have w3 := u.1.ci.wf.w3 u.2.2.1
    obtain ⟨r1, S3, r2, r3, r4⟩ := fill_lp 100000 S2 0 u (by rw [i0]; omega) (by rw [i0]; omega) (by rw [i0]; omega)
    unfold p_K7_fill_031fb f_K7_fill_031fb
    rw [w3.2.1.2, Option.getD_some, w3.1.2.2, r2]
    refine ⟨⟨ir_so.mpr w3.1.2.1, r1, trivial⟩, siC S3 q 14 0, rfl, r3.si 14 0 (by omega), ?_⟩
    rw [gi_si, if_neg (by omega), r4.2.1 q u.2.2.1.1 (by rw [u.2.2.1.2]; decide) (by omega)]
    exact hv
theorem y_renew (h : Sst E x S T F col S1 T1 F1 c1) {q : Nat} (k : iK S1 q 3) (c : c1 q = x) (v : Int32) : p_Y4_renew S1 q v ∧ ∃ S2, f_Y4_renew S1 q v = (0, S2) ∧ mU E x S T F col T1 F1 c1 q S1 S2 ∧ giC S2 q 2 = v := by
  obtain ⟨p1, S2, f1, f2, f3⟩ := y_keep h k c v
  have w3 := f2.1.ci.wf.w3 f2.2.2.1
  unfold p_Y4_renew f_Y4_renew b_Y4_renew_5a q_Y4_renew_5a
  rw [f1, w3.2.1.1]
  have k1 := w3.1.1.2
  refine ⟨⟨p1, ir_so.mpr w3.1.1, trivial⟩, siC S2 (q + 1) 1 0, rfl, ⟨f2.1.si (f2.c 1 (by omega)) (by rw [k1]; decide) ⟨fun z => by rw [k1] at z; omega, fun z => by rw [k1] at z; omega, fun z => by rw [k1] at z; omega, fun z => by rw [k1] at z; omega, fun _ _ => ⟨by rw [i0]; omega, by rw [i0]; omega⟩, fun z => by rw [k1] at z; omega⟩, f2.2.1.tr ((gX.si S2 (q + 1) _ _).mo (fun z y => ⟨by omega, by omega⟩)), ik_si.mpr f2.2.2.1, f2.2.2.2⟩, ?_⟩
  rw [gi_si, if_neg (by omega)]
  exact f3
/-- a text becomes another one -/
theorem y_tBecome (h : Sst E x S T F col S1 T1 F1 c1) {t u : Nat} (k : iK S1 t 6) (c : c1 t = x) (c' : c1 (t + 1) = x) (ku : iK S1 u 6) : p_Y9_become S1 t u ∧ ∃ S2, f_Y9_become S1 t u = (0, S2) ∧ Sst E x S T F col S2 T1 F1 c1 ∧ gX (fun z => z = t ∨ z = t + 1) S1 S2 ∧ eK S1 S2 ∧ giC S2 t 1 = giC S1 u 1 ∧ ∀ i : Nat, (i : Int) < (giC S1 u 1).toInt → giC S2 (t + 1) i = giC S1 (u + 1) i := by
  have w := h.ci.wf.w6 k
  have wu := h.ci.wf.w6 ku
  have h4 : (Int32.ofNat 400).toInt = 400 := by decide
  unfold W6 rg at w wu
  have e1 : (if (Int32.ofNat 400) < (giC S1 u 1) then (Int32.ofNat 400) else (giC S1 u 1)) = giC S1 u 1 := by
    split
    · next z =>
      have := iLt.mp z
      omega
    · rfl
  have e2 : (if (0 : Int32) < giC S1 u 1 then giC S1 u 1 else 0) = giC S1 u 1 := by
    split
    · rfl
    · next z =>
      have z := mt iLt.mpr z
      rw [i0] at z
      refine iEq.mpr ?_
      rw [i0]
      omega
  unfold p_Y9_become f_Y9_become
  rw [w.2.1, Option.getD_some, w.1.2, e1, e2]
  unfold b_Y9_become_20a q_Y9_become_20a
  have a1 : grC (siC S1 t 1 (giC S1 u 1)) t 0 = some (t + 1) := by rw [gr_si]; exact w.2.1
  have a2 : grC (siC S1 t 1 (giC S1 u 1)) u 0 = some (u + 1) := by rw [gr_si]; exact wu.2.1
  have a3 : giC (siC S1 t 1 (giC S1 u 1)) t 1 = giC S1 u 1 := by rw [gi_si, if_pos ⟨rfl, rfl⟩]
  have a4 : lnC (siC S1 t 1 (giC S1 u 1)) (t + 1) = 400 := by rw [ln_si]; exact w.1.2
  have a5 : lnC (siC S1 t 1 (giC S1 u 1)) (u + 1) = 400 := by rw [ln_si]; exact wu.1.2
  rw [a1, a2, a3, Option.getD_some, Option.getD_some, a4, a5]
  have hn := iNat (x := giC S1 u 1) (by omega)
  have z0 : (0 : Int32).toNatClampNeg = 0 := rfl
  have f := h.si (a := t) (b := 1) (v := giC S1 u 1) c (by rw [k.2]; decide) ⟨fun z => by rw [k.2] at z; omega, fun z => by rw [k.2] at z; omega, fun z => by rw [k.2] at z; omega, fun z => by rw [k.2] at z; omega, fun _ _ => wu.2.2, fun z => by rw [k.2] at z; omega⟩
  refine ⟨⟨ir_so.mpr w.1.1, ir_so.mpr (ik_si.mpr wu.1.1), ir_so.mpr (ik_si.mpr w.1.1), ⟨⟨by decide, by decide, fun z => ?_⟩, by rw [z0]; omega, by rw [z0]; omega⟩, trivial⟩, _, rfl, f.sf c' (Or.inl (by rw [kd_si]; exact w.1.1.2)), ?_, (eK.si S1 t 1 _).tr (eK.sf ..), ?_, fun i hi => ?_⟩
  · have := iLt.mp z
    rw [i0] at this
    omega
  · refine ⟨(eK.si S1 t 1 _).n.tr (eK.sf ..).n, fun q _ _ n j => ?_, fun l _ _ => by rw [gr_sf, gr_si]⟩
    rw [gi_sf, if_neg (fun z => n (Or.inr z)), gi_si, if_neg (fun z => n (Or.inl z.1))]
  · rw [gi_sf, if_neg (by omega), gi_si, if_pos ⟨rfl, rfl⟩]
  · rw [gi_sf, if_pos rfl]
    have nu : u + 1 ≠ t := fun z => by have := wu.1.1.2; rw [z, k.2] at this; omega
    rw [z0, pk_cpy_in (Nat.zero_le i) (by omega), Nat.zero_add, Nat.sub_zero, gi_si, if_neg (fun z => nu z.1)]
theorem bz_nf {v : Int32} (h : bZ v) : narrow .boolean (.int v) = .int v ∧ fits .boolean (.int v) = true := by
  rcases h with h | h <;> rw [h] <;> exact ⟨rfl, rfl⟩
/-- a motion becomes another one (of any assembly) -/
theorem mb_133 {q z : Nat} {S2 : Cst} (u : mU E x S T F col T1 F1 c1 q S1 S2) : q_Y4_become_133a S2 q (some z) ∧ ∃ S3, b_Y4_become_133a S2 q (some z) = (0, S3) ∧ mU E x S T F col T1 F1 c1 q S1 S3 ∧ giC S3 q 2 = giC S2 q 2 := ⟨trivial, S2, rfl, u, rfl⟩
theorem mb_k {q : Nat} {f : Int32 × Cst} {Q : Cst → Prop} {a b : Int32} (h : ∃ S3, f = (0, S3) ∧ Q S3 ∧ giC S3 q 2 = a) (e : a = b) : ∃ S3, f = (0, S3) ∧ Q S3 ∧ giC S3 q 2 = b := by
  obtain ⟨S3, g, k, m⟩ := h
  exact ⟨S3, g, k, m.trans e⟩
theorem mb_107 {q z : Nat} {S2 : Cst} (u : mU E x S T F col T1 F1 c1 q S1 S2) (kz : iK S2 z 3) : q_Y4_become_107a S2 q (some z) ∧ ∃ S3, b_Y4_become_107a S2 q (some z) = (0, S3) ∧ mU E x S T F col T1 F1 c1 q S1 S3 ∧ giC S3 q 2 = giC S2 q 2 := by
  have w := u.1.ci.wf.w3 u.2.2.1
  have wz := u.1.ci.wf.w3 kz
  have wb := u.1.ci.wf.w22 wz.1.2.1
  have wq := u.1.ci.wf.w22 w.1.2.1
  have z0 : (0 : Int32).toNatClampNeg = 0 := rfl
  have h2 : (Int32.ofNat 200).toNatClampNeg = 200 := by decide
  unfold b_Y4_become_107a q_Y4_become_107a
  rw [w.2.1.2, Option.getD_some, Option.getD_some, wz.2.1.2, Option.getD_some, w.1.2.2, wz.1.2.2, h2, z0]
  have fa : ∀ i, fits .byte (.int (va_cpy (giC S2 (z + 3)) (giC S2 (q + 3)) 0 0 200 i)) = true := fun i => by
    by_cases g : i < 200
    · rw [pk_cpy_in (Nat.zero_le i) (by omega)]
      exact wb _
    · rw [pk_cpy_out (Or.inr (by omega))]
      exact wq _
  have f := u.1.sf (a := q + 3) (f := va_cpy (giC S2 (z + 3)) (giC S2 (q + 3)) 0 0 200) (u.c 3 (by omega)) (Or.inr (Or.inr ⟨w.1.2.1.2, fa⟩))
  have u2 : mU E x S T F col T1 F1 c1 q S1 (sfC S2 (q + 3) (va_cpy (giC S2 (z + 3)) (giC S2 (q + 3)) 0 0 200)) := ⟨f, u.2.1.tr ⟨(eK.sf ..).n, fun a _ _ n j => by
    rw [gi_sf, if_neg (fun y => n ⟨by omega, by omega⟩)], fun l _ _ => gr_sf ..⟩, ik_sf.mpr u.2.2.1, u.2.2.2⟩
  have B := fun v => mb_133 (z := z) (u2.si 14 v (by omega))
  exact ⟨⟨ir_so.mpr kz, ir_so.mpr w.1.2.1, ir_so.mpr wz.1.2.1, ir_so.mpr w.1.2.1, ⟨⟨by decide, by decide, by decide⟩, by omega, by omega⟩, fun i _ => wb _, ir_so.mpr (ik_sf.mpr kz), (B _).1⟩, mb_k (B _).2 (by rw [gi_si, if_neg (by omega), gi_sf, if_neg (by omega)])⟩
theorem mb_96 {q z : Nat} {S2 : Cst} (u : mU E x S T F col T1 F1 c1 q S1 S2) (kz : iK S2 z 3) : q_Y4_become_96a S2 q (some z) ∧ ∃ S3, b_Y4_become_96a S2 q (some z) = (0, S3) ∧ mU E x S T F col T1 F1 c1 q S1 S3 ∧ giC S3 q 2 = giC S2 q 2 := by
  have w := u.1.ci.wf.w3 u.2.2.1
  have wz := u.1.ci.wf.w3 kz
  unfold b_Y4_become_96a q_Y4_become_96a
  rw [w.2.1.1, Option.getD_some, Option.getD_some, wz.2.1.1, Option.getD_some]
  obtain ⟨p1, S3, f1, f2, f3, _⟩ := y_tBecome u.1 w.1.1 (u.c 1 (by omega)) (u.c 2 (by omega)) wz.1.1
  have ek : giC S3 q 2 = giC S2 q 2 := f3.2.1 q u.2.2.1.1 (by rw [u.2.2.1.2]; decide) (by omega) 2
  rw [f1]
  have u3 : mU E x S T F col T1 F1 c1 q S1 S3 := ⟨f2, u.2.1.tr (f3.mo (fun y n => ⟨by omega, by omega⟩)), u.2.2.1.n f3.1, u.2.2.2⟩
  have B := mb_107 u3 (kz.n f3.1)
  exact ⟨⟨ir_so.mpr kz, ir_so.mpr w.1.1, ir_so.mpr wz.1.1, p1, B.1⟩, mb_k B.2 ek⟩
theorem mb_64 {q z : Nat} {S2 : Cst} (u : mU E x S T F col T1 F1 c1 q S1 S2) (kz : iK S2 z 3) : q_Y4_become_64a S2 q (some z) ∧ ∃ S3, b_Y4_become_64a S2 q (some z) = (0, S3) ∧ mU E x S T F col T1 F1 c1 q S1 S3 ∧ giC S3 q 2 = giC S2 q 2 := by
  have k1 : ∀ {S3 : Cst} {b : Nat} {v : Int32}, iK S3 z 3 → iK (siC S3 q b v) z 3 := fun y => ik_si.mpr y
  have A2 := fun v8 v9 => (((u.si 8 v8 (by omega)).si 9 v9 (by omega)).1.ci.wf.w3 (k1 (k1 kz))).2.2.1.2.1
  have A3 := fun v8 v9 v10 b10 => ((((u.si 8 v8 (by omega)).si 9 v9 (by omega)).si 10 v10 (fun _ => b10)).1.ci.wf.w3 (k1 (k1 (k1 kz)))).2.2.1.2.2
  have B := fun v8 v9 v10 v11 b10 b11 => mb_96 (z := z) ((((u.si 8 v8 (by omega)).si 9 v9 (by omega)).si 10 v10 (fun _ => b10)).si 11 v11 (fun _ => b11)) (k1 (k1 (k1 (k1 kz))))
  unfold b_Y4_become_64a q_Y4_become_64a
  rw [Option.getD_some]
  exact ⟨⟨ir_so.mpr kz, ir_so.mpr (k1 kz), ir_so.mpr (k1 (k1 kz)), bz_nf (A2 _ _), ir_so.mpr (k1 (k1 (k1 kz))), bz_nf (A3 _ _ _ (A2 _ _)), (B _ _ _ _ (A2 _ _) (A3 _ _ _ (A2 _ _))).1⟩, mb_k (B _ _ _ _ (A2 _ _) (A3 _ _ _ (A2 _ _))).2 (by simp [gi_si])⟩
theorem mb_32 {q z : Nat} {S2 : Cst} (u : mU E x S T F col T1 F1 c1 q S1 S2) (kz : iK S2 z 3) : q_Y4_become_32a S2 q (some z) ∧ ∃ S3, b_Y4_become_32a S2 q (some z) = (0, S3) ∧ mU E x S T F col T1 F1 c1 q S1 S3 ∧ giC S3 q 2 = giC S2 q 2 := by
  have k1 : ∀ {S3 : Cst} {b : Nat} {v : Int32}, iK S3 z 3 → iK (siC S3 q b v) z 3 := fun y => ik_si.mpr y
  have A := fun v4 v5 v6 => ((((u.si 4 v4 (by omega)).si 5 v5 (by omega)).si 6 v6 (by omega)).1.ci.wf.w3 (k1 (k1 (k1 kz)))).2.2.1.1
  have B := fun v4 v5 v6 v7 b7 => mb_64 (z := z) ((((u.si 4 v4 (by omega)).si 5 v5 (by omega)).si 6 v6 (by omega)).si 7 v7 (fun _ => b7)) (k1 (k1 (k1 (k1 kz))))
  unfold b_Y4_become_32a q_Y4_become_32a
  rw [Option.getD_some]
  exact ⟨⟨ir_so.mpr kz, ir_so.mpr (k1 kz), ir_so.mpr (k1 (k1 kz)), ir_so.mpr (k1 (k1 (k1 kz))), bz_nf (A _ _ _), (B _ _ _ _ (A _ _ _)).1⟩, mb_k (B _ _ _ _ (A _ _ _)).2 (by simp [gi_si])⟩
theorem y_mBecome (h : Sst E x S T F col S1 T1 F1 c1) {q z : Nat} (k : iK S1 q 3) (c : c1 q = x) (kz : iK S1 z 3) : p_Y4_become S1 q (some z) ∧ ∃ S2, f_Y4_become S1 q (some z) = (0, S2) ∧ mU E x S T F col T1 F1 c1 q S1 S2 ∧ giC S2 q 2 = giC S1 z 2 := by
  have k1 : ∀ {S3 : Cst} {b : Nat} {v : Int32}, iK S3 z 3 → iK (siC S3 q b v) z 3 := fun y => ik_si.mpr y
  have B := fun v0 v1 v2 v3 => mb_32 (z := z) (((((mU.rf h k c).si 0 v0 (by omega)).si 1 v1 (by omega)).si 2 v2 (by omega)).si 3 v3 (by omega)) (k1 (k1 (k1 (k1 kz))))
  unfold p_Y4_become f_Y4_become
  rw [Option.getD_some]
  refine ⟨⟨ir_so.mpr kz, ir_so.mpr (k1 kz), ir_so.mpr (k1 (k1 kz)), ir_so.mpr (k1 (k1 (k1 kz))), (B _ _ _ _).1⟩, mb_k (B _ _ _ _).2 ?_⟩
  simp [gi_si]
end
end
section
/-! ===== cells made anew: old ones stand ===== -/
theorem pu_gi {S : Cst} {cs : List Cel} {sl q : Nat} (h : q < S.1) (k : Nat) : giC (puC S cs sl) q k = giC S q k := by
  unfold giC
  rw [puC_old h]
theorem pu_gr {S : Cst} {cs : List Cel} {sl q : Nat} (h : q < S.1) (k : Nat) : grC (puC S cs sl) q k = grC S q k := by
  unfold grC
  rw [puC_old h]
theorem nw_gi {S : Cst} {cs : List Cel} {sl : Nat} (i k : Nat) : giC (puC S cs sl) (S.1 + i) k = (cs.getD i dCe).2.2.1 k := by
  unfold giC
  rw [puC_new]
theorem nw_gr {S : Cst} {cs : List Cel} {sl : Nat} (i k : Nat) : grC (puC S cs sl) (S.1 + i) k = (cs.getD i dCe).2.2.2 k := by
  unfold grC
  rw [puC_new]
theorem nw_kd {S : Cst} {cs : List Cel} {sl : Nat} (i : Nat) : kdC (puC S cs sl) (S.1 + i) = (cs.getD i dCe).1 := by
  unfold kdC
  rw [puC_new]
theorem nw_ln {S : Cst} {cs : List Cel} {sl : Nat} (i : Nat) : lnC (puC S cs sl) (S.1 + i) = (cs.getD i dCe).2.1 := by
  unfold lnC
  rw [puC_new]
theorem nw_ik {S : Cst} {cs : List Cel} {sl : Nat} {i c : Nat} (h : i < cs.length) (e : (cs.getD i dCe).1 = c) : iK (puC S cs sl) (S.1 + i) c := ⟨Nat.add_lt_add_left h _, (nw_kd i).trans e⟩
theorem rK.n {S S' : Cst} {r : Option Nat} {c : Nat} (h : rK S r c) (g : eN S S') : rK S' r c := by
  rcases h with h | ⟨z, e, k⟩
  · exact Or.inl h
  · exact Or.inr ⟨z, e, k.n g⟩
def WA (S : Cst) (q : Nat) : Prop := (iK S q 0 → W0 S q) ∧ (iK S q 1 → W1 S q) ∧ (iK S q 2 → W2 S q) ∧ (iK S q 3 → W3 S q) ∧ (iK S q 4 → W4 S q) ∧ (iK S q 5 → W5 S q) ∧ (iK S q 6 → W6 S q) ∧ (iK S q 7 → W7 S q) ∧ (iK S q 22 → W22 S q) ∧ (iK S q 23 → W23 S q) ∧ (iK S q 24 → W24 S q)
theorem WA.old {S S' : Cst} {q : Nat} (h : WA S q) (g : eN S S') (hq : q < S.1) (e : S'.2.2 q = S.2.2 q) : WA S' q := by
  have eg : ∀ k, giC S' q k = giC S q k := fun k => by unfold giC; rw [e]
  have er : ∀ k, grC S' q k = grC S q k := fun k => by unfold grC; rw [e]
  have ek : ∀ c, iK S' q c → iK S q c := fun c k => ⟨hq, by rw [← (g.2 q hq).1]; exact k.2⟩
  have el : ∀ {z c : Nat}, iK S z c → lnC S' z = lnC S z := fun k => (g.2 _ k.1).2
  obtain ⟨h0, h1, h2, h3, h4, h5, h6, h7, h22, h23, h24⟩ := h
  refine ⟨fun k => ?_, fun k => ?_, fun k => ?_, fun k => ?_, fun k => ?_, fun k => ?_, fun k => ?_, fun k => ?_, fun k => ?_, fun k => ?_, fun k => ?_⟩
  · have w := h0 (ek _ k)
    unfold W0 at w ⊢
    simp only [er]
    exact ⟨⟨w.1.1.n g, w.1.2.1.n g, w.1.2.2.1.n g, w.1.2.2.2.1.n g, w.1.2.2.2.2.1.n g, w.1.2.2.2.2.2.1.n g, w.1.2.2.2.2.2.2.n g⟩, w.2.1, w.2.2.n g⟩
  · have w := h1 (ek _ k)
    unfold W1 at w ⊢
    simp only [er, eg, el w.1.1, el w.1.2.2.1]
    exact ⟨⟨w.1.1.n g, w.1.2.1, w.1.2.2.1.n g, w.1.2.2.2⟩, w.2⟩
  · have w := h2 (ek _ k)
    unfold W2 at w ⊢
    simp only [er, eg, el w.2.1.2]
    exact ⟨w.1, w.2.1.n g, w.2.2⟩
  · have w := h3 (ek _ k)
    unfold W3 at w ⊢
    simp only [er, eg, el w.1.2.1]
    exact ⟨⟨w.1.1.n g, w.1.2.1.n g, w.1.2.2⟩, w.2.1, w.2.2.1, w.2.2.2.n g⟩
  · have w := h4 (ek _ k)
    unfold W4 at w ⊢
    simp only [er, eg, el w.1.1]
    exact ⟨⟨w.1.1.n g, w.1.2⟩, w.2⟩
  · have w := h5 (ek _ k)
    unfold W5 at w ⊢
    simp only [er]
    exact ⟨w.1.n g, w.2⟩
  · have w := h6 (ek _ k)
    unfold W6 at w ⊢
    simp only [er, eg, el w.1.1]
    exact ⟨⟨w.1.1.n g, w.1.2⟩, w.2⟩
  · have w := h7 (ek _ k)
    unfold W7 at w ⊢
    simp only [er]
    exact ⟨w.1.n g, w.2.1.n g, w.2.2.1.n g, w.2.2.2.1.n g, w.2.2.2.2.n g⟩
  · have w := h22 (ek _ k)
    unfold W22 at w ⊢
    simp only [eg]
    exact w
  · have w := h23 (ek _ k)
    intro i
    rw [er]
    exact (w i).n g
  · have w := h24 (ek _ k)
    unfold W24 at w ⊢
    simp only [er, el (ek _ k)]
    exact ⟨w.1, fun i hi => ⟨(w.2 i hi).1, (w.2 i hi).2.n g⟩⟩
theorem wf_pu {S : Cst} {cs : List Cel} {sl : Nat} (h : wfS S) (hc : ∀ i, i < cs.length → ∀ k z, (cs.getD i dCe).2.2.2 k = some z → z < S.1 + cs.length) (hn : ∀ i, i < cs.length → WA (puC S cs sl) (S.1 + i)) : wfS (puC S cs sl) := by
  refine ⟨fun q hq k z e => ?_, fun q => ?_⟩
  · have hq : q < S.1 + cs.length := hq
    show z < S.1 + cs.length
    by_cases c : q < S.1
    · rw [pu_gr c] at e
      have := h.1 q c k z e
      omega
    · obtain ⟨i, rfl⟩ : ∃ i, q = S.1 + i := ⟨q - S.1, by omega⟩
      rw [nw_gr] at e
      exact hc i (by omega) k z e
  · by_cases c : q < S.1
    · exact WA.old (h.2 q) (eN.pu S cs sl) c (puC_old c)
    · by_cases d : q < S.1 + cs.length
      · obtain ⟨i, rfl⟩ : ∃ i, q = S.1 + i := ⟨q - S.1, by omega⟩
        exact hn i (by omega)
      · have no : ∀ c, ¬ iK (puC S cs sl) q c := fun c k => d k.1
        exact ⟨fun k => absurd k (no _), fun k => absurd k (no _), fun k => absurd k (no _), fun k => absurd k (no _), fun k => absurd k (no _), fun k => absurd k (no _), fun k => absurd k (no _), fun k => absurd k (no _), fun k => absurd k (no _), fun k => absurd k (no _), fun k => absurd k (no _)⟩
theorem WA.one {S : Cst} {q c : Nat} (k : kdC S q = c) (h0 : c = 0 → W0 S q) (h1 : c = 1 → W1 S q) (h2 : c = 2 → W2 S q) (h3 : c = 3 → W3 S q) (h4 : c = 4 → W4 S q) (h5 : c = 5 → W5 S q) (h6 : c = 6 → W6 S q) (h7 : c = 7 → W7 S q) (h22 : c = 22 → W22 S q) (h23 : c = 23 → W23 S q) (h24 : c = 24 → W24 S q) : WA S q :=
  ⟨fun z => h0 (k.symm.trans z.2), fun z => h1 (k.symm.trans z.2), fun z => h2 (k.symm.trans z.2), fun z => h3 (k.symm.trans z.2), fun z => h4 (k.symm.trans z.2), fun z => h5 (k.symm.trans z.2), fun z => h6 (k.symm.trans z.2), fun z => h7 (k.symm.trans z.2), fun z => h22 (k.symm.trans z.2), fun z => h23 (k.symm.trans z.2), fun z => h24 (k.symm.trans z.2)⟩
theorem wf_mk4 {S : Cst} (h : wfS S) : wfS (mkX4 S) ∧ iK (mkX4 S) S.1 3 := by
  have k0 : iK (mkX4 S) (S.1 + 0) 3 := nw_ik (show 0 < 4 by omega) rfl
  have k1 : iK (mkX4 S) (S.1 + 1) 6 := nw_ik (show 1 < 4 by omega) rfl
  have k2 : iK (mkX4 S) (S.1 + 2) 20 := nw_ik (show 2 < 4 by omega) rfl
  have k3 : iK (mkX4 S) (S.1 + 3) 22 := nw_ik (show 3 < 4 by omega) rfl
  have l2 : lnC (mkX4 S) (S.1 + 2) = 400 := (nw_ln 2).trans rfl
  have l3 : lnC (mkX4 S) (S.1 + 3) = 200 := (nw_ln 3).trans rfl
  refine ⟨wf_pu h (fun i hi k z e => ?_) (fun i hi => ?_), k0⟩
  · have hi : i < 4 := hi
    show z < S.1 + 4
    have : i = 0 ∨ i = 1 ∨ i = 2 ∨ i = 3 := by omega
    rcases this with rfl | rfl | rfl | rfl
    · have e : (if k = 12 then some (S.1 + 1) else if k = 13 then some (S.1 + 3) else none) = some z := e
      split at e
      · cases e
        omega
      · split at e
        · cases e
          omega
        · cases e
    · have e : (if k = 0 then some (S.1 + 2) else none) = some z := e
      split at e
      · cases e
        omega
      · cases e
    · cases e
    · cases e
  · have hi : i < 4 := hi
    have : i = 0 ∨ i = 1 ∨ i = 2 ∨ i = 3 := by omega
    rcases this with rfl | rfl | rfl | rfl
    · refine WA.one k0.2 (fun z => by omega) (fun z => by omega) (fun z => by omega) (fun _ => ?_) (fun z => by omega) (fun z => by omega) (fun z => by omega) (fun z => by omega) (fun z => by omega) (fun z => by omega) (fun z => by omega)
      exact ⟨⟨k1, k3, l3⟩, ⟨(nw_gr 0 12).trans rfl, (nw_gr 0 13).trans rfl⟩, ⟨Or.inl ((nw_gi 0 7).trans rfl), Or.inl ((nw_gi 0 10).trans rfl), Or.inl ((nw_gi 0 11).trans rfl)⟩, Or.inl ((nw_gr 0 15).trans rfl)⟩
    · refine WA.one k1.2 (fun z => by omega) (fun z => by omega) (fun z => by omega) (fun z => by omega) (fun z => by omega) (fun z => by omega) (fun _ => ?_) (fun z => by omega) (fun z => by omega) (fun z => by omega) (fun z => by omega)
      refine ⟨⟨k2, l2⟩, (nw_gr 1 0).trans rfl, ?_⟩
      have e : giC (mkX4 S) (S.1 + 1) 1 = 0 := (nw_gi 1 1).trans rfl
      show rg (giC (mkX4 S) (S.1 + 1) 1) 0 400
      rw [e]
      exact ⟨by rw [i0]; omega, by rw [i0]; omega⟩
    · exact WA.one k2.2 (fun z => by omega) (fun z => by omega) (fun z => by omega) (fun z => by omega) (fun z => by omega) (fun z => by omega) (fun z => by omega) (fun z => by omega) (fun z => by omega) (fun z => by omega) (fun z => by omega)
    · refine WA.one k3.2 (fun z => by omega) (fun z => by omega) (fun z => by omega) (fun z => by omega) (fun z => by omega) (fun z => by omega) (fun z => by omega) (fun z => by omega) (fun _ i => ?_) (fun z => by omega) (fun z => by omega)
      have e : giC (mkX4 S) (S.1 + 3) i = 0 := (nw_gi 3 i).trans rfl
      show fits .byte (.int (giC (mkX4 S) (S.1 + 3) i)) = true
      rw [e]
      rfl
def cN (S : Cst) (x : Nat) (col : Nat → Nat) : Nat → Nat := fun j => if j < S.1 then col j else x
theorem cN_old {S : Cst} {x : Nat} {col : Nat → Nat} {q : Nat} (h : q < S.1) : cN S x col q = col q := if_pos h
theorem cN_new {S : Cst} {x : Nat} {col : Nat → Nat} {q : Nat} (h : S.1 ≤ q) : cN S x col q = x := if_neg (by omega)
section
variable {E E0 : Nat → Prop} {x : Nat} {S S1 : Cst} {T T1 : Nat → List Nat} {F F1 : List Nat} {col c1 : Nat → Nat}
/-- new cells, none of them a pile, an assembly or a ledger: all stands; motions among them come afloat -/
theorem CI.pu (h : CI E S T F col) {cs : List Cel} {sl : Nat} (wf : wfS (puC S cs sl)) {G : List Nat} (nk : ∀ q, S.1 ≤ q → ¬ iK (puC S cs sl) q 4 ∧ ¬ iK (puC S cs sl) q 0 ∧ ¬ iK (puC S cs sl) q 2) (hG : G.Nodup ∧ ∀ q, q ∈ G → iK (puC S cs sl) q 3 ∧ S.1 ≤ q) : CI E (puC S cs sl) T (G ++ F) (cN S x col) := by
  have g := eN.pu S cs sl
  have old : ∀ q c, q < S.1 → iK (puC S cs sl) q c → iK S q c := fun q c a k => ⟨a, by rw [← (g.2 q a).1]; exact k.2⟩
  have lt : ∀ c q, q ∈ T c → q < S.1 := fun c q m => (h.tk c q m).1.1
  refine ⟨wf, fun c n => Nat.lt_of_lt_of_le (h.tz c n) g.1.1, fun c q m => ⟨(h.tk c q m).1.n g, ?_⟩, h.td, h.tn, ⟨?_, fun q m => ?_⟩, fun P e k => ?_, fun y k => ?_, fun y k j hj => ?_, fun q k j hj => ?_, fun l k => ?_⟩
  · rw [cN_old (lt c q m), cN_old (h.tz c (fun z => by rw [z] at m; cases m))]
    exact (h.tk c q m).2
  · refine List.nodup_append.mpr ⟨hG.1, h.tf.1, fun a m b m' z => ?_⟩
    have := (hG.2 a m).2
    have := (h.tf.2 b m').1.1
    omega
  · rcases List.mem_append.mp m with m | m
    · refine ⟨(hG.2 q m).1, fun c y => ?_⟩
      have := (hG.2 q m).2
      have := lt c q y
      omega
    · exact ⟨(h.tf.2 q m).1.n g, (h.tf.2 q m).2⟩
  · have a : P < S.1 := Nat.lt_of_not_le (fun z => (nk P z).1 k)
    have kS := old P 4 a k
    have w := h.tp P e kS
    rw [pu_gi a]
    refine ⟨w.1, w.2.1, fun i hi => ?_⟩
    rw [pu_gr (h.wf.w4 kS).1.1.1]
    exact w.2.2 i hi
  · have a : y < S.1 := Nat.lt_of_not_le (fun z => (nk y z).2.1 k)
    rw [pu_gr a]
    exact (h.tc y (old y 0 a k)).cg _ _ (fun q m => pu_gr (lt y q m) _)
  · have a : y < S.1 := Nat.lt_of_not_le (fun z => (nk y z).2.1 k)
    have k0 := old y 0 a k
    have b := (h.wf.w1 (h.wf.w0 k0).1.1).1.2.2.1.1
    rw [cN_old (by omega)]
    exact h.c0 y k0 j hj
  · by_cases a : q < S.1
    · have k3 := old q 3 a k
      have b := (h.wf.w3 k3).1.2.1.1
      rw [cN_old (by omega), cN_old a]
      exact h.c3 q k3 j hj
    · rw [cN_new (by omega), cN_new (by omega)]
  · have a : l < S.1 := Nat.lt_of_not_le (fun z => (nk l z).2.2 k)
    have k2 := old l 2 a k
    rw [pu_gr a, cN_old (h.wf.w2 k2).2.1.2.1, cN_old a]
    exact h.c2 l k2
theorem Sst.n (h : Sst E x S T F col S1 T1 F1 c1) : True := trivial
/-- a motion made anew -/
theorem Sst.mk (h : Sst E x S T F col S1 T1 F1 c1) (hb : mT T1 x + F1.length ≤ 89) : Sst E x S T F col (mkX4 S1) T1 (S1.1 :: F1) (cN S1 x c1) := by
  have w := wf_mk4 h.ci.wf
  have g := eN.pu S1 [(3, 0, fun k => 0, fun k => if k = 12 then some (S1.1 + 1) else if k = 13 then some (S1.1 + 3) else none), (6, 0, fun k => 0, fun k => if k = 0 then some (S1.1 + 2) else none), (20, 400, (fun _ => 0), fun _ => none), (22, 200, (fun _ => 0), fun _ => none)] 618
  have nk : ∀ q, S1.1 ≤ q → ¬ iK (mkX4 S1) q 4 ∧ ¬ iK (mkX4 S1) q 0 ∧ ¬ iK (mkX4 S1) q 2 := fun q a => by
    by_cases b : q < S1.1 + 4
    · obtain ⟨i, rfl⟩ : ∃ i, q = S1.1 + i := ⟨q - S1.1, by omega⟩
      have : i = 0 ∨ i = 1 ∨ i = 2 ∨ i = 3 := by omega
      have hk : kdC (mkX4 S1) (S1.1 + i) = 3 ∨ kdC (mkX4 S1) (S1.1 + i) = 6 ∨ kdC (mkX4 S1) (S1.1 + i) = 20 ∨ kdC (mkX4 S1) (S1.1 + i) = 22 := by
        rcases this with rfl | rfl | rfl | rfl
        · exact Or.inl ((nw_kd 0).trans rfl)
        · exact Or.inr (Or.inl ((nw_kd 1).trans rfl))
        · exact Or.inr (Or.inr (Or.inl ((nw_kd 2).trans rfl)))
        · exact Or.inr (Or.inr (Or.inr ((nw_kd 3).trans rfl)))
      refine ⟨fun k => ?_, fun k => ?_, fun k => ?_⟩ <;> (have := k.2; omega)
    · refine ⟨fun k => b k.1, fun k => b k.1, fun k => b k.1⟩
  have w0 := h.ci.wf.w0 h.k1
  have e7 : ∀ l, iK S1 l 2 → lcl (mkX4 S1) l = lcl S1 l ∧ psL (mkX4 S1) l = psL S1 l := fun l k => by
    have a : lcl (mkX4 S1) l = lcl S1 l := by
      unfold lcl
      have e : grC (mkX4 S1) l 2 = grC S1 l 2 := pu_gr k.1 2
      rw [e]
      exact (g.2 _ (h.ci.wf.w2 k).2.1.2.1).2
    refine ⟨a, ?_⟩
    have e : giC (mkX4 S1) l 0 = giC S1 l 0 := pu_gi k.1 0
    unfold psL
    rw [a, e]
  refine h.tr ⟨h.ci.pu w.1 (G := [S1.1]) nk ⟨by simp, fun q m => by rw [List.mem_singleton.mp m]; exact ⟨w.2, Nat.le_refl _⟩⟩, g, fun q a => cN_old a, fun q a _ => puC_old a, fun _ _ _ => rfl, ?_, ?_, h.k1, fun q m => ?_, fun _ => by rw [List.length_cons]; omega⟩
  · unfold pcL
    rw [(e7 _ w0.1.2.2.2.2.1).1, (e7 _ w0.1.2.2.2.2.2.1).1]
    show S1.1 + 4 + _ + _ ≤ _
    rw [List.length_cons]
    omega
  · unfold plL
    rw [(e7 _ w0.1.2.2.2.2.1).2, (e7 _ w0.1.2.2.2.2.2.1).2]
    show S1.2.1 + 618 + _ + _ ≤ _
    rw [List.length_cons]
    omega
  · rcases List.mem_cons.mp m with rfl | m
    · exact cN_new (Nat.le_refl _)
    · rw [cN_old (h.ci.tf.2 q m).1.1]
      exact h.fc q m
end
end
section
/-! ===== a motion to be had; ledgers that grow ===== -/
section
variable {E E0 : Nat → Prop} {x : Nat} {S S1 : Cst} {T T1 : Nat → List Nat} {F F1 : List Nat} {col c1 : Nat → Nat}
theorem y_newMotion (h : Sst E x S T F col S1 T1 F1 c1) (hb : T1 x = [] → mT T1 x + F1.length ≤ 89) (v : Int32) : ∃ S2 T2 q c2, f_Y0_newMotion S1 x v = (some q, S2) ∧ (∀ lc ls, S2.1 ≤ lc → S2.2.1 ≤ ls → p_Y0_newMotion S1 x lc ls v) ∧ Sst E x S T F col S2 T2 (q :: F1) c2 ∧ gX (dM q) S1 S2 ∧ giC S2 q 2 = v ∧ ∀ c, c ≠ x → T2 c = T1 c := by
  have cx := h.ci.tc x h.k1
  unfold f_Y0_newMotion p_Y0_newMotion
  cases hT : T1 x with
  | nil =>
    rw [hT] at cx
    have z : grC S1 x 10 = none := cx
    have m := h.mk (hb hT)
    have km : iK (mkX4 S1) S1.1 3 := (wf_mk4 h.ci.wf).2
    obtain ⟨p1, S2, f1, f2, f3⟩ := y_renew m km (cN_new (Nat.le_refl _)) v
    refine ⟨S2, T1, S1.1, _, ?_, fun lc ls a b => ?_, f2.1, ?_, f3, fun _ _ => rfl⟩
    · rw [if_pos z]
      simp only [b_Y0_newMotion_38a, b_Y0_newMotion_33, b_Y0_newMotion_16a, Option.getD_some, f1]
    · rw [if_pos z, z]
      simp only [q_Y0_newMotion_38a, q_Y0_newMotion_33, q_Y0_newMotion_16a, Option.getD_some]
      have e1 : S1.1 + 4 ≤ S2.1 := f2.2.1.1.1.1
      have e2 : S1.2.1 + 618 ≤ S2.2.1 := f2.2.1.1.1.2
      exact ⟨⟨h.ci.wf.1, by omega, by omega⟩, fun z y => (by cases y), ir_so.mpr km, p1, trivial⟩
    · exact ⟨(eN.pu S1 _ _ : eN S1 (mkX4 S1)).tr f2.2.1.1, fun z a b c k => by
        have a' : z < (mkX4 S1).1 := Nat.lt_of_lt_of_le a (Nat.le_add_right _ _)
        have ek : kdC (mkX4 S1) z = kdC S1 z := ((eN.pu S1 _ _).2 z a).1
        rw [f2.2.1.2.1 z a' (by rw [ek]; exact b) c]
        exact pu_gi a k, gL.tr (eN.pu S1 _ _ : eN S1 (mkX4 S1)) (fun l a _ => pu_gr a 2) f2.2.1.2.2⟩
  | cons q L =>
    rw [hT] at cx
    have z : grC S1 x 10 = some q := cx.1
    have m := h.pop hT
    have mq : q ∈ T1 x := by rw [hT]; exact List.mem_cons_self ..
    have kq := (h.ci.tk x q mq).1
    have kq' := (m.ci.tf.2 q (List.mem_cons_self ..)).1
    obtain ⟨p1, S2, f1, f2, f3⟩ := y_renew m kq' (m.fc q (List.mem_cons_self ..)) v
    refine ⟨S2, _, q, _, ?_, fun lc ls _ _ => ?_, f2.1, ?_, f3, fun c n => tU_ne _ _ n⟩
    · rw [if_neg (by rw [z]; simp), z]
      simp only [b_Y0_newMotion_38a, b_Y0_newMotion_33, b_Y0_newMotion_16a, Option.getD_some, f1]
    · rw [if_neg (by rw [z]; simp), z]
      simp only [q_Y0_newMotion_38a, q_Y0_newMotion_33, q_Y0_newMotion_16a, Option.getD_some]
      exact ⟨ir_so.mpr kq, ir_so.mpr (ik_sr.mpr kq), ir_so.mpr kq', p1, trivial⟩
    · refine gX.tr ⟨((eK.sr S1 _ _ _).tr (eK.sr _ _ _ _)).n, fun z _ _ _ j => ?_, gL.tr (eK.sr S1 _ _ _).n (gL.sr S1 _ _ (by rw [h.k1.2]; decide)) (gL.sr _ _ _ (by rw [kd_sr, kq.2]; decide))⟩ f2.2.1
      rw [gi_sr, gi_sr]
/-- a ledger's new cells -/
theorem CI.led (h : CI E S T F col) {l z : Nat} (k : iK S l 2) (kz : iK S z 20) (h1 : 1 ≤ lnC S z) (h2 : (lnC S z : Int) ≤ 600 * (giC S l 0).toInt) (hc : col z = col l) : CI E (srC S l 2 (some z)) T F col := by
  refine ⟨wf_sr h.wf ?_, h.tz, fun c q m => ⟨ik_sr.mpr (h.tk c q m).1, (h.tk c q m).2⟩, h.td, h.tn, ⟨h.tf.1, fun q m => ⟨ik_sr.mpr (h.tf.2 q m).1, (h.tf.2 q m).2⟩⟩, fun Q e kQ => ?_, fun y ky => ?_, fun y ky => h.c0 y (ik_sr.mp ky), fun q kq => h.c3 q (ik_sr.mp kq), fun m km => ?_⟩
  · refine ⟨fun w y => by cases y; exact kz.1, ?_, ?_, fun _ => ⟨rfl, ir_so.mpr kz, h1, h2⟩, ?_, ?_, ?_, ?_, ?_, ?_, ?_⟩ <;> (rw [k.2]; intro z; omega)
  · have kQ := ik_sr.mp kQ
    have w := h.tp Q e kQ
    rw [gi_sr]
    refine ⟨w.1, w.2.1, fun i hi => ?_⟩
    rw [gr_sr, if_neg (fun z => by have := (h.wf.w4 kQ).1.1.2; rw [z.1, k.2] at this; omega)]
    exact w.2.2 i hi
  · have ky := ik_sr.mp ky
    rw [gr_sr, if_neg (fun z => by have := ky.2; rw [z.1, k.2] at this; omega)]
    exact (h.tc y ky).cg _ _ (fun z m => by rw [gr_sr, if_neg (fun w => by have := (h.tk y z m).1.2; rw [w.1, k.2] at this; omega)])
  · have km := ik_sr.mp km
    rw [gr_sr]
    split
    · next y =>
      rw [y.1]
      exact hc
    · exact h.c2 m km
end
end
section
/-! ===== ledgers: makeRoom, open, write, become ===== -/
theorem led_e {g0 g1 r : Int32} {L : Nat} (h0 : g0 = 5 ∨ g0 = 6 ∨ g0 = 7) (h1 : g1 = 600) (hr : rg r 0 600) (hL2 : (L : Int) ≤ 600 * g0.toInt) : (r * g0).toInt = r.toInt * g0.toInt ∧ (g1 * g0).toInt = 600 * g0.toInt ∧ (Int32.ofNat L).toInt = L ∧ (2 * Int32.ofNat L).toInt = 2 * L ∧ (g0.toInt = 5 ∨ g0.toInt = 6 ∨ g0.toInt = 7) := by
  have e6 : (600 : Int32).toInt = 600 := by decide
  have e2 : (2 : Int32).toInt = 2 := by decide
  unfold rg at hr
  have hg : g0.toInt = 5 ∨ g0.toInt = 6 ∨ g0.toInt = 7 := by
    rcases h0 with h | h | h <;> rw [h]
    · exact Or.inl (by decide)
    · exact Or.inr (Or.inl (by decide))
    · exact Or.inr (Or.inr (by decide))
  have eL : (Int32.ofNat L).toInt = L := Int32.toInt_ofNat_of_lt (by omega)
  refine ⟨?_, ?_, eL, iMul (by rw [e2, eL]) (by omega) (by omega), hg⟩
  · rcases hg with g | g | g <;> exact iMul rfl (by rw [g]; omega) (by rw [g]; omega)
  · rw [h1]
    rcases hg with g | g | g <;> exact iMul (by rw [e6]) (by rw [g]; omega) (by rw [g]; omega)
theorem led_N {g0 g1 r N : Int32} {L : Nat} (h0 : g0 = 5 ∨ g0 = 6 ∨ g0 = 7) (h1 : g1 = 600) (hr : rg r 0 600) (hL2 : (L : Int) ≤ 600 * g0.toInt) (c : ¬ r * g0 ≤ Int32.ofNat L) (e : (if (g1 * g0) < (if (r * g0) < (2 * (Int32.ofNat L)) then (2 * (Int32.ofNat L)) else (r * g0)) then (g1 * g0) else (if (r * g0) < (2 * (Int32.ofNat L)) then (2 * (Int32.ofNat L)) else (r * g0))) = N) : (L : Int) < N.toInt ∧ N.toInt ≤ 600 * g0.toInt ∧ r.toInt * g0.toInt ≤ N.toInt ∧ (N.toInt = 600 * g0.toInt ∨ 2 * (L : Int) ≤ N.toInt) ∧ N.toInt ≤ 4200 := by
  obtain ⟨e1, e2, e3, e4, hg⟩ := led_e h0 h1 hr hL2
  have c := mt iLe.mpr c
  unfold rg at hr
  rw [e1, e3] at c
  have hb : r.toInt * g0.toInt ≤ 600 * g0.toInt := by
    rcases hg with g | g | g <;> rw [g] <;> omega
  have hm : ∃ M : Int32, (if (r * g0) < (2 * (Int32.ofNat L)) then (2 * (Int32.ofNat L)) else (r * g0)) = M ∧ r.toInt * g0.toInt ≤ M.toInt ∧ 2 * (L : Int) ≤ M.toInt := by
    refine ⟨_, rfl, ?_, ?_⟩
    · split
      · next z =>
        have z := iLt.mp z
        rw [e1, e4] at z
        rw [e4]
        omega
      · rw [e1]
        omega
    · split
      · rw [e4]
        omega
      · next z =>
        have z := mt iLt.mpr z
        rw [e1, e4] at z
        rw [e1]
        omega
  obtain ⟨M, m1, m2, m3⟩ := hm
  rw [m1] at e
  split at e
  · next z =>
    have z := iLt.mp z
    rw [← e]
    rw [e2] at z ⊢
    refine ⟨by omega, by omega, by omega, Or.inl rfl, by omega⟩
  · next z =>
    have z := mt iLt.mpr z
    rw [e2] at z
    rw [← e]
    refine ⟨by omega, by omega, by omega, Or.inr (by omega), by omega⟩
theorem y_copyOf {S : Cst} {z : Nat} {N : Int32} (h : clS S) (k : iK S z 20) (h1 : (lnC S z : Int) < N.toInt) (h2 : N.toInt ≤ 4200) : ∃ f, f_K7_copyOf_59c91 S z N = (some S.1, sfC (puC S [(20, N.toNatClampNeg, fun _ => 0, fun _ => none)] N.toNatClampNeg) S.1 f) ∧ (∀ lc ls, S.1 + 1 ≤ lc → S.2.1 + N.toNatClampNeg ≤ ls → p_K7_copyOf_59c91 S z lc ls N) ∧ ∀ i, i < lnC S z → f i = giC S z i := by
  have hn := iNat (x := N) (by omega)
  have eL : (Int32.ofNat (lnC S z)).toInt = lnC S z := Int32.toInt_ofNat_of_lt (by omega)
  have ne : ¬ N = Int32.ofNat (lnC S z) := fun e => by rw [e, eL] at h1; omega
  have z0 : (0 : Int32).toNatClampNeg = 0 := rfl
  have lz : lnC (puC S [(20, N.toNatClampNeg, fun _ => 0, fun _ => none)] N.toNatClampNeg) z = lnC S z := by
    unfold lnC
    rw [puC_old k.1]
  have ln : lnC (puC S [(20, N.toNatClampNeg, fun _ => 0, fun _ => none)] N.toNatClampNeg) S.1 = N.toNatClampNeg := (nw_ln (cs := [(20, N.toNatClampNeg, fun _ => 0, fun _ => none)]) 0).trans rfl
  have kn : iK (puC S [(20, N.toNatClampNeg, fun _ => 0, fun _ => none)] N.toNatClampNeg) S.1 20 := nw_ik (i := 0) (show 0 < 1 by omega) rfl
  have em : (if N < (Int32.ofNat (lnC S z)) then N else (Int32.ofNat (lnC S z))) = Int32.ofNat (lnC S z) := by
    rw [if_neg (fun y => by have := iLt.mp y; rw [eL] at this; omega)]
  have et : (Int32.ofNat (lnC S z)).toNatClampNeg = lnC S z := by
    have := iNat (x := Int32.ofNat (lnC S z)) (by omega)
    omega
  unfold f_K7_copyOf_59c91 p_K7_copyOf_59c91
  simp only [if_neg ne]
  unfold b_K7_copyOf_59c91_17a q_K7_copyOf_59c91_17a
  rw [Option.getD_some, lz, em, et, z0, ln]
  refine ⟨_, rfl, fun lc ls a b => ⟨⟨⟨h, fun y => by have := iLt.mp y; rw [i0] at this; omega, by omega⟩, a, b⟩, ir_so.mpr kn, ⟨⟨by decide, by decide, fun y => by have := iLt.mp y; rw [i0, eL] at this; omega⟩, by omega, by omega⟩, trivial⟩, fun i hi => ?_⟩
  rw [pk_cpy_in (Nat.zero_le i) (by omega), Nat.zero_add, Nat.sub_zero, pu_gi k.1]
section
variable {E E0 : Nat → Prop} {x : Nat} {S S1 : Cst} {T T1 : Nat → List Nat} {F F1 : List Nat} {col c1 : Nat → Nat}
/-- what a ledger's growth leaves: all other cells, its numbers, its rows -/
def LG (E : Nat → Prop) (T : Nat → List Nat) (F : List Nat) (l : Nat) (S : Cst) (col : Nat → Nat) (S2 : Cst) (c2 : Nat → Nat) : Prop := CI E S2 T F c2 ∧ eN S S2 ∧ (∀ q, q < S.1 → c2 q = col q) ∧ (∀ q, q < S.1 → q ≠ l → S2.2.2 q = S.2.2 q) ∧ (∀ k, giC S2 l k = giC S l k) ∧ (S2.1 + lcl S l ≤ S.1 + lcl S2 l ∧ S2.2.1 + psL S l ≤ S.2.1 + psL S2 l) ∧ ∀ i, i < lcl S l → giC S2 ((grC S2 l 2).getD 0) i = giC S ((grC S l 2).getD 0) i
theorem y_room (h : CI E S T F col) {l : Nat} (k : iK S l 2) {r : Int32} (hr : rg r 0 600) : ∃ S2 c2, f_Y3_makeRoom S l r = (0, S2) ∧ (∀ lc ls, S2.1 ≤ lc → S2.2.1 ≤ ls → p_Y3_makeRoom S l lc ls r) ∧ LG E T F l S col S2 c2 ∧ r.toInt * (giC S l 0).toInt ≤ lcl S2 l ∧ ((grC S2 l 2).getD 0 = (grC S l 2).getD 0 ∨ S.1 ≤ (grC S2 l 2).getD 0) := by
  have w := h.wf.w2 k
  obtain ⟨e1, e2, e3, e4, hg⟩ := led_e (L := lnC S ((grC S l 2).getD 0)) w.1.1 w.1.2.1 hr w.2.2.2
  have kz := w.2.1.2
  have hL := w.2.2.2
  unfold f_Y3_makeRoom p_Y3_makeRoom
  by_cases c : r * giC S l 0 ≤ Int32.ofNat (lnC S ((grC S l 2).getD 0))
  · simp only [if_pos c]
    have c := iLe.mp c
    rw [e1, e3] at c
    exact ⟨S, col, rfl, fun _ _ _ _ => ⟨w.2.1, trivial⟩, ⟨h, eN.rf S, fun _ _ => rfl, fun _ _ _ => rfl, fun _ => rfl, ⟨Nat.le_refl _, Nat.le_refl _⟩, fun _ _ => rfl⟩, c, Or.inl rfl⟩
  · simp only [if_neg c]
    generalize hN : (if ((giC S l 1) * (giC S l 0)) < (if (r * (giC S l 0)) < (2 * (Int32.ofNat (lnC S ((grC S l 2).getD 0)))) then (2 * (Int32.ofNat (lnC S ((grC S l 2).getD 0)))) else (r * (giC S l 0))) then ((giC S l 1) * (giC S l 0)) else (if (r * (giC S l 0)) < (2 * (Int32.ofNat (lnC S ((grC S l 2).getD 0)))) then (2 * (Int32.ofNat (lnC S ((grC S l 2).getD 0)))) else (r * (giC S l 0)))) = N
    obtain ⟨n1, n2, n3, n4, n5⟩ := led_N w.1.1 w.1.2.1 hr w.2.2.2 c hN
    have hn := iNat (x := N) (by omega)
    obtain ⟨f, q1, q2, q3⟩ := y_copyOf h.wf.1 kz n1 n5
    rw [q1]
    have ek : kdC (puC S [(20, N.toNatClampNeg, fun _ => 0, fun _ => none)] N.toNatClampNeg) S.1 = 20 := (nw_kd (cs := [(20, N.toNatClampNeg, fun _ => 0, fun _ => none)]) 0).trans rfl
    have el : lnC (puC S [(20, N.toNatClampNeg, fun _ => 0, fun _ => none)] N.toNatClampNeg) S.1 = N.toNatClampNeg := (nw_ln (cs := [(20, N.toNatClampNeg, fun _ => 0, fun _ => none)]) 0).trans rfl
    have g := eN.pu S [(20, N.toNatClampNeg, fun _ => 0, fun _ => none)] N.toNatClampNeg
    have wf : wfS (puC S [(20, N.toNatClampNeg, fun _ => 0, fun _ => none)] N.toNatClampNeg) := by
      refine wf_pu h.wf (fun i hi k z e => ?_) (fun i hi => ?_)
      · have hi : i < 1 := hi
        have : i = 0 := by omega
        subst this
        cases e
      · have hi : i < 1 := hi
        have : i = 0 := by omega
        subst this
        exact WA.one ek (fun z => by omega) (fun z => by omega) (fun z => by omega) (fun z => by omega) (fun z => by omega) (fun z => by omega) (fun z => by omega) (fun z => by omega) (fun z => by omega) (fun z => by omega) (fun z => by omega)
    have nk : ∀ q, S.1 ≤ q → ¬ iK (puC S [(20, N.toNatClampNeg, fun _ => 0, fun _ => none)] N.toNatClampNeg) q 4 ∧ ¬ iK (puC S [(20, N.toNatClampNeg, fun _ => 0, fun _ => none)] N.toNatClampNeg) q 0 ∧ ¬ iK (puC S [(20, N.toNatClampNeg, fun _ => 0, fun _ => none)] N.toNatClampNeg) q 2 := fun q a => by
      have hq : ∀ c, iK (puC S [(20, N.toNatClampNeg, fun _ => 0, fun _ => none)] N.toNatClampNeg) q c → c = 20 := fun c kq => by
        have b : q < S.1 + 1 := kq.1
        have : q = S.1 := by omega
        subst this
        exact kq.2.symm.trans ek
      exact ⟨fun z => by have := hq _ z; omega, fun z => by have := hq _ z; omega, fun z => by have := hq _ z; omega⟩
    have ci := h.pu (x := col l) wf (G := []) nk ⟨List.nodup_nil, fun q m => by cases m⟩
    have ci2 := ci.sf (a := S.1) (f := f) (Or.inl ek)
    have k2 : iK (sfC (puC S [(20, N.toNatClampNeg, fun _ => 0, fun _ => none)] N.toNatClampNeg) S.1 f) l 2 := ik_sf.mpr (k.n g)
    have hgl : ∀ j, giC (sfC (puC S [(20, N.toNatClampNeg, fun _ => 0, fun _ => none)] N.toNatClampNeg) S.1 f) l j = giC S l j := fun j => by
      rw [gi_sf, if_neg (fun y => by have := k.1; omega), pu_gi k.1]
    have ci3 := ci2.led (l := l) (z := S.1) k2 (ik_sf.mpr ⟨Nat.lt_add_one _, ek⟩) (by rw [ln_sf, el]; omega) (by rw [ln_sf, el, hgl]; omega) (by rw [cN_new (Nat.le_refl _), cN_old k.1])
    have hl3 : (grC (srC (sfC (puC S [(20, N.toNatClampNeg, fun _ => 0, fun _ => none)] N.toNatClampNeg) S.1 f) l 2 (some S.1)) l 2).getD 0 = S.1 := by
      rw [gr_sr, if_pos ⟨rfl, rfl⟩]
      rfl
    have lc2 : lcl (srC (sfC (puC S [(20, N.toNatClampNeg, fun _ => 0, fun _ => none)] N.toNatClampNeg) S.1 f) l 2 (some S.1)) l = N.toNatClampNeg := by
      unfold lcl
      rw [hl3, ln_sr, ln_sf, el]
    unfold b_Y3_makeRoom_47a q_Y3_makeRoom_47a b_Y3_makeRoom_50
    refine ⟨_, _, rfl, fun lc ls a b => ?_, ⟨ci3, (g.tr (eK.sf ..).n).tr (eK.sr ..).n, fun q a => cN_old a, fun q a n => ?_, fun j => ?_, ⟨?_, ?_⟩, fun i hi => ?_⟩, ?_, Or.inr (Nat.le_of_eq hl3.symm)⟩
    · have a' : S.1 + 1 ≤ lc := a
      have b' : S.2.1 + N.toNatClampNeg ≤ ls := b
      refine ⟨w.2.1, w.2.1, w.2.1, ⟨⟨?_, a'⟩, ?_, b'⟩, q2 _ _ (Nat.le_refl _) (Nat.le_refl _), trivial⟩
      · show S.1 ≤ S.1 + 1
        omega
      · show S.2.1 ≤ S.2.1 + N.toNatClampNeg
        omega
    · rw [ce_sr _ _ n, ce_sf _ (by omega), puC_old a]
    · rw [gi_sr, hgl]
    · show S.1 + 1 + _ ≤ _
      rw [lc2]
      have : lcl S l = lnC S ((grC S l 2).getD 0) := rfl
      omega
    · show S.2.1 + N.toNatClampNeg + _ ≤ _
      unfold psL
      rw [lc2, gi_sr, hgl]
      have e : lcl S l = lnC S ((grC S l 2).getD 0) := rfl
      rw [e]
      have hc := iNat (x := giC S l 0) (by omega)
      rw [if_neg (by omega)]
      split <;> omega
    · rw [hl3, gi_sr, gi_sf, if_pos rfl]
      exact q3 i hi
    · rw [lc2]
      omega
end
end
section
/-! ===== ledgers: write, open, become ===== -/
theorem y_write {S : Cst} {l : Nat} (h : wfS S) (k : iK S l 2) (c v : Int32) : p_Y3_write S l c v ∧ ∃ S2, f_Y3_write S l c v = (0, S2) ∧ (S2 = S ∨ ∃ i, S2 = siC S ((grC S l 2).getD 0) i v) := by
  have w := h.w2 k
  unfold p_Y3_write f_Y3_write q_Y3_write_46 b_Y3_write_46
  refine ⟨iteI (fun _ => trivial) (fun _ => iteI (fun _ => trivial) (fun _ => iteI (fun _ => trivial) (fun a => ⟨w.2.1, iteI (fun _ => trivial) (fun b => ⟨w.2.1, ix_ge a b, trivial⟩)⟩))), ?_⟩
  repeat' split
  · exact ⟨S, rfl, Or.inl rfl⟩
  · exact ⟨S, rfl, Or.inl rfl⟩
  · exact ⟨S, rfl, Or.inl rfl⟩
  · exact ⟨S, rfl, Or.inl rfl⟩
  · exact ⟨_, rfl, Or.inr ⟨_, rfl⟩⟩
section
variable {E E0 : Nat → Prop} {x : Nat} {S S1 S2 : Cst} {T T1 : Nat → List Nat} {F F1 : List Nat} {col c1 c2 : Nat → Nat}
/-- what a ledger's steps leave -/
def LSt (E : Nat → Prop) (T : Nat → List Nat) (F : List Nat) (l : Nat) (S : Cst) (col : Nat → Nat) (S2 : Cst) (c2 : Nat → Nat) : Prop := CI E S2 T F c2 ∧ eN S S2 ∧ (∀ q, q < S.1 → c2 q = col q) ∧ (∀ q, q < S.1 → q ≠ l → q ≠ (grC S l 2).getD 0 → S2.2.2 q = S.2.2 q) ∧ ((grC S2 l 2).getD 0 = (grC S l 2).getD 0 ∨ S.1 ≤ (grC S2 l 2).getD 0) ∧ (giC S2 l 0 = giC S l 0 ∧ giC S2 l 1 = giC S l 1) ∧ (S2.1 + lcl S l ≤ S.1 + lcl S2 l ∧ S2.2.1 + psL S l ≤ S.2.1 + psL S2 l)
theorem LSt.rf (h : CI E S T F col) (l : Nat) : LSt E T F l S col S col := ⟨h, eN.rf S, fun _ _ => rfl, fun _ _ _ _ => rfl, Or.inl rfl, ⟨rfl, rfl⟩, Nat.le_refl _, Nat.le_refl _⟩
theorem LSt.tr {l : Nat} (h : LSt E T F l S col S1 c1) (g : LSt E T F l S1 c1 S2 c2) : LSt E T F l S col S2 c2 := by
  obtain ⟨_, h2, h3, h4, h5, h6, h7, h8⟩ := h
  obtain ⟨g1, g2, g3, g4, g5, g6, g7, g8⟩ := g
  refine ⟨g1, h2.tr g2, fun q a => (g3 q (Nat.lt_of_lt_of_le a h2.1.1)).trans (h3 q a), fun q a n m => (g4 q (Nat.lt_of_lt_of_le a h2.1.1) n (fun z => ?_)).trans (h4 q a n m), ?_, ⟨g6.1.trans h6.1, g6.2.trans h6.2⟩, by omega, by omega⟩
  · rcases h5 with y | y
    · exact m (z.trans y)
    · omega
  · have := h2.1.1
    rcases g5 with y | y
    · rw [y]
      exact h5
    · exact Or.inr (by omega)
theorem LSt.of {l : Nat} (k : iK S l 2) (h : LG E T F l S col S2 c2) (e : (grC S2 l 2).getD 0 = (grC S l 2).getD 0 ∨ S.1 ≤ (grC S2 l 2).getD 0) : LSt E T F l S col S2 c2 := ⟨h.1, h.2.1, h.2.2.1, fun q a n _ => h.2.2.2.1 q a n, e, ⟨h.2.2.2.2.1 0, h.2.2.2.2.1 1⟩, h.2.2.2.2.2.1⟩
theorem LSt.k {l : Nat} (h : LSt E T F l S col S2 c2) (k : iK S l 2) : iK S2 l 2 := k.n h.2.1
theorem LSt.z {l : Nat} (h : CI E S T F col) (k : iK S l 2) (i : Nat) (v : Int32) : LSt E T F l S col (siC S ((grC S l 2).getD 0) i v) col := by
  have w := (h.wf.w2 k).2.1.2
  have nl : l ≠ (grC S l 2).getD 0 := fun z => by have := w.2; rw [← z, k.2] at this; omega
  refine ⟨h.si ⟨fun z => by rw [w.2] at z; omega, fun z => by rw [w.2] at z; omega, fun z => by rw [w.2] at z; omega, fun z => by rw [w.2] at z; omega, fun z => by rw [w.2] at z; omega, fun z => by rw [w.2] at z; omega⟩ (by rw [w.2]; decide), (eK.si ..).n, fun _ _ => rfl, fun q _ _ n => ce_si _ _ n, Or.inl (by rw [gr_si]), ⟨by rw [gi_si, if_neg (fun z => nl z.1)], by rw [gi_si, if_neg (fun z => nl z.1)]⟩, ?_, ?_⟩
  · unfold lcl
    rw [gr_si, ln_si, n1_si]
    exact Nat.le_refl _
  · unfold psL lcl
    have e0 : giC (siC S ((grC S l 2).getD 0) i v) l 0 = giC S l 0 := by rw [gi_si, if_neg (fun z => nl z.1)]
    rw [gr_si, ln_si, e0, n2_si]
    exact Nat.le_refl _
theorem LSt.zf {l : Nat} (h : CI E S T F col) (k : iK S l 2) (f : Nat → Int32) : LSt E T F l S col (sfC S ((grC S l 2).getD 0) f) col := by
  have w := (h.wf.w2 k).2.1.2
  have nl : l ≠ (grC S l 2).getD 0 := fun z => by have := w.2; rw [← z, k.2] at this; omega
  refine ⟨h.sf (Or.inl w.2), (eK.sf ..).n, fun _ _ => rfl, fun q _ _ n => ce_sf _ n, Or.inl (by rw [gr_sf]), ⟨by rw [gi_sf, if_neg nl], by rw [gi_sf, if_neg nl]⟩, ?_, ?_⟩
  · unfold lcl
    rw [gr_sf, ln_sf, n1_sf]
    exact Nat.le_refl _
  · unfold psL lcl
    have e0 : giC (sfC S ((grC S l 2).getD 0) f) l 0 = giC S l 0 := by rw [gi_sf, if_neg nl]
    rw [gr_sf, ln_sf, e0, n2_sf]
    exact Nat.le_refl _
theorem LSt.n {l : Nat} (h : CI E S T F col) (k : iK S l 2) {v : Int32} (hv : rg v 0 600) : LSt E T F l S col (siC S l 3 v) col := by
  refine ⟨h.si ⟨fun z => by rw [k.2] at z; omega, fun _ => ⟨rfl, hv⟩, fun z => by rw [k.2] at z; omega, fun z => by rw [k.2] at z; omega, fun z => by rw [k.2] at z; omega, fun z => by rw [k.2] at z; omega⟩ (by rw [k.2]; decide), (eK.si ..).n, fun _ _ => rfl, fun q _ n _ => ce_si _ _ n, Or.inl (by rw [gr_si]), ⟨by rw [gi_si, if_neg (by omega)], by rw [gi_si, if_neg (by omega)]⟩, ?_, ?_⟩
  · unfold lcl
    rw [gr_si, ln_si, n1_si]
    exact Nat.le_refl _
  · unfold psL lcl
    have e0 : giC (siC S l 3 v) l 0 = giC S l 0 := by rw [gi_si, if_neg (by omega)]
    rw [gr_si, ln_si, e0, n2_si]
    exact Nat.le_refl _
theorem w_write (h : CI E S T F col) {l : Nat} (k : iK S l 2) (c v : Int32) : p_Y3_write S l c v ∧ ∃ S2, f_Y3_write S l c v = (0, S2) ∧ LSt E T F l S col S2 col ∧ giC S2 l 3 = giC S l 3 := by
  obtain ⟨p, S2, f, e⟩ := y_write h.wf k c v
  refine ⟨p, S2, f, ?_⟩
  rcases e with rfl | ⟨i, rfl⟩
  · exact ⟨LSt.rf h l, rfl⟩
  · have w := (h.wf.w2 k).2.1.2
    exact ⟨LSt.z h k i v, by rw [gi_si, if_neg (fun z => by have := w.2; rw [← z.1, k.2] at this; omega)]⟩
theorem isF (S : Cst) (l : Nat) : f_Y3_isFull S l = if giC S l 3 < giC S l 1 then 0 else 1 := rfl
theorem w_open (h : CI E S T F col) {l : Nat} (k : iK S l 2) : ∃ S2 c2, f_Y3_open S l = (0, S2) ∧ (∀ lc ls, S2.1 ≤ lc → S2.2.1 ≤ ls → p_Y3_open S l lc ls) ∧ LSt E T F l S col S2 c2 ∧ giC S2 l 3 = if giC S l 3 < 600 then giC S l 3 + 1 else giC S l 3 := by
  have w := h.wf.w2 k
  have e6 : (600 : Int32).toInt = 600 := by decide
  have hr := w.1.2.2
  unfold rg at hr
  unfold f_Y3_open p_Y3_open
  rw [isF, w.1.2.1]
  by_cases c : giC S l 3 < 600
  · rw [if_pos c, if_pos c, if_pos rfl]
    have c := iLt.mp c
    rw [e6] at c
    have e1 := iAdd (x := giC S l 3) (y := 1) (by rw [i1]; omega) (by rw [i1]; omega)
    rw [i1] at e1
    have g := LSt.n h k (v := giC S l 3 + 1) ⟨by omega, by omega⟩
    have k2 := g.k k
    obtain ⟨S2, c2, f1, f2, f3, f4, f5⟩ := y_room g.1 k2 (r := giC S l 3 + 1) ⟨by omega, by omega⟩
    unfold b_Y3_open_22a q_Y3_open_22a b_Y3_open_25 q_Y3_open_25
    rw [show giC (siC S l 3 (giC S l 3 + 1)) l 3 = giC S l 3 + 1 by rw [gi_si, if_pos ⟨rfl, rfl⟩], f1]
    refine ⟨S2, c2, rfl, fun lc ls a b => ⟨y_isFull S l, ?_⟩, g.tr (LSt.of k2 f3 f5), ?_⟩
    · rw [if_pos rfl]
      exact ⟨⟨⟨f3.2.1.1.1, a⟩, f3.2.1.1.2, b⟩, f2 _ _ (Nat.le_refl _) (Nat.le_refl _), trivial⟩
    · rw [f3.2.2.2.2.1 3, gi_si, if_pos ⟨rfl, rfl⟩]
  · rw [if_neg c, if_neg c, if_neg (by decide)]
    unfold b_Y3_open_25 q_Y3_open_25
    exact ⟨S, col, rfl, fun _ _ _ _ => ⟨y_isFull S l, by rw [if_neg (by decide)]; trivial⟩, LSt.rf h l, rfl⟩
theorem w_ledBecome (h : CI E S T F col) {l m : Nat} (k : iK S l 2) (km : iK S m 2) : ∃ S2 c2, f_Y3_become S l m = (0, S2) ∧ (∀ lc ls, S2.1 ≤ lc → S2.2.1 ≤ ls → p_Y3_become S l m lc ls) ∧ LSt E T F l S col S2 c2 ∧ giC S2 l 3 = giC S m 3 := by
  have w := h.wf.w2 k
  have wm := h.wf.w2 km
  have e6 : (600 : Int32).toInt = 600 := by decide
  have hr := wm.1.2.2
  unfold rg at hr
  have e1 : (if giC S l 1 < giC S m 3 then giC S l 1 else giC S m 3) = giC S m 3 := by
    rw [if_neg (fun z => by have := iLt.mp z; rw [w.1.2.1, e6] at this; omega)]
  unfold f_Y3_become p_Y3_become
  rw [e1]
  obtain ⟨S1, c1, f1, f2, f3, f4, f5⟩ := y_room h k wm.1.2.2
  rw [f1]
  have g := LSt.of k f3 f5
  have k1 := g.k k
  have w1 := g.1.wf.w2 k1
  have km1 := km.n g.2.1
  have wm1 := g.1.wf.w2 km1
  have hv : rg (giC S m 3) 0 600 := wm.1.2.2
  have key : ∃ S2, b_Y3_become_17a S1 l m (giC S m 3) = (0, S2) ∧ (∀ lc ls, q_Y3_become_17a S1 l m lc ls (giC S m 3)) ∧ LSt E T F l S1 c1 S2 c1 ∧ giC S2 l 3 = giC S m 3 := by
    obtain ⟨d1, d2, d3, d4, hg⟩ := led_e (L := lnC S1 ((grC S1 l 2).getD 0)) w1.1.1 w1.1.2.1 hv w1.2.2.2
    have hL2 := wm1.2.2.2
    have d5 : (Int32.ofNat (lnC S1 ((grC S1 m 2).getD 0))).toInt = lnC S1 ((grC S1 m 2).getD 0) := (led_e (L := lnC S1 ((grC S1 m 2).getD 0)) wm1.1.1 wm1.1.2.1 hv wm1.2.2.2).2.2.1
    unfold b_Y3_become_17a q_Y3_become_17a b_Y3_become_64 q_Y3_become_64
    by_cases c1' : Int32.ofNat (lnC S1 ((grC S1 l 2).getD 0)) < giC S m 3 * giC S1 l 0
    · simp only [if_pos c1']
      exact ⟨_, rfl, fun _ _ => ⟨w1.2.1, trivial⟩, LSt.n g.1 k1 hv, by rw [gi_si, if_pos ⟨rfl, rfl⟩]⟩
    · simp only [if_neg c1']
      by_cases c2' : Int32.ofNat (lnC S1 ((grC S1 m 2).getD 0)) < giC S m 3 * giC S1 l 0
      · simp only [if_pos c2']
        exact ⟨_, rfl, fun _ _ => ⟨w1.2.1, wm1.2.1, trivial⟩, LSt.n g.1 k1 hv, by rw [gi_si, if_pos ⟨rfl, rfl⟩]⟩
      · simp only [if_neg c2']
        have c1' := mt iLt.mpr c1'
        have c2' := mt iLt.mpr c2'
        rw [d1, d3] at c1'
        rw [d1, d5] at c2'
        have hn : 0 ≤ (giC S m 3).toInt * (giC S1 l 0).toInt := by
          rcases hg with y | y | y <;> rw [y] <;> omega
        have en := iNat (x := giC S m 3 * giC S1 l 0) (by rw [d1]; exact hn)
        rw [d1] at en
        have z0 : (0 : Int32).toNatClampNeg = 0 := rfl
        have g2 := LSt.zf (l := l) g.1 k1 (va_cpy (giC S1 ((grC S1 m 2).getD 0)) (giC S1 ((grC S1 l 2).getD 0)) (0 : Int32).toNatClampNeg (0 : Int32).toNatClampNeg (giC S m 3 * giC S1 l 0).toNatClampNeg)
        refine ⟨_, rfl, fun _ _ => ⟨w1.2.1, wm1.2.1, wm1.2.1, w1.2.1, ⟨⟨by decide, by decide, fun y => ?_⟩, by omega, by omega⟩, trivial⟩, g2.tr (LSt.n g2.1 (g2.k k1) hv), by rw [gi_si, if_pos ⟨rfl, rfl⟩]⟩
        have y := iLt.mp y
        rw [i0, d1] at y
        omega
  obtain ⟨S2, r1, r2, r3, r4⟩ := key
  refine ⟨S2, c1, r1, fun lc ls a b => ⟨⟨⟨f3.2.1.1.1, ?_⟩, f3.2.1.1.2, ?_⟩, f2 _ _ (Nat.le_refl _) (Nat.le_refl _), r2 _ _⟩, g.tr r3, r4⟩
  · exact Nat.le_trans r3.2.1.1.1 a
  · exact Nat.le_trans r3.2.1.1.2 b
/-- a ledger's step is one of its assembly -/
theorem Sst.led (h : Sst E x S T F col S1 T1 F1 c1) {l : Nat} (hl : l = x + 7 ∨ l = x + 9) (g : LSt E T1 F1 l S1 c1 S2 c2) : Sst E x S T F col S2 T1 F1 c2 := by
  have w := h.ci.wf.w0 h.k1
  have k : iK S1 l 2 := by
    rcases hl with e | e <;> rw [e]
    · exact w.1.2.2.2.2.1
    · exact w.1.2.2.2.2.2.1
  have cl : c1 l = x := by
    rcases hl with e | e <;> rw [e]
    · exact h.cx 7 (by omega)
    · exact h.cx 9 (by omega)
  have cz : c1 ((grC S1 l 2).getD 0) = x := by rw [h.ci.c2 l k, cl]
  have oth : ∀ m, iK S1 m 2 → m ≠ l → lcl S2 m = lcl S1 m ∧ psL S2 m = psL S1 m := fun m km n => by
    have wz := (h.ci.wf.w2 k).2.1.2
    have e : S2.2.2 m = S1.2.2 m := g.2.2.2.1 m km.1 n (fun z => by have := wz.2; rw [← z, km.2] at this; omega)
    have e2 : grC S2 m 2 = grC S1 m 2 := by unfold grC; rw [e]
    have e0 : giC S2 m 0 = giC S1 m 0 := by unfold giC; rw [e]
    have a : lcl S2 m = lcl S1 m := by
      unfold lcl
      rw [e2]
      exact (g.2.1.2 _ (h.ci.wf.w2 km).2.1.2.1).2
    refine ⟨a, ?_⟩
    unfold psL
    rw [a, e0]
  refine h.tr ⟨g.1, g.2.1, g.2.2.1, fun q a n => g.2.2.2.1 q a (fun z => n (by rw [z]; exact cl)) (fun z => n (by rw [z]; exact cz)), fun _ _ _ => rfl, ?_, ?_, h.k1, fun q m => ?_, id⟩
  · have g7 := g.2.2.2.2.2.2.1
    unfold pcL
    rcases hl with e | e <;> rw [e] at g7 oth
    · have := (oth (x + 9) w.1.2.2.2.2.2.1 (by omega)).1
      omega
    · have := (oth (x + 7) w.1.2.2.2.2.1 (by omega)).1
      omega
  · have g8 := g.2.2.2.2.2.2.2
    unfold plL
    rcases hl with e | e <;> rw [e] at g8 oth
    · have := (oth (x + 9) w.1.2.2.2.2.2.1 (by omega)).2
      omega
    · have := (oth (x + 7) w.1.2.2.2.2.1 (by omega)).2
      omega
  · rw [g.2.2.1 q (h.ci.tf.2 q m).1.1]
    exact h.fc q m
end
end
section
/-! ===== what holds of an assembly's places; values of readers ===== -/
def noE : Nat → Prop := fun _ => False
theorem noE_n : ∀ c, ¬ noE c := fun _ h => h
def nK (v : Int32) : Prop := v = 4 ∨ v = 5 ∨ v = 7
def nd (S : Cst) (L : List Nat) : Prop := ∃ q, q ∈ L ∧ nK (giC S q 2)
def sK (v : Int32) : Prop := v = 0 ∨ v = 1 ∨ v = 2 ∨ v = 3
def PI (S : Cst) (T : Nat → List Nat) (x : Nat) : Prop := (∀ d, pl x d → (giC S d 0 = 0 → T (d + 1) = []) ∧ (giC S d 0 ≠ 3 → (T (d + 1)).length ≤ 1) ∧ sK (giC S d 0) ∧ (d = x + 3 → giC S d 0 ≠ 1)) ∧ (nd S (T (x + 1)) → 1 ≤ fcU S x 8) ∧ (giC S (x + 3) 0 = 3 → 1 ≤ fcU S x 8) ∧ (nd S (T (x + 1)) → giC S (x + 3) 0 = 3 → 2 ≤ fcU S x 8)
/-- the sorts of places and the kinds of motions stand -/
def gP (S S' : Cst) : Prop := eN S S' ∧ (∀ q, q < S.1 → kdC S q = 5 → giC S' q 0 = giC S q 0) ∧ (∀ q, q < S.1 → kdC S q = 3 → giC S' q 2 = giC S q 2)
theorem gP.rf (S : Cst) : gP S S := ⟨eN.rf S, fun _ _ _ => rfl, fun _ _ _ => rfl⟩
theorem gP.tr {S S1 S2 : Cst} (h : gP S S1) (g : gP S1 S2) : gP S S2 := ⟨h.1.tr g.1, fun q a k => (g.2.1 q (Nat.lt_of_lt_of_le a h.1.1.1) (by rw [(h.1.2 q a).1]; exact k)).trans (h.2.1 q a k), fun q a k => (g.2.2 q (Nat.lt_of_lt_of_le a h.1.1.1) (by rw [(h.1.2 q a).1]; exact k)).trans (h.2.2 q a k)⟩
theorem gF.p {S S' : Cst} (h : gF S S') : gP S S' := ⟨h.1, fun q a k => h.2.1 q a (by rw [k]; decide) 0, fun q a k => h.2.1 q a (by rw [k]; decide) 2⟩
theorem gX.p {D : Nat → Prop} {S S' : Cst} (h : gX D S S') (h5 : ∀ q, q < S.1 → D q → kdC S q ≠ 5) (h3 : ∀ q, q < S.1 → D q → kdC S q = 3 → giC S' q 2 = giC S q 2) : gP S S' := by
  refine ⟨h.1, fun q a k => h.2.1 q a (by rw [k]; decide) (fun z => h5 q a z k) 0, fun q a k => ?_⟩
  by_cases z : D q
  · exact h3 q a z k
  · exact h.2.1 q a (by rw [k]; decide) z 2
theorem gP.si {S : Cst} {a b : Nat} {v : Int32} (h5 : kdC S a = 5 → b ≠ 0) (h3 : kdC S a = 3 → b ≠ 2) : gP S (siC S a b v) := by
  refine ⟨(eK.si S a b v).n, fun q _ k => ?_, fun q _ k => ?_⟩
  · rw [gi_si, if_neg (fun z => h5 (by rw [← z.1]; exact k) z.2.symm)]
  · rw [gi_si, if_neg (fun z => h3 (by rw [← z.1]; exact k) z.2.symm)]
theorem gP.sf {S : Cst} {a : Nat} {f : Nat → Int32} (h : kdC S a ≠ 5 ∧ kdC S a ≠ 3) : gP S (sfC S a f) := by
  refine ⟨(eK.sf S a f).n, fun q _ k => ?_, fun q _ k => ?_⟩
  · rw [gi_sf, if_neg (fun z => h.1 (by rw [← z]; exact k))]
  · rw [gi_sf, if_neg (fun z => h.2 (by rw [← z]; exact k))]
theorem LSt.p {E : Nat → Prop} {T : Nat → List Nat} {F : List Nat} {S S2 : Cst} {col c2 : Nat → Nat} {l : Nat} (h : LSt E T F l S col S2 c2) (k : iK S l 2) (wf : wfS S) : gP S S2 := by
  have kz := (wf.w2 k).2.1.2
  have g := fun (q : Nat) (a : q < S.1) (n2 : kdC S q ≠ 2) (n20 : kdC S q ≠ 20) => h.2.2.2.1 q a (fun z => n2 (by rw [z]; exact k.2)) (fun z => n20 (by rw [z]; exact kz.2))
  refine ⟨h.2.1, fun q a e => ?_, fun q a e => ?_⟩
  · unfold giC
    rw [g q a (by rw [e]; decide) (by rw [e]; decide)]
  · unfold giC
    rw [g q a (by rw [e]; decide) (by rw [e]; decide)]
theorem fcU_cg {S S' : Cst} {x : Nat} : ∀ n, (∀ p, p < n → giC S' (x + 13 + 3 * p) 0 = giC S (x + 13 + 3 * p) 0) → fcU S' x n = fcU S x n := by
  intro n
  induction n with
  | zero => intro _; rfl
  | succ n ih =>
    intro h
    rw [fcU, fcU, ih (fun p hp => h p (by omega)), h n (by omega)]
section
variable {E E0 : Nat → Prop} {x : Nat} {S S1 S2 : Cst} {T T1 T2 : Nat → List Nat} {F F1 : List Nat} {col c1 : Nat → Nat}
theorem pl.lt (h : CI E S T F col) (k : iK S x 0) {d : Nat} (o : pl x d) : iK S d 5 := by
  rcases o with o | ⟨p, hp, o⟩
  · rw [o]
    exact (h.wf.w0 k).1.2.2.1
  · rw [o]
    exact (dk_ix h.wf k hp).2
theorem PI.kp (h : PI S1 T1 x) (ci : CI E S1 T1 F1 c1) (k : iK S1 x 0) (g : gP S1 S2) (hT : ∀ c, own x c → c ≠ x → T2 c = T1 c) : PI S2 T2 x := by
  have hs : ∀ d, pl x d → giC S2 d 0 = giC S1 d 0 := fun d o => g.2.1 d (o.lt ci k).1 (o.lt ci k).2
  have hf : fcU S2 x 8 = fcU S1 x 8 := fcU_cg 8 (fun p hp => hs _ (Or.inr ⟨p, hp, rfl⟩))
  have ht := hT (x + 1) (Or.inr (Or.inl rfl)) (by omega)
  have hn : nd S2 (T2 (x + 1)) → nd S1 (T1 (x + 1)) := fun ⟨q, m, n⟩ => by
    rw [ht] at m
    have kq := (ci.tk _ q m).1
    rw [g.2.2 q kq.1 kq.2] at n
    exact ⟨q, m, n⟩
  refine ⟨fun d o => ?_, fun n => ?_, fun n => ?_, fun n m => ?_⟩
  · rw [hs d o, hT (d + 1) o.o.1 o.o.2.1]
    exact h.1 d o
  · rw [hf]
    exact h.2.1 (hn n)
  · rw [hf]
    rw [hs (x + 3) (Or.inl rfl)] at n
    exact h.2.2.1 n
  · rw [hf]
    rw [hs (x + 3) (Or.inl rfl)] at m
    exact h.2.2.2 (hn n) m
theorem at_s (h : CI E S T F col) {P : Nat} (e : ¬ E P) (k : iK S P 4) {i : Int32} (h1 : 0 ≤ i.toInt) (h2 : i.toInt < (T P).length) : f_Y5_at S P i = some ((T P).getD i.toNatClampNeg 0) := by
  have w := h.tp P e k
  have w4 := h.wf.w4 k
  have h9 : (Int32.ofNat 9).toInt = 9 := by decide
  have hn := iNat h1
  unfold f_Y5_at b_Y5_at_21 b_Y5_at_31
  rw [w4.2.1, Option.getD_some, w4.1.2, if_neg (fun z => by have := iLt.mp z; rw [i0] at this; omega), if_neg (fun z => by have := iLe.mp z; omega), if_pos (iLt.mpr (by rw [h9]; omega)), w.2.2 _ (by omega)]
theorem at_n (h : CI E S T F col) {P : Nat} (e : ¬ E P) (k : iK S P 4) {i : Int32} (h2 : i.toInt < 0 ∨ (T P).length ≤ i.toInt) : f_Y5_at S P i = none := by
  have w := h.tp P e k
  unfold f_Y5_at b_Y5_at_21 b_Y5_at_31
  by_cases c : i < 0
  · rw [if_pos c]
  · rw [if_neg c, if_pos]
    have c := mt iLt.mpr c
    rw [i0] at c
    exact iLe.mpr (by omega)
theorem tp_n (h : CI E S T F col) {P : Nat} (e : ¬ E P) (k : iK S P 4) (hT : T P = []) : f_Y5_top S P = none := by
  have w := h.tp P e k
  rw [hT] at w
  have w1 : (giC S P 1).toInt = 0 := w.1
  have e1 := iSub (x := giC S P 1) (y := 1) (by rw [i1]; omega) (by rw [i1]; omega)
  rw [i1] at e1
  exact at_n h e k (Or.inl (by omega))
theorem tp_s (h : CI E S T F col) {P q : Nat} {l : List Nat} (e : ¬ E P) (k : iK S P 4) (hT : T P = l ++ [q]) : f_Y5_top S P = some q := by
  have w := h.tp P e k
  have hl : (T P).length = l.length + 1 := by rw [hT, List.length_append]; rfl
  have e1 := iSub (x := giC S P 1) (y := 1) (by rw [i1]; omega) (by rw [i1]; omega)
  rw [i1] at e1
  have hn := iNat (x := giC S P 1 - 1) (by omega)
  have := at_s h e k (i := giC S P 1 - 1) (by omega) (by omega)
  unfold f_Y5_top
  rw [this, hT]
  congr 1
  rw [List.getD_eq_getElem?_getD, show (giC S P 1 - 1).toNatClampNeg = l.length by omega, List.getElem?_append_right (Nat.le_refl _), Nat.sub_self]
  rfl
/-- the top is none: nothing there; it is one: it is the last -/
theorem tp_i (h : CI E S T F col) {P : Nat} (e : ¬ E P) (k : iK S P 4) : (f_Y5_top S P = none → T P = []) ∧ (∀ q, f_Y5_top S P = some q → ∃ l, T P = l ++ [q]) := by
  rcases List.eq_nil_or_concat (T P) with z | ⟨l, q, z⟩
  · rw [tp_n h e k z]
    exact ⟨fun _ => z, fun q y => by cases y⟩
  · rw [List.concat_eq_append] at z
    rw [tp_s h e k z]
    exact ⟨fun y => (by cases y), fun r y => by cases y; exact ⟨l, z⟩⟩
theorem mN {q : Nat} (h : f_Y4_needsPlace S q = 0) : ¬ nK (giC S q 2) := by
  unfold f_Y4_needsPlace b_Y4_needsPlace_25 b_Y4_needsPlace_30 at h
  intro n
  rcases n with n | n | n
  · rw [if_pos n] at h
    exact absurd h (by decide)
  · rw [n] at h
    exact absurd h (by decide)
  · rw [n] at h
    exact absurd h (by decide)
theorem mN' {q : Nat} (h : ¬ f_Y4_needsPlace S q = 0) : nK (giC S q 2) := by
  unfold f_Y4_needsPlace b_Y4_needsPlace_25 b_Y4_needsPlace_30 at h
  split at h
  · next c => exact Or.inl c
  · split at h
    · next c => exact Or.inr (Or.inl c)
    · split at h
      · next c => exact Or.inr (Or.inr c)
      · exact absurd rfl h
theorem needs_lp (h : CI E S T F col) {P : Nat} (e : ¬ E P) (k : iK S P 4) : ∀ (n : Nat) (b : Int32), 0 ≤ b.toInt → b.toInt ≤ (T P).length → (T P).length - b.toInt < n → lp_Y5_needsPlace_2 S P n b = 0 → ∀ i, b.toNatClampNeg ≤ i → i < (T P).length → ¬ nK (giC S ((T P).getD i 0) 2) := by
  have w := h.tp P e k
  intro n
  induction n with
  | zero => intro b h1 h2 h3; omega
  | succ n ih =>
    intro b h1 h2 h3 h4 i hi hl
    rw [lp_Y5_needsPlace_2] at h4
    unfold st_Y5_needsPlace_2 at h4
    have hb := iNat h1
    by_cases c : b.toInt = (T P).length
    · omega
    · rw [if_neg (fun z => by have := iLe.mp z; omega), at_s h e k h1 (by omega), if_neg (by simp), Option.getD_some] at h4
      by_cases z : f_Y4_needsPlace S ((T P).getD b.toNatClampNeg 0) = 0
      · rw [if_pos z] at h4
        have e1 := iAdd (x := b) (y := 1) (by rw [i1]; omega) (by rw [i1]; omega)
        rw [i1] at e1
        have hb' := iNat (x := b + 1) (by omega)
        by_cases d : i = b.toNatClampNeg
        · rw [d]
          exact mN z
        · exact ih (b + 1) (by omega) (by omega) (by omega) h4 i (by omega) hl
      · rw [if_neg z] at h4
        exact absurd (show (1 : Int32) = 0 from h4) (by decide)
theorem needs_v (h : CI E S T F col) {P : Nat} (e : ¬ E P) (k : iK S P 4) (z : f_Y5_needsPlace S P = 0) : ¬ nd S (T P) := by
  rintro ⟨q, m, n⟩
  obtain ⟨i, hi, ei⟩ := List.getElem_of_mem m
  have w := h.tp P e k
  refine needs_lp h e k 100000 0 (by rw [i0]; omega) (by rw [i0]; omega) (by rw [i0]; omega) z i (by rw [show (0 : Int32).toNatClampNeg = 0 from rfl]; omega) hi ?_
  rw [List.getD_eq_getElem?_getD, List.getElem?_eq_getElem hi, ei]
  exact n
theorem mot_n (h : CI E S T F col) (k : iK S x 0) {d : Nat} (o : pl x d) (z : giC S d 0 ≠ 2) : f_Y6_motion S d = none := by
  unfold f_Y6_motion b_Y6_motion_20
  rw [if_neg z]
theorem mot_s (h : CI E S T F col) (k : iK S x 0) {d : Nat} (o : pl x d) (e : ¬ E (d + 1)) (z : giC S d 0 = 2) : (T (d + 1) = [] → f_Y6_motion S d = none) ∧ ∀ q l, T (d + 1) = q :: l → f_Y6_motion S d = some q := by
  have k5 := o.lt h k
  have w5 := h.wf.w5 k5
  unfold f_Y6_motion b_Y6_motion_20
  rw [if_pos z, w5.2, Option.getD_some]
  refine ⟨fun y => at_n h e w5.1 (Or.inr (by rw [y, i0]; exact Int.le_refl _)), fun q l y => ?_⟩
  rw [at_s h e w5.1 (i := 0) (by rw [i0]; omega) (by rw [i0, y, List.length_cons]; omega), y]
  rfl
end
end
section
/-! ===== quiet updates: the house, motions' numbers, texts, votes ===== -/
theorem fb8 (b : Int32) : fits .byte (.int b.toInt8.toInt32) = true := by
  have h1 := b.toInt8.le_toInt
  have h2 := b.toInt8.toInt_le
  simp only [fits, Bool.and_eq_true, decide_eq_true_eq, Int32.le_iff_toInt_le, Int8.toInt_toInt32]
  exact ⟨h1, h2⟩
theorem has_in {S : Cst} {q : Nat} {s : Int32} (n : ¬ f_Y2_has S q s = 0) : vp_in s (lnC S ((grC S q 1).getD 0)) := by
  unfold f_Y2_has b_Y2_has_25 b_Y2_has_26 at n
  repeat' split at n
  · exact absurd rfl n
  · exact absurd rfl n
  · exact absurd rfl n
  · exact ix_ge (by assumption) (by assumption)
theorem there_in {S : Cst} {q : Nat} {s : Int32} (n : ¬ f_Y2_isThere S q s = 0) : vp_in s (lnC S ((grC S q 1).getD 0)) := by
  unfold f_Y2_isThere b_Y2_isThere_34 b_Y2_isThere_35 at n
  repeat' split at n
  · exact absurd rfl n
  · exact absurd rfl n
  · exact absurd rfl n
  · exact absurd rfl n
  · exact ix_ge (by assumption) (by assumption)
theorem ok_n {c k : Nat} {v : Int32} (h : c = 20 ∨ c = 21 ∨ c = 0 ∨ c = 5) : okI c k v := ⟨fun z => by omega, fun z => by omega, fun z => by omega, fun z => by omega, fun z => by omega, fun z => by omega⟩
section
variable {E E0 : Nat → Prop} {x : Nat} {S S1 S2 S3 : Cst} {T T1 : Nat → List Nat} {F F1 : List Nat} {col c1 : Nat → Nat}
/-- a quiet update: nothing made, no motion moved, no place's sort and no motion's kind changed -/
def QU (E : Nat → Prop) (x : Nat) (S : Cst) (T : Nat → List Nat) (F : List Nat) (col : Nat → Nat) (T1 : Nat → List Nat) (F1 : List Nat) (c1 : Nat → Nat) (S1 S2 : Cst) : Prop := Sst E x S T F col S2 T1 F1 c1 ∧ gP S1 S2 ∧ eK S1 S2
theorem QU.rf (h : Sst E x S T F col S1 T1 F1 c1) : QU E x S T F col T1 F1 c1 S1 S1 := ⟨h, gP.rf S1, eK.rf S1⟩
theorem QU.tr (u : QU E x S T F col T1 F1 c1 S1 S2) (v : QU E x S T F col T1 F1 c1 S2 S3) : QU E x S T F col T1 F1 c1 S1 S3 := ⟨v.1, u.2.1.tr v.2.1, u.2.2.tr v.2.2⟩
theorem QU.si (u : QU E x S T F col T1 F1 c1 S1 S2) {a b : Nat} {v : Int32} (hc : c1 a = x) (n4 : kdC S2 a ≠ 4) (ok : okI (kdC S2 a) b v) (h5 : kdC S2 a = 5 → b ≠ 0) (h3 : kdC S2 a = 3 → b ≠ 2) : QU E x S T F col T1 F1 c1 S1 (siC S2 a b v) := ⟨u.1.si hc n4 ok, u.2.1.tr (gP.si h5 h3), u.2.2.tr (eK.si ..)⟩
theorem QU.sf (u : QU E x S T F col T1 F1 c1 S1 S2) {a : Nat} {f : Nat → Int32} (hc : c1 a = x) (ok : kdC S2 a = 20 ∨ kdC S2 a = 21 ∨ (kdC S2 a = 22 ∧ ∀ i, fits .byte (.int (f i)) = true)) : QU E x S T F col T1 F1 c1 S1 (sfC S2 a f) := ⟨u.1.sf hc ok, u.2.1.tr (gP.sf ⟨by omega, by omega⟩), u.2.2.tr (eK.sf ..)⟩
theorem QU.w0 (u : QU E x S T F col T1 F1 c1 S1 S2) : W0 S2 x := u.1.ci.wf.w0 u.1.k1
theorem QU.w1 (u : QU E x S T F col T1 F1 c1 S1 S2) : W1 S2 (x + 37) := u.1.ci.wf.w1 u.w0.1.1
theorem QU.hI (u : QU E x S T F col T1 F1 c1 S1 S2) (b : Nat) (v : Int32) (hv : b = 0 → rg v 0 200) : QU E x S T F col T1 F1 c1 S1 (siC S2 (x + 37) b v) := by
  have k := u.w0.1.1.2
  exact u.si (u.1.cx 37 (by omega)) (by rw [k]; decide) ⟨fun _ => hv, fun z => by omega, fun z => by omega, fun z => by omega, fun z => by omega, fun z => by omega⟩ (fun z => by omega) (fun z => by omega)
theorem QU.hT (u : QU E x S T F col T1 F1 c1 S1 S2) (b : Nat) (v : Int32) : QU E x S T F col T1 F1 c1 S1 (siC S2 (x + 37 + 1) b v) := by
  have k := u.w1.1.1.2
  exact u.si (u.1.cx 38 (by omega)) (by rw [k]; decide) (ok_n (by omega)) (fun z => by omega) (fun z => by omega)
theorem QU.hM (u : QU E x S T F col T1 F1 c1 S1 S2) (b : Nat) (v : Int32) : QU E x S T F col T1 F1 c1 S1 (siC S2 (x + 37 + 2) b v) := by
  have k := u.w1.1.2.2.1.2
  exact u.si (u.1.cx 39 (by omega)) (by rw [k]; decide) (ok_n (by omega)) (fun z => by omega) (fun z => by omega)
/-- a method's step, quiet -/
def qm (E : Nat → Prop) (x : Nat) (S : Cst) (T : Nat → List Nat) (F : List Nat) (col : Nat → Nat) (T1 : Nat → List Nat) (F1 : List Nat) (c1 : Nat → Nat) (S1 : Cst) (p : Prop) (f : Int32 × Cst) : Prop := p ∧ ∃ v S2, f = (v, S2) ∧ QU E x S T F col T1 F1 c1 S1 S2
theorem y_silence (h : Sst E x S T F col S1 T1 F1 c1) (s : Int32) : qm E x S T F col T1 F1 c1 S1 (p_Y2_silence S1 (x + 37) s) (f_Y2_silence S1 (x + 37) s) := by
  have u := QU.rf h
  unfold qm p_Y2_silence f_Y2_silence q_Y2_silence_13 b_Y2_silence_13
  by_cases c : f_Y2_hasFloor S1 (x + 37) s = 0
  · simp only [if_pos c]
    exact ⟨⟨y_hasFloor _ _ _, trivial⟩, _, _, rfl, u⟩
  · simp only [if_neg c]
    exact ⟨⟨y_hasFloor _ _ _, trivial⟩, _, _, rfl, u.hI 6 _ (by omega)⟩
theorem y_arrive (h : Sst E x S T F col S1 T1 F1 c1) (s : Int32) : qm E x S T F col T1 F1 c1 S1 (p_Y2_arrive S1 (x + 37) s) (f_Y2_arrive S1 (x + 37) s) := by
  have u := QU.rf h
  have w1 := u.w1
  unfold qm p_Y2_arrive f_Y2_arrive q_Y2_arrive_34 b_Y2_arrive_34
  by_cases c : f_Y2_has S1 (x + 37) s = 0
  · simp only [if_pos c]
    exact ⟨⟨y_has u.1.ci.wf u.w0.1.1 _, trivial⟩, _, _, rfl, u⟩
  · have v := has_in c
    simp only [if_neg c]
    rw [w1.2.1.1, Option.getD_some] at v ⊢
    by_cases d : giC S1 (x + 37 + 1) s.toNatClampNeg = 0
    · simp only [if_pos d]
      exact ⟨⟨y_has u.1.ci.wf u.w0.1.1 _, ir_so.mpr w1.1.1, v, ir_so.mpr w1.1.1, v, trivial⟩, _, _, rfl, (u.hT _ _).hI 2 _ (by omega)⟩
    · simp only [if_neg d]
      exact ⟨⟨y_has u.1.ci.wf u.w0.1.1 _, ir_so.mpr w1.1.1, v, trivial⟩, _, _, rfl, u⟩
theorem y_leave (h : Sst E x S T F col S1 T1 F1 c1) (s : Int32) : qm E x S T F col T1 F1 c1 S1 (p_Y2_leave S1 (x + 37) s) (f_Y2_leave S1 (x + 37) s) := by
  have u := QU.rf h
  have w1 := u.w1
  unfold qm p_Y2_leave f_Y2_leave q_Y2_leave_25 b_Y2_leave_25 q_Y2_leave_30a b_Y2_leave_30a
  by_cases c : f_Y2_isThere S1 (x + 37) s = 0
  · simp only [if_pos c]
    obtain ⟨p, v, S3, f, g⟩ := y_silence h s
    exact ⟨⟨y_isThere u.1.ci.wf u.w0.1.1 _, p, trivial⟩, _, _, rfl, by rw [f]; exact g⟩
  · have v := there_in c
    simp only [if_neg c]
    rw [w1.2.1.1, Option.getD_some] at v ⊢
    have u2 := (u.hT s.toNatClampNeg (vp_nar .boolean 0)).hI 2 (giC (siC S1 (x + 37 + 1) s.toNatClampNeg (vp_nar .boolean 0)) (x + 37) 2 - 1) (by omega)
    obtain ⟨p, v', S3, f, g⟩ := y_silence u2.1 s
    exact ⟨⟨y_isThere u.1.ci.wf u.w0.1.1 _, ir_so.mpr w1.1.1, v, p, trivial⟩, _, _, rfl, by rw [f]; exact u2.tr g⟩
theorem y_takeChair (h : Sst E x S T F col S1 T1 F1 c1) (s : Int32) : qm E x S T F col T1 F1 c1 S1 (p_Y2_takeChair S1 (x + 37) s) (f_Y2_takeChair S1 (x + 37) s) := by
  have u := QU.rf h
  unfold qm p_Y2_takeChair f_Y2_takeChair q_Y2_takeChair_10a b_Y2_takeChair_10a
  have u2 := u.hI 3 s (by omega)
  obtain ⟨p, v', S3, f, g⟩ := y_silence u2.1 s
  exact ⟨⟨p, trivial⟩, _, _, rfl, by rw [f]; exact u2.tr g⟩
theorem y_majority (h : Sst E x S T F col S1 T1 F1 c1) (a b : Int32) : qm E x S T F col T1 F1 c1 S1 (p_Y2_replaceMajority S1 (x + 37) a b) (f_Y2_replaceMajority S1 (x + 37) a b) := by
  have u := QU.rf h
  have w1 := u.w1
  unfold qm p_Y2_replaceMajority f_Y2_replaceMajority q_Y2_replaceMajority_14 b_Y2_replaceMajority_14
  rw [w1.2.1.2, Option.getD_some]
  by_cases c : a < 1
  · simp only [if_pos c]
    exact ⟨trivial, _, _, rfl, u⟩
  · simp only [if_neg c]
    by_cases d : a < Int32.ofNat (lnC S1 (x + 37 + 2))
    · simp only [if_pos d]
      have v := ix_l1 c d
      exact ⟨⟨ir_so.mpr w1.1.2.2.1, ir_so.mpr w1.1.2.2.1, v, ir_so.mpr w1.1.2.2.1, v, trivial⟩, _, _, rfl, u.hM _ _⟩
    · simp only [if_neg d]
      exact ⟨⟨ir_so.mpr w1.1.2.2.1, trivial⟩, _, _, rfl, u⟩
theorem e200 : (Int32.ofNat 200).toInt = 200 := by decide
theorem hempty_lp : ∀ (n : Nat) (S2 : Cst) (b : Int32), QU E x S T F col T1 F1 c1 S1 S2 → 0 ≤ b.toInt → b.toInt ≤ 200 → 200 - b.toInt < n → qm E x S T F col T1 F1 c1 S1 (lq_Y2_empty_2 (x + 37) n S2 b) (lp_Y2_empty_2 (x + 37) n S2 b) := by
  intro n
  induction n with
  | zero => intro S2 b u h1 h2 h3; omega
  | succ n ih =>
    intro S2 b u h1 h2 h3
    have w1 := u.w1
    unfold qm
    rw [lq_Y2_empty_2, lp_Y2_empty_2]
    unfold ps_Y2_empty_2 st_Y2_empty_2
    rw [w1.2.1.1, Option.getD_some, w1.1.2.1]
    by_cases c : Int32.ofNat 200 ≤ b
    · rw [if_pos c, if_pos c]
      exact ⟨⟨⟨ir_so.mpr w1.1.1, trivial⟩, trivial⟩, _, _, rfl, (u.hI 2 0 (by omega)).hI 6 (-1) (by omega)⟩
    · rw [if_neg c, if_neg c]
      have c := mt iLe.mpr c
      rw [e200] at c
      have e := iAdd (x := b) (y := 1) (by rw [i1]; omega) (by rw [i1]; omega)
      rw [i1] at e
      obtain ⟨r1, r2⟩ := ih _ (b + 1) (u.hT b.toNatClampNeg (vp_nar .boolean 0)) (by omega) (by omega) (by omega)
      exact ⟨⟨⟨ir_so.mpr w1.1.1, ir_so.mpr w1.1.1, vIn h1 (by omega), trivial⟩, r1⟩, r2⟩
theorem y_hempty (h : Sst E x S T F col S1 T1 F1 c1) : qm E x S T F col T1 F1 c1 S1 (p_Y2_empty S1 (x + 37)) (f_Y2_empty S1 (x + 37)) := hempty_lp 100000 S1 0 (QU.rf h) (by rw [i0]; omega) (by rw [i0]; omega) (by rw [i0]; omega)
theorem hfill_lp (v : Int32) : ∀ (n : Nat) (S2 : Cst) (b : Int32), QU E x S T F col T1 F1 c1 S1 S2 → 0 ≤ b.toInt → b.toInt ≤ 9 → 9 - b.toInt < n → qm E x S T F col T1 F1 c1 S1 (lq_K7_fill_53178_5 (x + 37 + 2) n S2 v b (Int32.ofNat 9)) (lp_K7_fill_53178_5 (x + 37 + 2) n S2 v b (Int32.ofNat 9)) := by
  have h9 : (Int32.ofNat 9).toInt = 9 := by decide
  intro n
  induction n with
  | zero => intro S2 b u h1 h2 h3; omega
  | succ n ih =>
    intro S2 b u h1 h2 h3
    have w1 := u.w1
    unfold qm
    rw [lq_K7_fill_53178_5, lp_K7_fill_53178_5]
    unfold ps_K7_fill_53178_5 st_K7_fill_53178_5
    by_cases c : Int32.ofNat 9 ≤ b
    · rw [if_pos c, if_pos c]
      exact ⟨⟨trivial, trivial⟩, _, _, rfl, u⟩
    · rw [if_neg c, if_neg c]
      have c := mt iLe.mpr c
      rw [h9] at c
      have e := iAdd (x := b) (y := 1) (by rw [i1]; omega) (by rw [i1]; omega)
      rw [i1] at e
      obtain ⟨r1, r2⟩ := ih _ (b + 1) (u.hM b.toNatClampNeg v) (by omega) (by omega) (by omega)
      refine ⟨⟨⟨?_, trivial⟩, r1⟩, r2⟩
      rw [w1.1.2.2.2]
      exact vIn h1 (by omega)
theorem y_hbegin (h : Sst E x S T F col S1 T1 F1 c1) {n : Int32} (hn : rg n 0 200) : qm E x S T F col T1 F1 c1 S1 (p_Y2_begin S1 (x + 37) n) (f_Y2_begin S1 (x + 37) n) := by
  have u := QU.rf h
  have u1 := (((u.hI 0 n (fun _ => hn)).hI 4 0 (by omega)).hI 5 0 (by omega)).hI 3 (-1) (by omega)
  unfold qm p_Y2_begin f_Y2_begin
  obtain ⟨p1, v, S3, f1, u2'⟩ := y_hempty u1.1
  have u2 := u1.tr u2'
  rw [f1]
  have w1 := u2.w1
  unfold q_Y2_begin_24a b_Y2_begin_24a
  rw [w1.2.1.2, Option.getD_some]
  obtain ⟨q1, v4, S4, g1, u3⟩ := hfill_lp 1 100000 S3 0 u2 (by rw [i0]; omega) (by rw [i0]; omega) (by rw [i0]; omega)
  unfold p_K7_fill_53178 f_K7_fill_53178
  rw [w1.1.2.2.2, g1]
  have w3 := u3.w1
  unfold q_Y2_begin_32a b_Y2_begin_32a
  rw [w3.2.1.2, Option.getD_some]
  refine ⟨⟨p1, ir_so.mpr w1.1.2.2.1, q1, ir_so.mpr w3.1.2.2.1, ?_, trivial⟩, _, _, rfl, u3.hM _ _⟩
  rw [w3.1.2.2.2]
  exact vIn (by decide) (by decide)
theorem hbecome_lp {y : Nat} (ky : iK S1 y 0) : ∀ (n : Nat) (S2 : Cst) (b : Int32), QU E x S T F col T1 F1 c1 S1 S2 → 0 ≤ b.toInt → b.toInt ≤ 200 → 200 - b.toInt < n → qm E x S T F col T1 F1 c1 S1 (lq_Y2_become_10 (x + 37) (y + 37) n S2 b) (lp_Y2_become_10 (x + 37) (y + 37) n S2 b) := by
  intro n
  induction n with
  | zero => intro S2 b u h1 h2 h3; omega
  | succ n ih =>
    intro S2 b u h1 h2 h3
    have w1 := u.w1
    have ky2 := ky.e u.2.2
    have y1 := u.1.ci.wf.w1 (u.1.ci.wf.w0 ky2).1.1
    unfold qm
    rw [lq_Y2_become_10, lp_Y2_become_10]
    unfold ps_Y2_become_10 st_Y2_become_10
    rw [w1.2.1.1, y1.2.1.1, Option.getD_some, Option.getD_some, w1.1.2.1, y1.1.2.1]
    by_cases c : Int32.ofNat 200 ≤ b
    · rw [if_pos c, if_pos c]
      have B := fun (a2 a3 a4 a5 a6 : Int32) => (((((u.hI 2 a2 (by omega)).hI 3 a3 (by omega)).hI 4 a4 (by omega)).hI 5 a5 (by omega)).hI 6 a6 (by omega))
      unfold b_Y2_become_69a q_Y2_become_69a b_Y2_become_95a q_Y2_become_95a
      dsimp only
      generalize giC S2 (y + 37) 2 = a2
      generalize giC (siC S2 (x + 37) 2 a2) (y + 37) 3 = a3
      generalize giC (siC (siC S2 (x + 37) 2 a2) (x + 37) 3 a3) (y + 37) 4 = a4
      generalize giC (siC (siC (siC S2 (x + 37) 2 a2) (x + 37) 3 a3) (x + 37) 4 a4) (y + 37) 5 = a5
      generalize giC (siC (siC (siC (siC S2 (x + 37) 2 a2) (x + 37) 3 a3) (x + 37) 4 a4) (x + 37) 5 a5) (y + 37) 6 = a6
      have u6 := B a2 a3 a4 a5 a6
      generalize siC (siC (siC (siC (siC S2 (x + 37) 2 a2) (x + 37) 3 a3) (x + 37) 4 a4) (x + 37) 5 a5) (x + 37) 6 a6 = S6 at u6 ⊢
      have w6 := u6.w1
      have y6 := u6.1.ci.wf.w1 (u6.1.ci.wf.w0 (ky.e u6.2.2)).1.1
      rw [w6.2.1.2, y6.2.1.2, Option.getD_some, Option.getD_some, w6.1.2.2.2, y6.1.2.2.2]
      have u7 := u6.sf (a := x + 37 + 2) (f := va_cpy (giC S6 (y + 37 + 2)) (giC S6 (x + 37 + 2)) (0 : Int32).toNatClampNeg (0 : Int32).toNatClampNeg (Int32.ofNat 9).toNatClampNeg) (u6.1.cx 39 (by omega)) (Or.inl w6.1.2.2.1.2)
      exact ⟨⟨⟨ir_so.mpr w1.1.1, ir_so.mpr w6.1.2.2.1, ir_so.mpr y6.1.2.2.1, ir_so.mpr w6.1.2.2.1, ⟨⟨by decide, by decide, by decide⟩, by decide, by decide⟩, trivial⟩, trivial⟩, _, _, rfl, u7⟩
    · rw [if_neg c, if_neg c]
      have c := mt iLe.mpr c
      rw [e200] at c
      have e := iAdd (x := b) (y := 1) (by rw [i1]; omega) (by rw [i1]; omega)
      rw [i1] at e
      obtain ⟨r1, r2⟩ := ih _ (b + 1) (u.hT b.toNatClampNeg (vp_nar .boolean (giC S2 (y + 37 + 1) b.toNatClampNeg))) (by omega) (by omega) (by omega)
      exact ⟨⟨⟨ir_so.mpr w1.1.1, ir_so.mpr y1.1.1, vIn h1 (by omega), ir_so.mpr w1.1.1, vIn h1 (by omega), trivial⟩, r1⟩, r2⟩
theorem y_hbecome (h : Sst E x S T F col S1 T1 F1 c1) {y : Nat} (ky : iK S1 y 0) : qm E x S T F col T1 F1 c1 S1 (p_Y2_become S1 (x + 37) (y + 37)) (f_Y2_become S1 (x + 37) (y + 37)) := by
  have u := QU.rf h
  have y1 := h.ci.wf.w1 (h.ci.wf.w0 ky).1.1
  exact hbecome_lp ky 100000 _ 0 (u.hI 0 (giC S1 (y + 37) 0) (fun _ => y1.2.2)) (by rw [i0]; omega) (by rw [i0]; omega) (by rw [i0]; omega)
/-- a motion's numbers, its text's, its votes -/
theorem QU.mI (u : QU E x S T F col T1 F1 c1 S1 S2) {q : Nat} (k : iK S2 q 3) (c : c1 q = x) (b : Nat) (v : Int32) (hb : b ≠ 2) (ok : b = 7 ∨ b = 10 ∨ b = 11 → bZ v) : QU E x S T F col T1 F1 c1 S1 (siC S2 q b v) := by
  have e := k.2
  exact u.si c (by rw [e]; decide) ⟨fun z => by omega, fun z => by omega, fun _ => ok, fun z => by omega, fun z => by omega, fun z => by omega⟩ (fun z => by omega) (fun _ => hb)
theorem QU.mc (u : QU E x S T F col T1 F1 c1 S1 S2) {q : Nat} (k : iK S2 q 3) (c : c1 q = x) (j : Nat) (hj : j < 4) : c1 (q + j) = x := by rw [u.1.ci.c3 q k j hj]; exact c
theorem QU.tI (u : QU E x S T F col T1 F1 c1 S1 S2) {t : Nat} (k : iK S2 t 6) (c : c1 t = x) (v : Int32) (hv : rg v 0 400) : QU E x S T F col T1 F1 c1 S1 (siC S2 t 1 v) := by
  have e := k.2
  exact u.si c (by rw [e]; decide) ⟨fun z => by omega, fun z => by omega, fun z => by omega, fun z => by omega, fun _ _ => hv, fun z => by omega⟩ (fun z => by omega) (fun z => by omega)
theorem QU.tW (u : QU E x S T F col T1 F1 c1 S1 S2) {t : Nat} (k : iK S2 t 6) (c : c1 (t + 1) = x) (i : Nat) (v : Int32) : QU E x S T F col T1 F1 c1 S1 (siC S2 (t + 1) i v) := by
  have e := (u.1.ci.wf.w6 k).1.1.2
  exact u.si c (by rw [e]; decide) (ok_n (by omega)) (fun z => by omega) (fun z => by omega)
theorem y_append (h : Sst E x S T F col S1 T1 F1 c1) {t : Nat} (k : iK S1 t 6) (c : c1 t = x) (c' : c1 (t + 1) = x) (v : Int32) : qm E x S T F col T1 F1 c1 S1 (p_Y9_append S1 t v) (f_Y9_append S1 t v) := by
  have u := QU.rf h
  have w := u.1.ci.wf.w6 k
  have w2 := w.2.2
  unfold rg at w2
  have h4 : (Int32.ofNat 400).toInt = 400 := by decide
  unfold qm p_Y9_append f_Y9_append q_Y9_append_36 b_Y9_append_36
  rw [w.2.1, Option.getD_some, w.1.2]
  by_cases d : v = 0
  · simp only [if_pos d]
    exact ⟨trivial, _, _, rfl, u⟩
  · simp only [if_neg d]
    by_cases e : Int32.ofNat 400 ≤ giC S1 t 1
    · simp only [if_pos e]
      exact ⟨⟨ir_so.mpr w.1.1, trivial⟩, _, _, rfl, u⟩
    · simp only [if_neg e]
      have e := mt iLe.mpr e
      rw [h4] at e
      have nt : t ≠ t + 1 := by omega
      have e1 := iAdd (x := giC S1 t 1) (y := 1) (by rw [i1]; omega) (by rw [i1]; omega)
      rw [i1] at e1
      have u2 := u.tW k c' (giC S1 t 1).toNatClampNeg v
      refine ⟨⟨ir_so.mpr w.1.1, ir_so.mpr w.1.1, vIn (by omega) (by omega), trivial⟩, _, _, rfl, u2.tI (ik_si.mpr k) c _ ?_⟩
      rw [gi_si, if_neg (fun z => nt z.1)]
      exact ⟨by omega, by omega⟩
theorem y_castVote (h : Sst E x S T F col S1 T1 F1 c1) {q : Nat} (k : iK S1 q 3) (c : c1 q = x) (s how : Int32) : qm E x S T F col T1 F1 c1 S1 (p_Y4_castVote S1 q s how) (f_Y4_castVote S1 q s how) := by
  have u := QU.rf h
  have w := u.1.ci.wf.w3 k
  have hc := u.mc k c 3 (by omega)
  unfold qm p_Y4_castVote f_Y4_castVote q_Y4_castVote_72 b_Y4_castVote_72 q_Y4_castVote_27 b_Y4_castVote_27 q_Y4_castVote_38 b_Y4_castVote_38 q_Y4_castVote_57 b_Y4_castVote_57 q_Y4_castVote_72 b_Y4_castVote_72
  rw [w.2.1.2]
  simp only [Option.getD_some, ir_so]
  have U : ∀ (z y y' : Int32), QU E x S T F col T1 F1 c1 S1 (siC (siC S1 (q + 3) s.toNatClampNeg (vp_nar .byte z.toInt8.toInt32)) q 14 (giC (siC S1 (q + 3) s.toNatClampNeg (vp_nar .byte z.toInt8.toInt32)) q 14 + (y - y'))) := fun z y y' => by
    have e := w.1.2.1.2
    have u2 := u.si (a := q + 3) (b := s.toNatClampNeg) (v := vp_nar .byte z.toInt8.toInt32) hc (by rw [e]; decide) ⟨fun z => by omega, fun z => by omega, fun z => by omega, fun z => by omega, fun z => by omega, fun _ => fb8 _⟩ (fun z => by omega) (fun z => by omega)
    exact u2.mI (ik_si.mpr k) c 14 _ (by omega) (by omega)
  by_cases d : s < 0
  · simp only [if_pos d]
    exact ⟨trivial, _, _, rfl, u⟩
  · simp only [if_neg d]
    by_cases e : Int32.ofNat (lnC S1 (q + 3)) ≤ s
    · simp only [if_pos e]
      exact ⟨⟨w.1.2.1, trivial⟩, _, _, rfl, u⟩
    · simp only [if_neg e]
      have v := ix_ge d e
      refine ⟨⟨w.1.2.1, w.1.2.1, v, ?_⟩, ?_⟩
      · repeat' split
        all_goals exact ⟨w.1.2.1, v, trivial⟩
      · repeat' split
        all_goals exact ⟨_, _, rfl, U _ _ _⟩
theorem y_follow (h : Sst E x S T F col S1 T1 F1 c1) {q : Nat} (k : iK S1 q 3) (c : c1 q = x) (a b m : Int32) : qm E x S T F col T1 F1 c1 S1 (p_Y4_follow S1 q a b m) (f_Y4_follow S1 q a b m) := by
  have u := QU.rf h
  unfold qm p_Y4_follow f_Y4_follow q_Y4_follow_53 b_Y4_follow_53
  refine ⟨?_, ?_⟩
  · repeat' split
    all_goals trivial
  · repeat' split
    · exact ⟨_, _, rfl, u.mI k c 11 _ (by omega) (fun _ => bz1)⟩
    · exact ⟨_, _, rfl, (u.mI k c 8 _ (by omega) (by omega)).mI (ik_si.mpr k) c 9 _ (by omega) (by omega)⟩
    · exact ⟨_, _, rfl, u⟩
end
end
section
/-! ===== deeds that move no motion ===== -/
section
variable {E E0 : Nat → Prop} {x : Nat} {S S1 S2 S3 : Cst} {T T1 : Nat → List Nat} {F F1 : List Nat} {col c1 : Nat → Nat}
/-- none, or a motion of the assembly -/
def mC (S : Cst) (c1 : Nat → Nat) (x : Nat) (r : Option Nat) : Prop := r = none ∨ ∃ q, r = some q ∧ iK S q 3 ∧ c1 q = x
theorem mC.e {r : Option Nat} (h : mC S1 c1 x r) (g : eN S1 S2) : mC S2 c1 x r := by
  rcases h with h | ⟨q, e, k, c⟩
  · exact Or.inl h
  · exact Or.inr ⟨q, e, k.n g, c⟩
theorem y_giveFloor (h : Sst E x S T F col S1 T1 F1 c1) {r : Option Nat} (hr : mC S1 c1 x r) (s : Int32) : qm E x S T F col T1 F1 c1 S1 (p_Y1_giveFloor S1 (x + 37) r s) (f_Y1_giveFloor S1 (x + 37) r s) := by
  have u1 := (QU.rf h).hI 6 s (by omega)
  unfold qm p_Y1_giveFloor f_Y1_giveFloor
  rcases hr with rfl | ⟨q, rfl, k, c⟩
  · rw [if_pos rfl, if_pos rfl]
    exact ⟨trivial, _, _, rfl, u1⟩
  · simp only [reduceCtorEq, if_false, Option.getD_some, ir_so, ik_si]
    exact ⟨⟨k, k, k, trivial⟩, _, _, rfl, u1.mI (ik_si.mpr k) c 5 _ (by omega) (by omega)⟩
theorem y_cedeFloor (h : Sst E x S T F col S1 T1 F1 c1) : qm E x S T F col T1 F1 c1 S1 (p_Y1_cedeFloor S1 (x + 37)) (f_Y1_cedeFloor S1 (x + 37)) := ⟨trivial, _, _, rfl, (QU.rf h).hI 6 _ (by omega)⟩
theorem y_speak (h : Sst E x S T F col S1 T1 F1 c1) {r : Option Nat} (hr : mC S1 c1 x r) : qm E x S T F col T1 F1 c1 S1 (p_Y1_speak S1 r) (f_Y1_speak S1 r) := by
  unfold qm p_Y1_speak f_Y1_speak
  rcases hr with rfl | ⟨q, rfl, k, c⟩
  · rw [if_pos rfl, if_pos rfl]
    exact ⟨trivial, _, _, rfl, QU.rf h⟩
  · simp only [reduceCtorEq, if_false, Option.getD_some, ir_so, ik_si]
    exact ⟨⟨k, k, k, trivial⟩, _, _, rfl, (QU.rf h).mI k c 6 _ (by omega) (by omega)⟩
theorem y_support (h : Sst E x S T F col S1 T1 F1 c1) {r : Option Nat} (hr : mC S1 c1 x r) (s : Int32) : qm E x S T F col T1 F1 c1 S1 (p_Y1_support S1 r s) (f_Y1_support S1 r s) := by
  unfold qm p_Y1_support f_Y1_support q_Y1_support_9 b_Y1_support_9
  rcases hr with rfl | ⟨q, rfl, k, c⟩
  · rw [if_pos rfl, if_pos rfl]
    exact ⟨trivial, _, _, rfl, QU.rf h⟩
  · simp only [reduceCtorEq, if_false, Option.getD_some, ir_so]
    exact ⟨⟨k, trivial⟩, _, _, rfl, (QU.rf h).mI k c 4 _ (by omega) (by omega)⟩
theorem y_setSpan (h : Sst E x S T F col S1 T1 F1 c1) (hr : mC S1 c1 x (f_Y6_motion S1 (x + 3))) (a b : Int32) : qm E x S T F col T1 F1 c1 S1 (p_Y1_setSpan S1 x a b) (f_Y1_setSpan S1 x a b) := by
  have u := QU.rf h
  have w0 := u.w0
  have pm := y_motion h.ci.wf w0.1.2.2.1
  unfold qm p_Y1_setSpan f_Y1_setSpan q_Y1_setSpan_22 b_Y1_setSpan_22
  rw [w0.2.1.2.2.1]
  simp only [Option.getD_some, ir_so]
  generalize f_Y6_motion S1 (x + 3) = r at hr ⊢
  rcases hr with rfl | ⟨q, rfl, k, c⟩
  · simp only [if_true]
    exact ⟨⟨w0.1.2.2.1, pm, trivial⟩, _, _, rfl, u⟩
  · simp only [reduceCtorEq, if_false, Option.getD_some, ir_so, ik_si]
    exact ⟨⟨w0.1.2.2.1, pm, k, k, trivial⟩, _, _, rfl, (u.mI k c 8 _ (by omega) (by omega)).mI (ik_si.mpr k) c 9 _ (by omega) (by omega)⟩
theorem aw_53 (h : Sst E x S T F col S1 T1 F1 c1) {q : Nat} (k : iK S1 q 3) (a b c' d : Int32) : qm E x S T F col T1 F1 c1 S1 (q_Y1_addWords_53a S1 x a b c' d (some q)) (b_Y1_addWords_53a S1 x a b c' d (some q)) := by
  have w := h.ci.wf.w3 k
  unfold qm q_Y1_addWords_53a b_Y1_addWords_53a
  rw [Option.getD_some, w.2.1.1]
  exact ⟨⟨ir_so.mpr k, ir_so.mpr w.1.1, trivial⟩, _, _, rfl, QU.rf h⟩
theorem aw_43 (h : Sst E x S T F col S1 T1 F1 c1) {q : Nat} (k : iK S1 q 3) (c : c1 q = x) (a b c' d : Int32) : qm E x S T F col T1 F1 c1 S1 (q_Y1_addWords_43a S1 x a b c' d (some q)) (b_Y1_addWords_43a S1 x a b c' d (some q)) := by
  have w := h.ci.wf.w3 k
  have u := QU.rf h
  unfold qm q_Y1_addWords_43a b_Y1_addWords_43a
  rw [Option.getD_some, w.2.1.1, Option.getD_some]
  obtain ⟨p, v, S3, f, g⟩ := y_append h w.1.1 (u.mc k c 1 (by omega)) (u.mc k c 2 (by omega)) d
  rw [f]
  obtain ⟨p2, v2, S4, f2, g2⟩ := aw_53 g.1 (k.e g.2.2) a b c' d
  exact ⟨⟨ir_so.mpr k, ir_so.mpr w.1.1, p, p2⟩, v2, S4, f2, g.tr g2⟩
theorem aw_34 (h : Sst E x S T F col S1 T1 F1 c1) {q : Nat} (k : iK S1 q 3) (c : c1 q = x) (a b c' d : Int32) : qm E x S T F col T1 F1 c1 S1 (q_Y1_addWords_34a S1 x a b c' d (some q)) (b_Y1_addWords_34a S1 x a b c' d (some q)) := by
  have w := h.ci.wf.w3 k
  have u := QU.rf h
  unfold qm q_Y1_addWords_34a b_Y1_addWords_34a
  rw [Option.getD_some, w.2.1.1, Option.getD_some]
  obtain ⟨p, v, S3, f, g⟩ := y_append h w.1.1 (u.mc k c 1 (by omega)) (u.mc k c 2 (by omega)) c'
  rw [f]
  obtain ⟨p2, v2, S4, f2, g2⟩ := aw_43 g.1 (k.e g.2.2) c a b c' d
  exact ⟨⟨ir_so.mpr k, ir_so.mpr w.1.1, p, p2⟩, v2, S4, f2, g.tr g2⟩
theorem aw_25 (h : Sst E x S T F col S1 T1 F1 c1) {q : Nat} (k : iK S1 q 3) (c : c1 q = x) (a b c' d : Int32) : qm E x S T F col T1 F1 c1 S1 (q_Y1_addWords_25a S1 x a b c' d (some q)) (b_Y1_addWords_25a S1 x a b c' d (some q)) := by
  have w := h.ci.wf.w3 k
  have u := QU.rf h
  unfold qm q_Y1_addWords_25a b_Y1_addWords_25a
  rw [Option.getD_some, w.2.1.1, Option.getD_some]
  obtain ⟨p, v, S3, f, g⟩ := y_append h w.1.1 (u.mc k c 1 (by omega)) (u.mc k c 2 (by omega)) b
  rw [f]
  obtain ⟨p2, v2, S4, f2, g2⟩ := aw_34 g.1 (k.e g.2.2) c a b c' d
  exact ⟨⟨ir_so.mpr k, ir_so.mpr w.1.1, p, p2⟩, v2, S4, f2, g.tr g2⟩
theorem y_addWords (h : Sst E x S T F col S1 T1 F1 c1) (hr : mC S1 c1 x (f_Y6_motion S1 (x + 3))) (a b c' d : Int32) : qm E x S T F col T1 F1 c1 S1 (p_Y1_addWords S1 x a b c' d) (f_Y1_addWords S1 x a b c' d) := by
  have u := QU.rf h
  have w0 := u.w0
  have pm := y_motion h.ci.wf w0.1.2.2.1
  unfold qm p_Y1_addWords f_Y1_addWords
  rw [w0.2.1.2.2.1]
  simp only [Option.getD_some, ir_so]
  generalize f_Y6_motion S1 (x + 3) = r at hr ⊢
  rcases hr with rfl | ⟨q, rfl, k, c⟩
  · simp only [if_true]
    exact ⟨⟨w0.1.2.2.1, pm, trivial⟩, _, _, rfl, u⟩
  · have w := h.ci.wf.w3 k
    simp only [reduceCtorEq, if_false, Option.getD_some, ir_so]
    rw [w.2.1.1, Option.getD_some]
    obtain ⟨p, v, S3, f, g⟩ := y_append h w.1.1 (u.mc k c 1 (by omega)) (u.mc k c 2 (by omega)) a
    rw [f]
    obtain ⟨p2, v2, S4, f2, g2⟩ := aw_25 g.1 (k.e g.2.2) c a b c' d
    exact ⟨⟨w0.1.2.2.1, pm, k, ir_so.mpr w.1.1, p, p2⟩, v2, S4, f2, g.tr g2⟩
/-- words in place of a span -/
theorem y_replace (h : Sst E x S T F col S1 T1 F1 c1) {t z : Nat} (k : iK S1 t 6) (c : c1 t = x) (c' : c1 (t + 1) = x) (kz : iK S1 z 6) (a b : Int32) : qm E x S T F col T1 F1 c1 S1 (p_Y9_replace S1 t z a b) (f_Y9_replace S1 t z a b) := by
  have u := QU.rf h
  have w := h.ci.wf.w6 k
  have wz := h.ci.wf.w6 kz
  have w2 := w.2.2
  have wz2 := wz.2.2
  unfold rg at w2 wz2
  have h4 : (Int32.ofNat 400).toInt = 400 := by decide
  have es : f_Y9_sizeWith S1 t a b (giC S1 z 1) = giC S1 t 1 - (b - a) + giC S1 z 1 := rfl
  unfold qm p_Y9_replace f_Y9_replace q_Y9_replace_39 b_Y9_replace_39 q_Y9_replace_81a b_Y9_replace_81a
  rw [es]
  by_cases c1' : a < 0
  · simp only [if_pos c1']
    exact ⟨⟨y_sizeWith .., trivial⟩, _, _, rfl, u⟩
  · simp only [if_neg c1']
    by_cases c2' : b < a
    · simp only [if_pos c2']
      exact ⟨⟨y_sizeWith .., trivial⟩, _, _, rfl, u⟩
    · simp only [if_neg c2']
      by_cases c3' : giC S1 t 1 < b
      · simp only [if_pos c3']
        exact ⟨⟨y_sizeWith .., trivial⟩, _, _, rfl, u⟩
      · simp only [if_neg c3']
        rw [w.2.1, Option.getD_some, w.1.2]
        have d1 := mt iLt.mpr c1'
        have d2 := mt iLt.mpr c2'
        have d3 := mt iLt.mpr c3'
        rw [i0] at d1
        have e1 := iSub (x := b) (y := a) (by omega) (by omega)
        have e2 := iSub (x := giC S1 t 1) (y := b - a) (by omega) (by omega)
        have e3 := iAdd (x := giC S1 t 1 - (b - a)) (y := giC S1 z 1) (by omega) (by omega)
        have e4 := iAdd (x := a) (y := giC S1 z 1) (by omega) (by omega)
        have e5 := iSub (x := giC S1 t 1) (y := b) (by omega) (by omega)
        by_cases c4' : giC S1 t 1 - (b - a) + giC S1 z 1 ≤ Int32.ofNat 400
        · simp only [if_pos c4']
          have d4 := iLe.mp c4'
          rw [h4] at d4
          have n1 := iNat (x := b) (by omega)
          have n2 := iNat (x := a + giC S1 z 1) (by omega)
          have n3 := iNat (x := giC S1 t 1 - b) (by omega)
          have n4 := iNat (x := a) (by omega)
          have n5 := iNat (x := giC S1 z 1) (by omega)
          have u2 := u.sf (a := t + 1) (f := va_cpy (giC S1 (t + 1)) (giC S1 (t + 1)) b.toNatClampNeg (a + giC S1 z 1).toNatClampNeg (giC S1 t 1 - b).toNatClampNeg) c' (Or.inl w.1.1.2)
          generalize hS : sfC S1 (t + 1) (va_cpy (giC S1 (t + 1)) (giC S1 (t + 1)) b.toNatClampNeg (a + giC S1 z 1).toNatClampNeg (giC S1 t 1 - b).toNatClampNeg) = S2 at u2 ⊢
          have k2 := k.e u2.2.2
          have kz2 := kz.e u2.2.2
          have v := u2.1.ci.wf.w6 k2
          have vz := u2.1.ci.wf.w6 kz2
          have ez : giC S2 z 1 = giC S1 z 1 := by
            rw [← hS, gi_sf, if_neg (fun y => by have := kz.2; rw [y, w.1.1.2] at this; omega)]
          rw [v.2.1, vz.2.1, Option.getD_some, Option.getD_some, v.1.2, vz.1.2, ez]
          have z0 : (0 : Int32).toNatClampNeg = 0 := rfl
          have u3 := u2.sf (a := t + 1) (f := va_cpy (giC S2 (z + 1)) (giC S2 (t + 1)) (0 : Int32).toNatClampNeg a.toNatClampNeg (giC S1 z 1).toNatClampNeg) c' (Or.inl v.1.1.2)
          refine ⟨⟨y_sizeWith .., ir_so.mpr w.1.1, ir_so.mpr w.1.1, ir_so.mpr w.1.1, ⟨⟨fun y => ?_, fun y => ?_, fun y => ?_⟩, by omega, by omega⟩, ir_so.mpr vz.1.1, ir_so.mpr v.1.1, ⟨⟨by decide, c1', fun y => ?_⟩, by omega, by omega⟩, trivial⟩, _, _, rfl, u3.tI (ik_sf.mpr k2) c _ ⟨by omega, by omega⟩⟩
          · have y := iLt.mp y
            rw [i0] at y
            omega
          · have y := iLt.mp y
            rw [i0] at y
            omega
          · have y := iLt.mp y
            rw [i0] at y
            omega
          · have y := iLt.mp y
            rw [i0] at y
            omega
        · simp only [if_neg c4']
          exact ⟨⟨y_sizeWith .., ir_so.mpr w.1.1, trivial⟩, _, _, rfl, u⟩
end
end
section
/-! ===== deeds that move motions ===== -/
section
variable {E E0 : Nat → Prop} {x : Nat} {S S1 S2 S3 : Cst} {T T1 T2 : Nat → List Nat} {F F1 : List Nat} {col c1 : Nat → Nat}
/-- an assembly between acts -/
def AS (x : Nat) (S : Cst) (T : Nat → List Nat) (col : Nat → Nat) (S1 : Cst) (T1 : Nat → List Nat) (c1 : Nat → Nat) : Prop := Sst noE x S T [] col S1 T1 [] c1 ∧ PI S1 T1 x
/-- a method's step -/
def am (x : Nat) (S : Cst) (T : Nat → List Nat) (col : Nat → Nat) (S1 : Cst) (p : Nat → Nat → Prop) (f : Int32 × Cst) : Prop := ∃ v S2 T2 c2, f = (v, S2) ∧ (∀ lc ls, S2.1 ≤ lc → S2.2.1 ≤ ls → p lc ls) ∧ AS x S T col S2 T2 c2 ∧ eN S1 S2
theorem AS.q (a : AS x S T col S1 T1 c1) {p : Prop} {f : Int32 × Cst} (m : qm noE x S T [] col T1 [] c1 S1 p f) : am x S T col S1 (fun _ _ => p) f := by
  obtain ⟨hp, v, S2, e, u⟩ := m
  exact ⟨v, S2, T1, c1, e, fun _ _ _ _ => hp, ⟨u.1, a.2.kp a.1.ci a.1.k1 u.2.1 (fun _ _ _ => rfl)⟩, u.2.2.n⟩
theorem sT_b (h : CI noE S1 T1 F1 c1) (k : iK S1 x 0) : ∀ n, n ≤ 8 → sT T1 x n ≤ 9 * n := by
  intro n
  induction n with
  | zero => intro _; exact Nat.le_refl _
  | succ n ih =>
    intro hn
    have i := ih (by omega)
    have kp := (h.wf.w5 (dk_ix h.wf k (show n < 8 by omega)).2).1
    rw [show x + 13 + 3 * n + 1 = x + 14 + 3 * n by omega] at kp
    have w := (h.tp _ (noE_n _) kp).2.1
    rw [sT]
    omega
theorem mT_b (h : CI noE S1 T1 F1 c1) (k : iK S1 x 0) : mT T1 x ≤ (T1 x).length + (T1 (x + 1)).length + (T1 (x + 4)).length + 72 := by
  have := sT_b h k 8 (by omega)
  unfold mT
  omega
theorem l1_b (h : CI noE S1 T1 F1 c1) (k : iK S1 x 0) : (T1 (x + 1)).length ≤ 9 := (h.tp _ (noE_n _) (h.wf.w0 k).1.2.1).2.1
theorem l4_b (h : CI noE S1 T1 F1 c1) (k : iK S1 x 0) : (T1 (x + 4)).length ≤ 9 := (h.tp _ (noE_n _) (h.wf.w5 (h.wf.w0 k).1.2.2.1).1).2.1
theorem tp_c (h : Sst noE x S T F col S1 T1 F1 c1) : mC S1 c1 x (f_Y5_top S1 (x + 1)) := by
  have kp := (h.ci.wf.w0 h.k1).1.2.1
  cases e : f_Y5_top S1 (x + 1) with
  | none => exact Or.inl rfl
  | some q =>
    obtain ⟨l, hl⟩ := (tp_i h.ci (noE_n _) kp).2 q e
    have m := h.ci.tk (x + 1) q (by rw [hl]; simp)
    exact Or.inr ⟨q, rfl, m.1, by rw [m.2]; exact h.cx 1 (by omega)⟩
theorem mo_i (h : CI noE S1 T1 F1 c1) (k : iK S1 x 0) {d q : Nat} (o : pl x d) (e : f_Y6_motion S1 d = some q) : giC S1 d 0 = 2 ∧ ∃ l, T1 (d + 1) = q :: l := by
  by_cases z : giC S1 d 0 = 2
  · refine ⟨z, ?_⟩
    obtain ⟨a, b⟩ := mot_s h k o (noE_n _) z
    cases t : T1 (d + 1) with
    | nil =>
      rw [a t] at e
      cases e
    | cons r l =>
      rw [b r l t] at e
      cases e
      exact ⟨l, rfl⟩
  · rw [mot_n h k o z] at e
    cases e
theorem mo_c (h : Sst noE x S T F col S1 T1 F1 c1) {d : Nat} (o : pl x d) : mC S1 c1 x (f_Y6_motion S1 d) := by
  cases e : f_Y6_motion S1 d with
  | none => exact Or.inl rfl
  | some q =>
    obtain ⟨_, l, hl⟩ := mo_i h.ci h.k1 o e
    have m := h.ci.tk (d + 1) q (by rw [hl]; exact List.mem_cons_self ..)
    exact Or.inr ⟨q, rfl, m.1, by rw [m.2]; exact h.oc o.o.1⟩
theorem dM_n (wf : wfS S) {q z : Nat} (k : iK S q 3) (n : z ≠ q) (kz : kdC S z = 3 ∨ kdC S z = 5) : ¬ dM q z := by
  rintro ⟨a, b⟩
  have w := wf.w3 k
  have e1 : kdC S (q + 1) = 6 := w.1.1.2
  have e2 : kdC S (q + 2) = 20 := (wf.w6 w.1.1).1.1.2
  have e3 : kdC S (q + 3) = 22 := w.1.2.1.2
  have : z = q + 1 ∨ z = q + 2 ∨ z = q + 3 := by omega
  rcases this with rfl | rfl | rfl <;> omega
theorem fcU_at {p : Nat} : ∀ n, p < n → (∀ r, r < n → r ≠ p → giC S2 (x + 13 + 3 * r) 0 = giC S1 (x + 13 + 3 * r) 0) → fcU S2 x n + (if giC S1 (x + 13 + 3 * p) 0 = 0 then 1 else 0) = fcU S1 x n + (if giC S2 (x + 13 + 3 * p) 0 = 0 then 1 else 0) := by
  intro n
  induction n with
  | zero => intro h; omega
  | succ n ih =>
    intro h g
    rw [fcU, fcU]
    by_cases e : p = n
    · rw [e, fcU_cg n (fun r hr => g r (by omega) (by omega))]
      omega
    · have := ih (by omega) (fun r hr => g r (by omega))
      rw [g n (by omega) (by omega)]
      omega
theorem pa_v (h : wfS S1) (k : iK S1 x 0) {i : Int32} {p : Nat} (hp : p < 8) (hi : i.toInt = p) : f_Y0_placeAt S1 x i = some (x + 13 + 3 * p) := by
  have hn := iNat (x := i) (by omega)
  unfold f_Y0_placeAt b_Y0_placeAt_10 b_Y0_placeAt_20
  rw [if_neg (fun z => by have := iLt.mp z; rw [i0] at this; omega), if_pos (iLt.mpr (by rw [e8]; omega)), show i.toNatClampNeg = p by omega]
  exact (dk_ix h k hp).1
/-- the draft alone is another one, or what is pending -/
theorem PI.dr (h : PI S1 T1 x) (hp : ∀ p, p < 8 → giC S2 (x + 13 + 3 * p) 0 = giC S1 (x + 13 + 3 * p) 0 ∧ T2 (x + 13 + 3 * p + 1) = T1 (x + 13 + 3 * p + 1)) (hd : (giC S2 (x + 3) 0 = 0 → T2 (x + 4) = []) ∧ (giC S2 (x + 3) 0 ≠ 3 → (T2 (x + 4)).length ≤ 1) ∧ sK (giC S2 (x + 3) 0) ∧ giC S2 (x + 3) 0 ≠ 1) (hn : nd S2 (T2 (x + 1)) → 1 ≤ fcU S1 x 8) (h3 : giC S2 (x + 3) 0 = 3 → 1 ≤ fcU S1 x 8) (h4 : nd S2 (T2 (x + 1)) → giC S2 (x + 3) 0 = 3 → 2 ≤ fcU S1 x 8) : PI S2 T2 x := by
  have hf : fcU S2 x 8 = fcU S1 x 8 := fcU_cg 8 (fun p hp' => (hp p hp').1)
  refine ⟨fun d o => ?_, ?_, ?_, ?_⟩
  · rcases o with rfl | ⟨p, hp', rfl⟩
    · exact ⟨hd.1, hd.2.1, hd.2.2.1, fun _ => hd.2.2.2⟩
    · rw [(hp p hp').1, (hp p hp').2]
      exact h.1 _ (Or.inr ⟨p, hp', rfl⟩)
  · rw [hf]
    exact hn
  · rw [hf]
    exact h3
  · rw [hf]
    exact h4
/-- one place is another one, and the draft -/
theorem PI.pc (h : PI S1 T1 x) {p0 : Nat} (hp : ∀ p, p < 8 → p ≠ p0 → giC S2 (x + 13 + 3 * p) 0 = giC S1 (x + 13 + 3 * p) 0 ∧ T2 (x + 13 + 3 * p + 1) = T1 (x + 13 + 3 * p + 1)) (h0 : (giC S2 (x + 13 + 3 * p0) 0 = 0 → T2 (x + 13 + 3 * p0 + 1) = []) ∧ (giC S2 (x + 13 + 3 * p0) 0 ≠ 3 → (T2 (x + 13 + 3 * p0 + 1)).length ≤ 1) ∧ sK (giC S2 (x + 13 + 3 * p0) 0)) (hd : (giC S2 (x + 3) 0 = 0 → T2 (x + 4) = []) ∧ (giC S2 (x + 3) 0 ≠ 3 → (T2 (x + 4)).length ≤ 1) ∧ sK (giC S2 (x + 3) 0) ∧ giC S2 (x + 3) 0 ≠ 1) (hn : nd S2 (T2 (x + 1)) → 1 ≤ fcU S2 x 8) (h3 : giC S2 (x + 3) 0 = 3 → 1 ≤ fcU S2 x 8) (h4 : nd S2 (T2 (x + 1)) → giC S2 (x + 3) 0 = 3 → 2 ≤ fcU S2 x 8) : PI S2 T2 x := by
  refine ⟨fun d o => ?_, hn, h3, h4⟩
  rcases o with rfl | ⟨p, hp', rfl⟩
  · exact ⟨hd.1, hd.2.1, hd.2.2.1, fun _ => hd.2.2.2⟩
  · by_cases e : p = p0
    · rw [e]
      exact ⟨h0.1, h0.2.1, h0.2.2, fun z => by omega⟩
    · rw [(hp p hp' e).1, (hp p hp' e).2]
      exact h.1 _ (Or.inr ⟨p, hp', rfl⟩)
theorem nd_nil : ¬ nd S [] := fun ⟨q, m, _⟩ => by cases m
theorem nd_sub {L L' : List Nat} (hk : ∀ q, q ∈ L' → q ∈ L ∧ giC S2 q 2 = giC S1 q 2) (h : nd S2 L') : nd S1 L := by
  obtain ⟨q, m, n⟩ := h
  rw [(hk q m).2] at n
  exact ⟨q, (hk q m).1, n⟩
theorem s0 : sK 0 := Or.inl rfl
theorem s2 : sK 2 := Or.inr (Or.inr (Or.inl rfl))
theorem AS.c0 (a : AS x S T col S1 T1 c1) {d : Nat} (o : pl x d) (z : giC S1 d 0 = 0) : T1 (d + 1) = [] := (a.2.1 d o).1 z
/-- act 10 -/
theorem y_draft (a : AS x S T col S1 T1 c1) (v : Int32) : am x S T col S1 (fun lc ls => p_Y1_begin S1 x lc ls v) (f_Y1_begin S1 x v) := by
  have h := a.1
  have w0 := h.ci.wf.w0 h.k1
  have o3 : pl x (x + 3) := Or.inl rfl
  obtain ⟨p1, S2, T2, f1, f2, f3, f4, f5, f6⟩ := y_discard h o3 (noE_n _)
  have b1 := mT_b f2.ci f2.k1
  have b2 := l1_b f2.ci f2.k1
  have b3 : (T2 (x + 4)).length = 0 := by rw [f5]; rfl
  obtain ⟨S3, T3, q, c3, g1, g2, g3, g4, g5, g6⟩ := y_newMotion f2 (fun z => by rw [z] at b1; simp only [List.length_nil] at b1 ⊢; omega) v
  have hT3 : T3 (x + 3 + 1) = [] := by rw [g6 _ (by omega)]; exact f5
  obtain ⟨r1, S4, r2, r3, r4, r5⟩ := y_hold g3 2 o3 (noE_n _) (by rw [hT3]; decide)
  have w2 := f2.ci.wf.w0 f2.k1
  have kq := (g3.ci.tf.2 q (List.mem_cons_self ..))
  unfold p_Y1_begin f_Y1_begin q_Y1_begin_8a b_Y1_begin_8a q_Y1_begin_18a b_Y1_begin_18a q_Y1_begin_21a b_Y1_begin_21a
  rw [w0.2.1.2.2.1, Option.getD_some, f1, g1, w2.2.1.2.2.1]
  simp only [Option.getD_some, r2]
  refine ⟨_, S4, _, _, rfl, fun lc ls A B => ⟨ir_so.mpr w0.1.2.2.1, p1, ⟨⟨g4.1.1.1, Nat.le_trans r4.1.1.1 A⟩, g4.1.1.2, Nat.le_trans r4.1.1.2 B⟩, g2 _ _ (Nat.le_refl _) (Nat.le_refl _), fun z e => ?_, ir_so.mpr (w2.1.2.2.1.n g4.1), r1, trivial⟩, ⟨r3, ?_⟩, (f3.1.tr g4.1).tr r4.1⟩
  · cases e
    exact w2.1.2.2.1.1
  · refine a.2.dr (fun p hp => ⟨?_, ?_⟩) ⟨fun z => ?_, fun _ => ?_, ?_, ?_⟩ (fun n => ?_) (fun n => ?_) (fun _ n => ?_)
    · have o : pl x (x + 13 + 3 * p) := Or.inr ⟨p, hp, rfl⟩
      have k1 := o.lt h.ci h.k1
      have k2 := o.lt f2.ci f2.k1
      have k3 := o.lt g3.ci g3.k1
      rw [r4.2.1 _ k3.1 (by rw [k3.2]; decide) (by omega), g4.2.1 _ k2.1 (by rw [k2.2]; decide) (dM_n g3.ci.wf kq.1 (fun z => by have := kq.1.2; rw [← z, k3.2] at this; omega) (Or.inr k3.2)), f3.2.1 _ k1.1 (by rw [k1.2]; decide) (by omega)]
    · rw [tU_ne _ _ (by omega), g6 _ (by omega), f6 _ (by omega) (by omega)]
    · rw [r5] at z
      exact absurd z (by decide)
    · rw [show x + 4 = x + 3 + 1 by omega, tU_at, hT3]
      exact Nat.le_refl _
    · rw [r5]
      exact s2
    · rw [r5]
      decide
    · refine a.2.2.1 (nd_sub (fun z m => ?_) n)
      rw [tU_ne _ _ (by omega), g6 _ (by omega)] at m
      have m3 : z ∈ T3 (x + 1) := by rw [g6 _ (by omega)]; exact m
      have k3 := (g3.ci.tk _ _ m3).1
      have k2 := (f2.ci.tk _ _ m).1
      have nq : z ≠ q := fun e => kq.2 (x + 1) (by rw [← e]; exact m3)
      have m1 : z ∈ T1 (x + 1) := by rw [← f6 (x + 1) (by omega) (by omega)]; exact m
      have k1 := (h.ci.tk _ _ m1).1
      refine ⟨m1, ?_⟩
      rw [r4.2.1 _ k3.1 (by rw [k3.2]; decide) (fun e => by have := (o3.lt g3.ci g3.k1).2; rw [← e, k3.2] at this; omega), g4.2.1 _ k2.1 (by rw [k2.2]; decide) (dM_n g3.ci.wf kq.1 nq (Or.inl k3.2)), f3.2.1 _ k1.1 (by rw [k1.2]; decide) (fun e => by have := (o3.lt h.ci h.k1).2; rw [← e, k1.2] at this; omega)]
    · rw [r5] at n
      exact absurd n (by decide)
    · rw [r5] at n
      exact absurd n (by decide)
/-- act 22 -/
theorem y_endSitting (a : AS x S T col S1 T1 c1) : am x S T col S1 (fun _ _ => p_Y1_endSitting S1 x) (f_Y1_endSitting S1 x) := by
  have h := a.1
  have w0 := h.ci.wf.w0 h.k1
  have o3 : pl x (x + 3) := Or.inl rfl
  obtain ⟨p1, S2, T2, f1, f2, f3, f4, f5⟩ := y_release h (noE_n _) (show own x (x + 1) from Or.inr (Or.inl rfl)) (by omega)
  have w2 := f2.ci.wf.w0 f2.k1
  obtain ⟨q1, S3, T3, g1, g2, g3, g4, g5, g6⟩ := y_discard f2 o3 (noE_n _)
  have w3 := g2.ci.wf.w0 g2.k1
  have u := (QU.rf g2).hI 6 (-1) (by omega)
  unfold p_Y1_endSitting f_Y1_endSitting q_Y1_endSitting_16a b_Y1_endSitting_16a q_Y1_endSitting_24a b_Y1_endSitting_24a
  rw [w0.2.1.2.1, Option.getD_some, f1]
  simp only
  rw [w2.2.1.2.2.1, Option.getD_some, g1]
  simp only
  rw [w3.2.1.1, Option.getD_some]
  refine ⟨_, _, T3, c1, rfl, fun _ _ _ _ => ⟨ir_so.mpr w0.1.2.1, ir_so.mpr w0.1.2.1, p1, ir_so.mpr w2.1.2.2.1, q1, ir_so.mpr w3.1.1, trivial⟩, ⟨u.1, ?_⟩, (f3.1.tr g3.1).tr u.2.2.n⟩
  have ed : giC (siC S3 (x + 37) 6 (-1)) (x + 3) 0 = 0 := by rw [gi_si, if_neg (by omega)]; exact g4
  have e1 : T3 (x + 1) = [] := by rw [g6 _ (by omega) (by omega)]; exact f4
  refine a.2.dr (fun p hp => ⟨?_, ?_⟩) ⟨fun _ => g5, fun _ => ?_, ?_, ?_⟩ (fun n => ?_) (fun n => ?_) (fun n _ => ?_)
  · have o : pl x (x + 13 + 3 * p) := Or.inr ⟨p, hp, rfl⟩
    have k1 := o.lt h.ci h.k1
    have k2 := o.lt f2.ci f2.k1
    rw [gi_si, if_neg (by omega), g3.2.1 _ k2.1 (by rw [k2.2]; decide) (by omega), f3.2.1 _ k1.1 (by rw [k1.2]; decide)]
  · rw [g6 _ (by omega) (by omega), f5 _ (by omega) (by omega)]
  · rw [show x + 4 = x + 3 + 1 by omega, g5]
    exact Nat.zero_le _
  · rw [ed]
    exact s0
  · rw [ed]
    decide
  · rw [e1] at n
    exact absurd n nd_nil
  · rw [ed] at n
    exact absurd n (by decide)
  · rw [e1] at n
    exact absurd n nd_nil
/-- the top goes to the spare ones -/
theorem y_dropA (a : AS x S T col S1 T1 c1) : p_Y0_dropTop S1 x (x + 1) ∧ ∃ S2 T2, f_Y0_dropTop S1 x (x + 1) = (0, S2) ∧ AS x S T col S2 T2 c1 ∧ gF S1 S2 ∧ T2 (x + 1) = (T1 (x + 1)).dropLast ∧ ∀ c, c ≠ x + 1 → c ≠ x → T2 c = T1 c := by
  have h := a.1
  have o3 : pl x (x + 3) := Or.inl rfl
  obtain ⟨p1, S2, T2, f1, f2, f3, f4, f5⟩ := y_dropTop h (noE_n _) (show own x (x + 1) from Or.inr (Or.inl rfl)) (by omega)
  have hk : ∀ q, q ∈ T2 (x + 1) → q ∈ T1 (x + 1) ∧ giC S2 q 2 = giC S1 q 2 := fun q m => by
    rw [f4] at m
    have m1 := List.dropLast_subset _ m
    have k1 := (h.ci.tk _ _ m1).1
    exact ⟨m1, f3.2.1 _ k1.1 (by rw [k1.2]; decide) 2⟩
  have k3 := o3.lt h.ci h.k1
  have ed : giC S2 (x + 3) 0 = giC S1 (x + 3) 0 := f3.2.1 _ k3.1 (by rw [k3.2]; decide) 0
  have et : T2 (x + 4) = T1 (x + 4) := f5 _ (by omega) (by omega)
  have A := a.2.1 _ o3
  refine ⟨p1, S2, T2, f1, ⟨f2, a.2.dr (fun p hp => ⟨?_, ?_⟩) ⟨?_, ?_, ?_, ?_⟩ (fun n => a.2.2.1 (nd_sub hk n)) (fun n => a.2.2.2.1 ?_) (fun n m => a.2.2.2.2 (nd_sub hk n) ?_)⟩, f3, f4, f5⟩
  · have o : pl x (x + 13 + 3 * p) := Or.inr ⟨p, hp, rfl⟩
    have k1 := o.lt h.ci h.k1
    rw [f3.2.1 _ k1.1 (by rw [k1.2]; decide)]
  · exact f5 _ (by omega) (by omega)
  · rw [ed, et]
    exact A.1
  · rw [ed, et]
    exact A.2.1
  · rw [ed]
    exact A.2.2.1
  · rw [ed]
    exact A.2.2.2 rfl
  · rw [← ed]
    exact n
  · rw [← ed]
    exact m
/-- act 19 -/
theorem y_ruling (a : AS x S T col S1 T1 c1) (hl : (T1 (x + 1)).length < 9) : am x S T col S1 (fun lc ls => p_Y1_putRuling S1 x lc ls) (f_Y1_putRuling S1 x) := by
  have h := a.1
  have o3 : pl x (x + 3) := Or.inl rfl
  have b1 := mT_b h.ci h.k1
  have b3 := l4_b h.ci h.k1
  obtain ⟨S3, T3, q, c3, g1, g2, g3, g4, g5, g6⟩ := y_newMotion h (fun z => by rw [z] at b1; simp only [List.length_nil] at b1 ⊢; omega) 9
  have w3 := g3.ci.wf.w0 g3.k1
  have kq := (g3.ci.tf.2 q (List.mem_cons_self ..))
  have u := (QU.rf g3).mI kq.1 (g3.fc q (List.mem_cons_self ..)) 3 (giC S3 (x + 37) 3) (by omega) (by omega)
  have w4 := u.w0
  have hT3 : T3 (x + 1) = T1 (x + 1) := g6 _ (by omega)
  obtain ⟨r1, S5, r2, r3, r4, _⟩ := y_put u.1 (P := x + 1) (noE_n _) (Or.inr (Or.inl rfl)) (by omega) (by rw [hT3]; exact hl)
  unfold p_Y1_putRuling f_Y1_putRuling q_Y1_putRuling_6a b_Y1_putRuling_6a q_Y1_putRuling_26a b_Y1_putRuling_26a
  rw [g1]
  simp only [Option.getD_some]
  rw [w3.2.1.1, Option.getD_some, w4.2.1.2.1, Option.getD_some, r2]
  refine ⟨_, S5, _, _, rfl, fun lc ls A B => ⟨⟨⟨g4.1.1.1, Nat.le_trans (u.2.2.n.tr r4.1).1.1 A⟩, g4.1.1.2, Nat.le_trans (u.2.2.n.tr r4.1).1.2 B⟩, g2 _ _ (Nat.le_refl _) (Nat.le_refl _), ir_so.mpr w3.1.1, ir_so.mpr kq.1, ir_so.mpr w4.1.2.1, r1, trivial⟩, ⟨r3, ?_⟩, (g4.1.tr u.2.2.n).tr r4.1⟩
  have hs : ∀ z, kdC S3 z = 5 → ∀ k1 : iK S1 z 5, giC S5 z 0 = giC S1 z 0 := fun z e k1 => by
    have k3 : iK S3 z 5 := k1.n g4.1
    have k4 := k3.e u.2.2
    rw [r4.2.1 _ k4.1 (by rw [k4.2]; decide), u.2.1.2.1 z k3.1 k3.2, g4.2.1 _ k1.1 (by rw [k1.2]; decide) (dM_n g3.ci.wf kq.1 (fun y => by have := kq.1.2; rw [← y, e] at this; omega) (Or.inr e))]
  have hd : giC S5 (x + 3) 0 = giC S1 (x + 3) 0 := hs _ (o3.lt g3.ci g3.k1).2 (o3.lt h.ci h.k1)
  have ht : tU T3 (x + 1) (T3 (x + 1) ++ [q]) (x + 4) = T1 (x + 4) := by rw [tU_ne _ _ (by omega), g6 _ (by omega)]
  have A := a.2.1 _ o3
  have hn : nd S5 (tU T3 (x + 1) (T3 (x + 1) ++ [q]) (x + 1)) → nd S1 (T1 (x + 1)) := fun ⟨z, m, n⟩ => by
    rw [tU_at] at m
    rcases List.mem_append.mp m with m | m
    · have k3 := (g3.ci.tk _ _ m).1
      have k4 := k3.e u.2.2
      have nq : z ≠ q := fun e => kq.2 (x + 1) (by rw [← e]; exact m)
      rw [hT3] at m
      have k1 := (h.ci.tk _ _ m).1
      rw [r4.2.1 _ k4.1 (by rw [k4.2]; decide), u.2.1.2.2 z k3.1 k3.2, g4.2.1 _ k1.1 (by rw [k1.2]; decide) (dM_n g3.ci.wf kq.1 nq (Or.inl k3.2))] at n
      exact ⟨z, m, n⟩
    · rw [List.mem_singleton.mp m] at n
      have k4 := kq.1.e u.2.2
      rw [r4.2.1 _ k4.1 (by rw [k4.2]; decide), u.2.1.2.2 q kq.1.1 kq.1.2, g5] at n
      unfold nK at n
      exact absurd n (by decide)
  refine a.2.dr (fun p hp => ⟨?_, ?_⟩) ⟨?_, ?_, ?_, ?_⟩ (fun n => a.2.2.1 (hn n)) (fun n => a.2.2.2.1 ?_) (fun n m => a.2.2.2.2 (hn n) ?_)
  · have o : pl x (x + 13 + 3 * p) := Or.inr ⟨p, hp, rfl⟩
    exact hs _ (o.lt g3.ci g3.k1).2 (o.lt h.ci h.k1)
  · rw [tU_ne _ _ (by omega), g6 _ (by omega)]
  · rw [hd, ht]
    exact A.1
  · rw [hd, ht]
    exact A.2.1
  · rw [hd]
    exact A.2.2.1
  · rw [hd]
    exact A.2.2.2 rfl
  · rw [← hd]
    exact n
  · rw [← hd]
    exact m
end
end
section
/-! ===== acts 13, 14, 15: lay, take, move ===== -/
section
variable {x : Nat} {S S1 S2 S3 : Cst} {T T1 T2 : Nat → List Nat} {col c1 : Nat → Nat}
theorem QU.aI {E : Nat → Prop} {F F1 : List Nat} (u : QU E x S T F col T1 F1 c1 S1 S2) (b : Nat) (v : Int32) : QU E x S T F col T1 F1 c1 S1 (siC S2 x b v) := by
  have k := u.1.k1.2
  exact u.si (u.1.cx 0 (by omega)) (by rw [k]; decide) (ok_n (by omega)) (fun z => by omega) (fun z => by omega)
theorem gX_s {D : Nat → Prop} {d : Nat} (f : gX D S2 S3) (k : iK S2 d 5) (n : ¬ D d) : giC S3 d 0 = giC S2 d 0 := f.2.1 d k.1 (by rw [k.2]; decide) n 0
theorem gX_k {D : Nat → Prop} {d : Nat} (f : gX D S2 S3) (k : iK S2 d 3) (n : ¬ D d) : giC S3 d 2 = giC S2 d 2 := f.2.1 d k.1 (by rw [k.2]; decide) n 2
theorem s_ne {v w : Int32} (h : sK v) (h0 : v ≠ 0) (h1 : v ≠ 1) (h2 : v ≠ 2) : v = 3 := by
  rcases h with h | h | h | h
  · exact absurd h h0
  · exact absurd h h1
  · exact absurd h h2
  · exact h
theorem ly_64 (a : AS x S T col S1 T1 c1) {p : Nat} (hp : p < 8) (hs : giC S1 (x + 13 + 3 * p) 0 = 0) (hd : giC S1 (x + 3) 0 ≠ 0) (hr : nd S1 (T1 (x + 1)) → fcU S1 x 8 ≠ 1) {S2 : Cst} (u : QU noE x S T [] col T1 [] c1 S1 S2) (i : Int32) (r tp : Option Nat) : q_Y1_layDown_64 S2 x i (some (x + 13 + 3 * p)) r tp ∧ ∃ v S3 T3, b_Y1_layDown_64 S2 x i (some (x + 13 + 3 * p)) r tp = (v, S3) ∧ AS x S T col S3 T3 c1 ∧ eN S1 S3 := by
  have o3 : pl x (x + 3) := Or.inl rfl
  have o : pl x (x + 13 + 3 * p) := Or.inr ⟨p, hp, rfl⟩
  have a2 : PI S2 T1 x := a.2.kp a.1.ci a.1.k1 u.2.1 (fun _ _ _ => rfl)
  have h2 := u.1
  have w2 := u.w0
  have k3 := o3.lt h2.ci h2.k1
  have kp := o.lt h2.ci h2.k1
  have e1 := u.2.1.2.1 _ (o.lt a.1.ci a.1.k1).1 (o.lt a.1.ci a.1.k1).2
  have e3 := u.2.1.2.1 _ (o3.lt a.1.ci a.1.k1).1 (o3.lt a.1.ci a.1.k1).2
  have hT : T1 (x + 13 + 3 * p + 1) = [] := (a.2.1 _ o).1 hs
  obtain ⟨p1, S3, T3, f1, f2, f3, f4, f5, f6, f7, f8⟩ := y_takeFrom noE_n h2 o o3 (by omega) hT
  unfold q_Y1_layDown_64 b_Y1_layDown_64 q_Y1_layDown_76 b_Y1_layDown_76
  simp only [reduceCtorEq, if_false]
  rw [w2.2.1.2.2.1]
  simp only [Option.getD_some, ir_so, f1]
  refine ⟨⟨kp, k3, p1, trivial⟩, _, S3, T3, rfl, ⟨f2, ?_⟩, u.2.2.n.tr f3.1⟩
  have A := a2.1 _ o3
  have f4' : giC S3 (x + 13 + 3 * p) 0 = giC S1 (x + 3) 0 := f4.trans e3
  have hf := fcU_at (S1 := S2) (S2 := S3) (x := x) (p := p) 8 hp (fun r hr n => by
    have o' : pl x (x + 13 + 3 * r) := Or.inr ⟨r, hr, rfl⟩
    exact gX_s f3 (o'.lt h2.ci h2.k1) (by omega))
  have hf2 : fcU S2 x 8 = fcU S1 x 8 := fcU_cg 8 (fun r hr => by
    have o' : pl x (x + 13 + 3 * r) := Or.inr ⟨r, hr, rfl⟩
    exact u.2.1.2.1 _ (o'.lt a.1.ci a.1.k1).1 (o'.lt a.1.ci a.1.k1).2)
  rw [if_pos (e1.trans hs), f4', if_neg hd] at hf
  have ht1 : T3 (x + 1) = T1 (x + 1) := f8 _ (by omega) (by omega)
  have hn : nd S3 (T3 (x + 1)) → 1 ≤ fcU S3 x 8 := fun n => by
    have n1 : nd S1 (T1 (x + 1)) := nd_sub (fun q m => by
      rw [ht1] at m
      have k1 := (a.1.ci.tk _ _ m).1
      have k2 := k1.e u.2.2
      exact ⟨m, (gX_k f3 k2 (fun z => by rcases z with z | z <;> (have e := k2.2; rw [z] at e; first | rw [kp.2] at e | rw [k3.2] at e) <;> omega)).trans (u.2.1.2.2 q k1.1 k1.2)⟩) n
    have := hr n1
    omega
  refine a2.pc (p0 := p) (fun r hr n => ⟨?_, ?_⟩) ⟨fun z => ?_, fun z => ?_, ?_⟩ ⟨fun _ => f7, fun _ => ?_, ?_, ?_⟩ hn (fun z => ?_) (fun _ z => ?_)
  · have o' : pl x (x + 13 + 3 * r) := Or.inr ⟨r, hr, rfl⟩
    exact gX_s f3 (o'.lt h2.ci h2.k1) (by omega)
  · exact f8 _ (by omega) (by omega)
  · rw [f4'] at z
    exact absurd z hd
  · rw [f6]
    rw [f4] at z
    exact A.2.1 z
  · rw [f4]
    exact A.2.2.1
  · rw [show x + 4 = x + 3 + 1 by omega, f7]
    exact Nat.zero_le _
  · rw [f5]
    exact s0
  · rw [f5]
    decide
  · rw [f5] at z
    exact absurd z (by decide)
  · rw [f5] at z
    exact absurd z (by decide)
theorem y_lay (a : AS x S T col S1 T1 c1) {p : Nat} (hp : p < 8) {i : Int32} (hi : i.toInt = p) (hs : giC S1 (x + 13 + 3 * p) 0 = 0) (hd : giC S1 (x + 3) 0 ≠ 0) (hr : nd S1 (T1 (x + 1)) → fcU S1 x 8 ≠ 1) : am x S T col S1 (fun _ _ => p_Y1_layDown S1 x i) (f_Y1_layDown S1 x i) := by
  have h := a.1
  have u := QU.rf h
  have w0 := u.w0
  have hm := mo_c h (show pl x (x + 3) from Or.inl rfl)
  have ht := tp_c h
  have K := fun {S2 : Cst} (u : QU noE x S T [] col T1 [] c1 S1 S2) r tp => ly_64 a hp hs hd hr u i r tp
  have pv := pa_v h.ci.wf h.k1 hp hi
  have P1 := y_placeAt h.ci.wf h.k1 i
  have P2 := y_motion h.ci.wf w0.1.2.2.1
  have P3 := y_top h.ci.wf w0.1.2.1
  unfold am p_Y1_layDown f_Y1_layDown
  rw [pv, w0.2.1.2.2.1, w0.2.1.2.1]
  simp only [Option.getD_some]
  generalize f_Y6_motion S1 (x + 3) = r at hm ⊢
  generalize f_Y5_top S1 (x + 1) = tp at ht ⊢
  rcases hm with rfl | ⟨q, rfl, k, c⟩
  · obtain ⟨k1, v, S3, T3, k2, k3, k4⟩ := K u none tp
    simp only [if_true]
    exact ⟨v, S3, T3, c1, k2, fun _ _ _ _ => ⟨P1, ir_so.mpr w0.1.2.2.1, P2, ir_so.mpr w0.1.2.1, P3, k1⟩, k3, k4⟩
  · simp only [reduceCtorEq, if_false, Option.getD_some]
    by_cases e : giC S1 q 10 = 0
    · simp only [if_pos e]
      have u1 := u.mI k c 10 1 (by omega) (fun _ => bz1)
      have kq : iK (siC S1 q 10 1) q 3 := ik_si.mpr k
      have B : ∀ y0, q_Y1_layDown_61 (siC S1 q 10 1) x i (some (x + 13 + 3 * p)) (some q) tp y0 (some q) ∧ ∃ v S3 T3, b_Y1_layDown_61 (siC S1 q 10 1) x i (some (x + 13 + 3 * p)) (some q) tp y0 (some q) = (v, S3) ∧ AS x S T col S3 T3 c1 ∧ eN S1 S3 := fun y0 => by
        obtain ⟨k1, k2⟩ := K (u1.mI kq c 1 y0 (by omega) (by omega)) (some q) tp
        exact ⟨⟨ir_so.mpr kq, k1⟩, k2⟩
      have C : ∀ am, q_Y1_layDown_44a (siC S1 q 10 1) x i (some (x + 13 + 3 * p)) (some q) tp am (some q) ∧ ∃ v S3 T3, b_Y1_layDown_44a (siC S1 q 10 1) x i (some (x + 13 + 3 * p)) (some q) tp am (some q) = (v, S3) ∧ AS x S T col S3 T3 c1 ∧ eN S1 S3 := fun am => by
        unfold q_Y1_layDown_44a b_Y1_layDown_44a q_Y1_layDown_60 b_Y1_layDown_60
        by_cases z : am = 0
        · simp only [if_pos z]
          exact B 0
        · simp only [if_neg z]
          rcases ht with rfl | ⟨t, rfl, kt, ct⟩
          · simp only [if_true]
            exact B 0
          · simp only [reduceCtorEq, if_false, Option.getD_some]
            obtain ⟨b1, b2⟩ := B (giC (siC S1 q 10 1) t 0)
            exact ⟨⟨ir_so.mpr (ik_si.mpr kt), b1⟩, b2⟩
      obtain ⟨k1, v, S3, T3, k2, k3, k4⟩ := C (f_Y4_amends (siC S1 q 10 1) q)
      exact ⟨v, S3, T3, c1, k2, fun _ _ _ _ => ⟨P1, ir_so.mpr w0.1.2.2.1, P2, ir_so.mpr w0.1.2.1, P3, ir_so.mpr k, ir_so.mpr k, ir_so.mpr kq, y_amends _ _, k1⟩, k3, k4⟩
    · simp only [if_neg e]
      obtain ⟨k1, v, S3, T3, k2, k3, k4⟩ := K u (some q) tp
      exact ⟨v, S3, T3, c1, k2, fun _ _ _ _ => ⟨P1, ir_so.mpr w0.1.2.2.1, P2, ir_so.mpr w0.1.2.1, P3, ir_so.mpr k, k1⟩, k3, k4⟩
theorem y_take (a : AS x S T col S1 T1 c1) {p : Nat} (hp : p < 8) {i : Int32} (hi : i.toInt = p) (hd : giC S1 (x + 3) 0 = 0) (hs : giC S1 (x + 13 + 3 * p) 0 ≠ 0) : am x S T col S1 (fun _ _ => p_Y1_takeUp S1 x i) (f_Y1_takeUp S1 x i) := by
  have h := a.1
  have w0 := h.ci.wf.w0 h.k1
  have o3 : pl x (x + 3) := Or.inl rfl
  have o : pl x (x + 13 + 3 * p) := Or.inr ⟨p, hp, rfl⟩
  have k3 := o3.lt h.ci h.k1
  have kp := o.lt h.ci h.k1
  have pv := pa_v h.ci.wf h.k1 hp hi
  have P1 := y_placeAt h.ci.wf h.k1 i
  obtain ⟨p1, S3, T3, f1, f2, f3, f4, f5, f6, f7, f8⟩ := y_takeFrom noE_n h o3 o (by omega) (a.c0 o3 hd)
  have w3 := f2.ci.wf.w0 f2.k1
  have A := a.2.1 _ o
  have hf := fcU_at (S1 := S1) (S2 := S3) (x := x) (p := p) 8 hp (fun r hr n => by
    have o' : pl x (x + 13 + 3 * r) := Or.inr ⟨r, hr, rfl⟩
    exact gX_s f3 (o'.lt h.ci h.k1) (by omega))
  rw [if_neg hs, f5, if_pos rfl] at hf
  have ht1 : T3 (x + 1) = T1 (x + 1) := f8 _ (by omega) (by omega)
  have key : ∀ S4, eK S3 S4 → Sst noE x S T [] col S4 T3 [] c1 → (∀ q, q < S3.1 → q ≠ x + 3 → S4.2.2 q = S3.2.2 q) → (sK (giC S4 (x + 3) 0) ∧ giC S4 (x + 3) 0 ≠ 0 ∧ giC S4 (x + 3) 0 ≠ 1 ∧ (giC S4 (x + 3) 0 ≠ 3 → giC S1 (x + 13 + 3 * p) 0 ≠ 3)) → (q_Y1_takeUp_37 S4 x i (some (x + 13 + 3 * p)) ∧ ∃ v, b_Y1_takeUp_37 S4 x i (some (x + 13 + 3 * p)) = (v, S4)) ∧ AS x S T col S4 T3 c1 ∧ eN S1 S4 := by
    intro S4 ek h4 fr hs4
    have w4 := h4.ci.wf.w0 h4.k1
    unfold q_Y1_takeUp_37 b_Y1_takeUp_37
    rw [w4.2.1.2.2.1]
    simp only [Option.getD_some, ir_so]
    have hg : ∀ z k, iK S3 z k → z ≠ x + 3 → ∀ j, giC S4 z j = giC S3 z j := fun z k kz n j => by
      unfold giC
      rw [fr z kz.1 n]
    have hp4 : ∀ r, r < 8 → giC S4 (x + 13 + 3 * r) 0 = giC S3 (x + 13 + 3 * r) 0 := fun r hr => by
      have o' : pl x (x + 13 + 3 * r) := Or.inr ⟨r, hr, rfl⟩
      exact hg _ _ (o'.lt f2.ci f2.k1) (by omega) 0
    have hf4 : fcU S4 x 8 = fcU S3 x 8 := fcU_cg 8 hp4
    refine ⟨⟨⟨w4.1.2.2.1, y_kind h4.ci.wf w4.1.2.2.1, trivial⟩, _, rfl⟩, ⟨h4, ?_⟩, f3.1.tr ek.n⟩
    have hn : nd S4 (T3 (x + 1)) → nd S1 (T1 (x + 1)) := nd_sub (fun q m => by
      have kq3 := (f2.ci.tk _ _ m).1
      rw [ht1] at m
      have k1 := (h.ci.tk _ _ m).1
      have ne3 : q ≠ x + 3 := fun z => by have := k1.2; rw [z, k3.2] at this; omega
      have nep : q ≠ x + 13 + 3 * p := fun z => by have := k1.2; rw [z, kp.2] at this; omega
      exact ⟨m, (hg q 3 kq3 ne3 2).trans (gX_k f3 k1 (by omega))⟩)
    refine a.2.pc (p0 := p) (fun r hr n => ⟨?_, ?_⟩) ⟨fun _ => f7, fun _ => ?_, ?_⟩ ⟨fun z => ?_, fun z => ?_, hs4.1, hs4.2.2.1⟩ (fun _ => ?_) (fun z => ?_) (fun n z => ?_)
    · have o' : pl x (x + 13 + 3 * r) := Or.inr ⟨r, hr, rfl⟩
      exact (hp4 r hr).trans (gX_s f3 (o'.lt h.ci h.k1) (by omega))
    · exact f8 _ (by omega) (by omega)
    · rw [f7]
      exact Nat.zero_le _
    · rw [hp4 p hp, f5]
      exact s0
    · exact absurd z hs4.2.1
    · rw [show x + 4 = x + 3 + 1 by omega, f6]
      exact A.2.1 (hs4.2.2.2 z)
    · omega
    · omega
    · have := a.2.2.1 (hn n)
      omega
  unfold am p_Y1_takeUp f_Y1_takeUp q_Y1_takeUp_18 b_Y1_takeUp_18
  rw [pv]
  simp only [reduceCtorEq, if_false, Option.getD_some]
  rw [w0.2.1.2.2.1, Option.getD_some, f1]
  simp only
  rw [w3.2.1.2.2.1, Option.getD_some, f4]
  have k33 := o3.lt f2.ci f2.k1
  by_cases e : giC S1 (x + 13 + 3 * p) 0 = 1
  · simp only [if_pos e]
    have ev : giC (siC S3 (x + 3) 0 2) (x + 3) 0 = 2 := by rw [gi_si, if_pos ⟨rfl, rfl⟩]
    obtain ⟨⟨b1, v, b2⟩, b3, b4⟩ := key (siC S3 (x + 3) 0 2) (eK.si ..) (f2.sort o3 2) (fun q _ n => ce_si _ _ n) (by rw [ev, e]; exact ⟨s2, by decide, by decide, fun _ => by decide⟩)
    exact ⟨v, _, T3, c1, b2, fun _ _ _ _ => ⟨P1, ir_so.mpr k3, ir_so.mpr kp, p1, ir_so.mpr k33, ir_so.mpr k33, b1⟩, b3, b4⟩
  · simp only [if_neg e]
    obtain ⟨⟨b1, v, b2⟩, b3, b4⟩ := key S3 (eK.rf _) f2 (fun q _ _ => rfl) (by rw [f4]; exact ⟨A.2.2.1, hs, e, fun z => z⟩)
    exact ⟨v, _, T3, c1, b2, fun _ _ _ _ => ⟨P1, ir_so.mpr k3, ir_so.mpr kp, p1, ir_so.mpr k33, b1⟩, b3, b4⟩
theorem br_40 (a : AS x S T col S1 T1 c1) (hd : giC S1 (x + 3) 0 ≠ 0) {S2 : Cst} (u : QU noE x S T [] col T1 [] c1 S1 S2) (hl : (T1 (x + 1)).length + (T1 (x + 4)).length ≤ 9) (hn : nd S1 (T1 (x + 4)) → 1 ≤ fcU S1 x 8) (i : Int32) (r : Option Nat) : q_Y1_bringUp_40 S2 x i r ∧ ∃ v S3 T3, b_Y1_bringUp_40 S2 x i r = (v, S3) ∧ AS x S T col S3 T3 c1 ∧ eN S1 S3 := by
  have o3 : pl x (x + 3) := Or.inl rfl
  have h := a.1
  have h2 := u.1
  have w2 := u.w0
  have k3 := o3.lt h2.ci h2.k1
  have w5 := h2.ci.wf.w5 k3
  obtain ⟨p1, S3, T3, f1, f2, f3, f4, f5, f6⟩ := y_pour noE_n h2 o3.o.1 o3.o.2.1 (show own x (x + 1) from Or.inr (Or.inl rfl)) (by omega) (by omega) hl
  have w3 := f2.ci.wf.w0 f2.k1
  have k33 := o3.lt f2.ci f2.k1
  have h4 := f2.sort o3 0
  have w4 := h4.ci.wf.w0 h4.k1
  have u5 := (QU.rf h4).hI 6 (-1) (by omega)
  have w6 := u5.w0
  unfold q_Y1_bringUp_40 b_Y1_bringUp_40 q_Y1_bringUp_54a b_Y1_bringUp_54a
  rw [w2.2.1.2.2.1, w2.2.1.2.1]
  simp only [Option.getD_some]
  rw [w5.2, Option.getD_some, f1]
  simp only
  rw [w3.2.1.2.2.1]
  simp only [Option.getD_some]
  rw [w4.2.1.1, Option.getD_some, w6.2.1.2.1]
  refine ⟨⟨ir_so.mpr k3, ir_so.mpr w5.1, ir_so.mpr w2.1.2.1, p1, ir_so.mpr k33, ir_so.mpr w4.1.1, ir_so.mpr w6.1.2.1, trivial⟩, _, _, T3, rfl, ⟨u5.1, ?_⟩, (u.2.2.n.tr f3.1).tr ((eK.si ..).n.tr u5.2.2.n)⟩
  have hs : ∀ z j, iK S3 z j → z ≠ x + 3 → z ≠ x + 37 → ∀ m, giC (siC (siC S3 (x + 3) 0 0) (x + 37) 6 (-1)) z m = giC S3 z m := fun z j _ n1 n2 m => by
    rw [gi_si, if_neg (fun y => n2 y.1), gi_si, if_neg (fun y => n1 y.1)]
  have ed : giC (siC (siC S3 (x + 3) 0 0) (x + 37) 6 (-1)) (x + 3) 0 = 0 := by
    rw [gi_si, if_neg (by omega), gi_si, if_pos ⟨rfl, rfl⟩]
  have n1 : nd (siC (siC S3 (x + 3) 0 0) (x + 37) 6 (-1)) (T3 (x + 1)) → 1 ≤ fcU S1 x 8 := fun ⟨q, m, n⟩ => by
    have kq3 := (f2.ci.tk _ _ m).1
    have kk : ∀ c, q ∈ T1 c → giC (siC (siC S3 (x + 3) 0 0) (x + 37) 6 (-1)) q 2 = giC S1 q 2 := fun c mc => by
      have k1 := (h.ci.tk _ _ mc).1
      have k2 := k1.e u.2.2
      rw [hs q 3 kq3 (fun z => by have := kq3.2; rw [z, k33.2] at this; omega) (fun z => by have := kq3.2; rw [z, w3.1.1.2] at this; omega) 2, f3.2.1 q k2.1 (by rw [k2.2]; decide), u.2.1.2.2 q k1.1 k1.2]
    rw [f5] at m
    rcases List.mem_append.mp m with m | m
    · rw [kk _ m] at n
      exact a.2.2.1 ⟨q, m, n⟩
    · rw [kk _ m] at n
      exact hn ⟨q, m, n⟩
  refine a.2.dr (fun r hr => ⟨?_, ?_⟩) ⟨fun _ => f4, fun _ => ?_, ?_, ?_⟩ n1 (fun z => ?_) (fun _ z => ?_)
  · have o' : pl x (x + 13 + 3 * r) := Or.inr ⟨r, hr, rfl⟩
    have k1 := o'.lt h.ci h.k1
    have k2 := o'.lt h2.ci h2.k1
    rw [hs _ 5 (o'.lt f2.ci f2.k1) (by omega) (by omega), f3.2.1 _ k2.1 (by rw [k2.2]; decide), u.2.1.2.1 _ k1.1 k1.2]
  · exact f6 _ (by omega) (by omega)
  · rw [show x + 4 = x + 3 + 1 by omega, f4]
    exact Nat.zero_le _
  · rw [ed]
    exact s0
  · rw [ed]
    decide
  · rw [ed] at z
    exact absurd z (by decide)
  · rw [ed] at z
    exact absurd z (by decide)
theorem y_bring (a : AS x S T col S1 T1 c1) (i : Int32) (hd : giC S1 (x + 3) 0 ≠ 0) (hc : (∃ q, f_Y6_motion S1 (x + 3) = some q ∧ (T1 (x + 1)).length < 9 ∧ (nK (giC S1 q 2) → 1 ≤ fcU S1 x 8)) ∨ (f_Y6_motion S1 (x + 3) = none ∧ T1 (x + 1) = [])) : am x S T col S1 (fun _ _ => p_Y1_bringUp S1 x i) (f_Y1_bringUp S1 x i) := by
  have h := a.1
  have u := QU.rf h
  have w0 := u.w0
  have o3 : pl x (x + 3) := Or.inl rfl
  have P2 := y_motion h.ci.wf w0.1.2.2.1
  have A := a.2.1 _ o3
  unfold am p_Y1_bringUp f_Y1_bringUp
  rw [w0.2.1.2.2.1]
  simp only [Option.getD_some]
  rcases hc with ⟨q, e, l9, hk⟩ | ⟨e, hT⟩
  · obtain ⟨s, l, hl⟩ := mo_i h.ci h.k1 o3 e
    have l1 := A.2.1 (by rw [s]; decide)
    rw [hl, List.length_cons] at l1
    have ln : l = [] := List.eq_nil_of_length_eq_zero (by omega)
    rw [ln] at hl
    have hl : T1 (x + 4) = [q] := hl
    have kq := h.ci.tk (x + 4) q (by rw [hl]; exact List.mem_cons_self ..)
    have cq : c1 q = x := by rw [kq.2]; exact h.cx 4 (by omega)
    rw [e]
    simp only [reduceCtorEq, if_false, Option.getD_some]
    have B := fun y0 y1 => br_40 a hd ((((u.aI 8 y0).mI (ik_si.mpr kq.1) cq 0 y1 (by omega) (by omega)).mI (ik_si.mpr (ik_si.mpr kq.1)) cq 3 i (by omega) (by omega)).mI (ik_si.mpr (ik_si.mpr (ik_si.mpr kq.1))) cq 10 0 (by omega) (fun _ => bz0)) (by rw [hl]; simp; omega) (fun ⟨z, m, n⟩ => by
      rw [hl] at m
      rw [List.mem_singleton.mp m] at n
      exact hk n) i (some q)
    obtain ⟨k1, v, S3, T3, k2, k3, k4⟩ := B (giC S1 x 8 + 1) (giC (siC S1 x 8 (giC S1 x 8 + 1)) x 8)
    exact ⟨v, S3, T3, c1, k2, fun _ _ _ _ => ⟨ir_so.mpr w0.1.2.2.1, P2, ir_so.mpr (ik_si.mpr kq.1), ir_so.mpr (ik_si.mpr (ik_si.mpr kq.1)), ir_so.mpr (ik_si.mpr (ik_si.mpr (ik_si.mpr kq.1))), k1⟩, k3, k4⟩
  · rw [e]
    simp only [if_true]
    have hn : nd S1 (T1 (x + 4)) → 1 ≤ fcU S1 x 8 := fun n => by
      have s3 : giC S1 (x + 3) 0 = 3 := by
        refine s_ne (w := 0) A.2.2.1 hd (A.2.2.2 rfl) (fun z => ?_)
        obtain ⟨m1, m2⟩ := mot_s h.ci h.k1 o3 (noE_n _) z
        cases t : T1 (x + 3 + 1) with
        | nil =>
          rw [show T1 (x + 4) = [] from t] at n
          exact nd_nil n
        | cons r l =>
          rw [m2 r l t] at e
          cases e
      exact a.2.2.2.1 s3
    obtain ⟨k1, v, S3, T3, k2, k3, k4⟩ := br_40 a hd u (by rw [hT]; have := l4_b h.ci h.k1; simp; omega) hn i none
    exact ⟨v, S3, T3, c1, k2, fun _ _ _ _ => ⟨ir_so.mpr w0.1.2.2.1, P2, k1⟩, k3, k4⟩
end
end
section
/-! ===== act 21: told ===== -/
section
variable {x : Nat} {S S1 S2 S3 : Cst} {T T1 T2 : Nat → List Nat} {F F1 : List Nat} {col c1 c2 : Nat → Nat}
theorem at_c (h : Sst noE x S T F col S1 T1 F1 c1) (i : Int32) : mC S1 c1 x (f_Y5_at S1 (x + 1) i) := by
  have kp := (h.ci.wf.w0 h.k1).1.2.1
  by_cases z : 0 ≤ i.toInt ∧ i.toInt < (T1 (x + 1)).length
  · have hn := iNat z.1
    rw [at_s h.ci (noE_n _) kp z.1 z.2]
    have m : (T1 (x + 1)).getD i.toNatClampNeg 0 ∈ T1 (x + 1) := by
      rw [List.getD_eq_getElem?_getD, List.getElem?_eq_getElem (show i.toNatClampNeg < _ by omega)]
      exact List.getElem_mem _
    have t := h.ci.tk _ _ m
    exact Or.inr ⟨_, rfl, t.1, by rw [t.2]; exact h.cx 1 (by omega)⟩
  · rw [at_n h.ci (noE_n _) kp (by omega)]
    exact Or.inl rfl
/-- results kept -/
theorem kw_w (h : CI noE S1 T1 F1 c1) (k : iK S1 x 0) (c v : Int32) : iR S1 (grC S1 x 5) 2 ∧ p_Y3_write S1 ((grC S1 x 5).getD 0) c v ∧ ∃ S2, f_Y3_write S1 ((grC S1 x 5).getD 0) c v = (0, S2) ∧ LSt noE T1 F1 (x + 9) S1 c1 S2 c1 := by
  have w := h.wf.w0 k
  obtain ⟨p, S2, f, g, _⟩ := w_write h w.1.2.2.2.2.2.1 c v
  rw [w.2.1.2.2.2.2.2.1]
  exact ⟨ir_so.mpr w.1.2.2.2.2.2.1, p, S2, f, g⟩
theorem y_keepRes (h : CI noE S1 T1 F1 c1) (k : iK S1 x 0) (a b d e : Int32) : ∃ S2 c2, f_Y7_keep S1 x a b d e = (0, S2) ∧ (∀ lc ls, S2.1 ≤ lc → S2.2.1 ≤ ls → p_Y7_keep S1 x lc ls a b d e) ∧ LSt noE T1 F1 (x + 9) S1 c1 S2 c2 := by
  have w := h.wf.w0 k
  obtain ⟨S2, c2, f, p, g, _⟩ := w_open h w.1.2.2.2.2.2.1
  have k2 := k.n g.2.1
  have w2 := g.1.wf.w0 k2
  obtain ⟨i0', p0, S3, f0, g0⟩ := kw_w g.1 k2 0 (giC S2 ((grC S2 x 4).getD 0) 3)
  have k3 := k2.n g0.2.1
  obtain ⟨i1', p1, S4, f1, g1⟩ := kw_w g0.1 k3 1 a
  have k4 := k3.n g1.2.1
  obtain ⟨i2', p2, S5, f2, g2⟩ := kw_w g1.1 k4 2 b
  have k5 := k4.n g2.2.1
  obtain ⟨i3', p3, S6, f3, g3⟩ := kw_w g2.1 k5 3 d
  have k6 := k5.n g3.2.1
  obtain ⟨i4', p4, S7, f4, g4⟩ := kw_w g3.1 k6 4 e
  unfold f_Y7_keep p_Y7_keep b_Y7_keep_7a q_Y7_keep_7a b_Y7_keep_22a q_Y7_keep_22a b_Y7_keep_31a q_Y7_keep_31a b_Y7_keep_40a q_Y7_keep_40a b_Y7_keep_49a q_Y7_keep_49a b_Y7_keep_59a q_Y7_keep_59a
  rw [w.2.1.2.2.2.2.2.1, Option.getD_some, f]
  simp only [f0, f1, f2, f3, f4]
  have G := (((g0.tr g1).tr g2).tr g3).tr g4
  refine ⟨S7, c2, rfl, fun lc ls A B => ⟨ir_so.mpr w.1.2.2.2.2.2.1, ⟨⟨g.2.1.1.1, Nat.le_trans G.2.1.1.1 A⟩, g.2.1.1.2, Nat.le_trans G.2.1.1.2 B⟩, p _ _ (Nat.le_refl _) (Nat.le_refl _), ?_, i0', p0, i1', p1, i2', p2, i3', p3, i4', p4, trivial⟩, g.tr G⟩
  rw [w2.2.1.2.2.2.2.1]
  exact ir_so.mpr w2.1.2.2.2.2.1
theorem AS.led (a : AS x S T col S1 T1 c1) {l : Nat} (hl : l = x + 7 ∨ l = x + 9) (g : LSt noE T1 [] l S1 c1 S2 c2) : AS x S T col S2 T1 c2 := by
  have w := a.1.ci.wf.w0 a.1.k1
  have k : iK S1 l 2 := by
    rcases hl with e | e <;> rw [e]
    · exact w.1.2.2.2.2.1
    · exact w.1.2.2.2.2.2.1
  exact ⟨a.1.led hl g, a.2.kp a.1.ci a.1.k1 (g.p k a.1.ci.wf) (fun _ _ _ => rfl)⟩
/-- the laid ones follow -/
theorem am_69 {m q : Nat} (u : QU noE x S T F col T1 F1 c1 S1 S2) (km : iK S2 m 3) {r : Option Nat} (hr : mC S2 c1 x r) (a b w i : Int32) : q_Y7_amend_69a S2 x (some m) (some q) a b w i r ∧ ∃ S3, b_Y7_amend_69a S2 x (some m) (some q) a b w i r = Sum.inr (S3, some m, some q, a, b, w, i + 1) ∧ QU noE x S T F col T1 F1 c1 S1 S3 := by
  unfold q_Y7_amend_69a b_Y7_amend_69a q_Y7_amend_114 b_Y7_amend_114
  rcases hr with rfl | ⟨z, rfl, k, c⟩
  · simp only [if_true]
    exact ⟨trivial, S2, rfl, u⟩
  · simp only [reduceCtorEq, if_false, Option.getD_some, ir_so]
    by_cases e1 : giC S2 z 10 = 0
    · simp only [if_pos e1]
      exact ⟨⟨k, trivial⟩, S2, rfl, u⟩
    · simp only [if_neg e1]
      by_cases e2 : f_Y4_amends S2 z = 0
      · simp only [if_pos e2]
        exact ⟨⟨k, k, y_amends _ _, trivial⟩, S2, rfl, u⟩
      · simp only [if_neg e2]
        by_cases e3 : giC S2 z 1 = giC S2 m 0
        · simp only [if_pos e3]
          obtain ⟨p, v, S3, f, g⟩ := y_follow u.1 k c a b w
          rw [f]
          exact ⟨⟨k, k, y_amends _ _, k, km, k, p, trivial⟩, S3, rfl, u.tr g⟩
        · simp only [if_neg e3]
          exact ⟨⟨k, k, y_amends _ _, k, km, trivial⟩, S2, rfl, u⟩
theorem amend_lp {m q : Nat} (km : iK S1 m 3) (a b w : Int32) : ∀ (n : Nat) (S2 : Cst) (i : Int32), QU noE x S T F col T1 F1 c1 S1 S2 → -1 ≤ i.toInt → i.toInt ≤ 8 → 8 - i.toInt < n → qm noE x S T F col T1 F1 c1 S1 (lq_Y7_amend_37 x n S2 (some m) (some q) a b w i) (lp_Y7_amend_37 x n S2 (some m) (some q) a b w i) := by
  intro n
  induction n with
  | zero => intro S2 i u h1 h2 h3; omega
  | succ n ih =>
    intro S2 i u h1 h2 h3
    unfold qm
    rw [lq_Y7_amend_37, lp_Y7_amend_37]
    unfold ps_Y7_amend_37 st_Y7_amend_37
    have w0 := u.w0
    by_cases c : 8 ≤ i
    · rw [if_pos c, if_pos c]
      exact ⟨⟨trivial, trivial⟩, _, _, rfl, u⟩
    · rw [if_neg c, if_neg c]
      have c := mt iLe.mpr c
      rw [e8] at c
      have e := iAdd (x := i) (y := 1) (by rw [i1]; omega) (by rw [i1]; omega)
      rw [i1] at e
      by_cases d : 0 ≤ i
      · rw [if_pos d, if_pos d]
        have d := iLe.mp d
        rw [i0] at d
        have hn := iNat d
        have dk := dk_ix u.1.ci.wf u.1.k1 (i := i.toNatClampNeg) (by omega)
        have ln := dk_ln u.1.ci.wf u.1.k1
        rw [dk.1, ln]
        simp only [Option.getD_some, ir_so]
        have hm := mo_c u.1 (show pl x (x + 13 + 3 * i.toNatClampNeg) from Or.inr ⟨_, by omega, rfl⟩)
        have pm := y_motion u.1.ci.wf dk.2
        obtain ⟨p1, S3, f1, g1⟩ := am_69 (q := q) u (km.e u.2.2) hm a b w i
        rw [f1]
        obtain ⟨r1, r2⟩ := ih S3 (i + 1) g1 (by omega) (by omega) (by omega)
        exact ⟨⟨⟨g0_3 u.1.ci.wf u.1.k1, vIn d (by omega), dk.2, pm, p1⟩, r1⟩, r2⟩
      · rw [if_neg d, if_neg d]
        have d := mt iLe.mpr d
        rw [i0] at d
        rw [w0.2.1.2.2.1]
        simp only [Option.getD_some, ir_so]
        have hm := mo_c u.1 (show pl x (x + 3) from Or.inl rfl)
        have pm := y_motion u.1.ci.wf w0.1.2.2.1
        obtain ⟨p1, S3, f1, g1⟩ := am_69 (q := q) u (km.e u.2.2) hm a b w i
        rw [f1]
        obtain ⟨r1, r2⟩ := ih S3 (i + 1) g1 (by omega) (by omega) (by omega)
        exact ⟨⟨⟨w0.1.2.2.1, pm, p1⟩, r1⟩, r2⟩
theorem y_amendAll (h : Sst noE x S T F col S1 T1 F1 c1) {m q : Nat} (km : iK S1 m 3) (cm : c1 m = x) (kq : iK S1 q 3) : qm noE x S T F col T1 F1 c1 S1 (p_Y7_amend S1 x (some m) (some q)) (f_Y7_amend S1 x (some m) (some q)) := by
  have wm := h.ci.wf.w3 km
  have wq := h.ci.wf.w3 kq
  have u := QU.rf h
  unfold qm p_Y7_amend f_Y7_amend q_Y7_amend_34a b_Y7_amend_34a
  simp only [Option.getD_some, ir_so]
  rw [wm.2.1.1, wq.2.1.1]
  simp only [Option.getD_some, ir_so]
  obtain ⟨p1, v, S2, f1, g1⟩ := y_replace h wm.1.1 (u.mc km cm 1 (by omega)) (u.mc km cm 2 (by omega)) wq.1.1 (giC S1 q 8) (giC S1 q 9)
  rw [f1]
  obtain ⟨r1, r2⟩ := amend_lp (q := q) km (giC S1 q 8) (giC S1 q 9) (giC S1 (q + 1) 1) 100000 S2 (-1) g1 (by rw [em1]; omega) (by rw [em1]; omega) (by rw [em1]; omega)
  exact ⟨⟨kq, kq, kq, wq.1.1, km, kq, wm.1.1, wq.1.1, p1, r1⟩, r2⟩
theorem ca_89 (h : Sst noE x S T F col S1 T1 F1 c1) {q : Nat} (kq : iK S1 q 3) {r : Option Nat} (hr : mC S1 c1 x r) : qm noE x S T F col T1 F1 c1 S1 (q_Y7_carryAlone_89 S1 x (some q) r) (b_Y7_carryAlone_89 S1 x (some q) r) := by
  have u := QU.rf h
  unfold qm q_Y7_carryAlone_89 b_Y7_carryAlone_89 q_Y7_carryAlone_106 b_Y7_carryAlone_106
  rcases hr with rfl | ⟨m, rfl, km, cm⟩
  · simp only [if_true]
    exact ⟨trivial, _, _, rfl, u⟩
  · simp only [reduceCtorEq, if_false, Option.getD_some, ir_so]
    by_cases e : f_Y4_amends S1 q = 0
    · simp only [if_pos e]
      exact ⟨⟨kq, y_amends _ _, trivial⟩, _, _, rfl, u⟩
    · simp only [if_neg e]
      obtain ⟨p, v, S2, f, g⟩ := y_amendAll h km cm kq
      rw [f]
      exact ⟨⟨kq, y_amends _ _, p, trivial⟩, _, _, rfl, g⟩
theorem y_carry (h : Sst noE x S T F col S1 T1 F1 c1) {q : Nat} (kq : iK S1 q 3) : qm noE x S T F col T1 F1 c1 S1 (p_Y7_carryAlone S1 x (some q)) (f_Y7_carryAlone S1 x (some q)) := by
  have u := QU.rf h
  have w0 := u.w0
  have wq := h.ci.wf.w3 kq
  have pa := y_at h.ci.wf w0.1.2.1 (giC S1 (x + 1) 1 - 2)
  have hr := at_c h (giC S1 (x + 1) 1 - 2)
  unfold qm p_Y7_carryAlone f_Y7_carryAlone q_Y7_carryAlone_16a b_Y7_carryAlone_16a q_Y7_carryAlone_36a b_Y7_carryAlone_36a q_Y7_carryAlone_65a b_Y7_carryAlone_65a
  rw [w0.2.1.2.1]
  simp only [Option.getD_some, ir_so]
  generalize f_Y5_at S1 (x + 1) (giC S1 (x + 1) 1 - 2) = r at hr ⊢
  have k89 := ca_89 h kq hr
  obtain ⟨b1, b2⟩ := k89
  by_cases e1 : giC S1 q 2 = 1
  · simp only [if_pos e1]
    rw [w0.2.1.2.2.2.2.2.2, wq.2.1.1]
    simp only [Option.getD_some, ir_so]
    obtain ⟨p, S2, f, g, g2, g3, _⟩ := y_tBecome h w0.1.2.2.2.2.2.2 (h.cx 11 (by omega)) (h.cx 12 (by omega)) wq.1.1
    rw [f]
    have k12 := (h.ci.wf.w6 w0.1.2.2.2.2.2.2).1.1
    have u2 : QU noE x S T F col T1 F1 c1 S1 S2 := ⟨g, g2.p (fun z _ y e => by
      rcases y with y | y <;> rw [y] at e
      · have := w0.1.2.2.2.2.2.2.2; omega
      · have := k12.2; omega) (fun z _ y e => by
      rcases y with y | y <;> rw [y] at e
      · have := w0.1.2.2.2.2.2.2.2; omega
      · have := k12.2; omega), g3⟩
    unfold q_Y7_carryAlone_106 b_Y7_carryAlone_106
    exact ⟨⟨w0.1.2.1, w0.1.2.1, pa, kq, kq, w0.1.2.2.2.2.2.2, wq.1.1, p, trivial⟩, _, _, rfl, u2.aI 7 _⟩
  · simp only [if_neg e1]
    by_cases e2 : giC S1 q 2 = 8
    · simp only [if_pos e2]
      rw [w0.2.1.1]
      simp only [Option.getD_some, ir_so]
      obtain ⟨p, v, S2, f, g⟩ := y_hempty h
      rw [f]
      unfold q_Y7_carryAlone_106 b_Y7_carryAlone_106
      exact ⟨⟨w0.1.2.1, w0.1.2.1, pa, kq, kq, w0.1.1, p, trivial⟩, _, _, rfl, g⟩
    · simp only [if_neg e2]
      rcases hr with rfl | ⟨m, rfl, km, cm⟩
      · simp only [if_true]
        exact ⟨⟨w0.1.2.1, w0.1.2.1, pa, kq, kq, b1⟩, b2⟩
      · simp only [reduceCtorEq, if_false, Option.getD_some]
        by_cases e3 : giC S1 q 2 = 6
        · simp only [if_pos e3]
          unfold q_Y7_carryAlone_106 b_Y7_carryAlone_106
          exact ⟨⟨w0.1.2.1, w0.1.2.1, pa, kq, kq, kq, ir_so.mpr km, trivial⟩, _, _, rfl, u.mI km cm 7 1 (by omega) (fun _ => bz1)⟩
        · simp only [if_neg e3]
          exact ⟨⟨w0.1.2.1, w0.1.2.1, pa, kq, kq, kq, b1⟩, b2⟩
theorem fcU_0 : ∀ n, (∀ p, p < n → ¬ giC S1 (x + 13 + 3 * p) 0 = 0) → fcU S1 x n = 0 := by
  intro n
  induction n with
  | zero => intro _; rfl
  | succ n ih =>
    intro h
    rw [fcU, ih (fun p hp => h p (by omega)), if_neg (h n (by omega))]
theorem first_s (wf : wfS S1) (k : iK S1 x 0) (h : 1 ≤ fcU S1 x 8) : ∃ p, p < 8 ∧ f_Y0_firstFreePlace S1 x = some (x + 13 + 3 * p) ∧ giC S1 (x + 13 + 3 * p) 0 = 0 := by
  rcases first_v wf k with ⟨_, b⟩ | a
  · have := fcU_0 8 b
    omega
  · exact a
/-- a method's step that makes nothing -/
def bm (x : Nat) (S : Cst) (T : Nat → List Nat) (col c1 : Nat → Nat) (S1 : Cst) (p : Prop) (f : Int32 × Cst) : Prop := p ∧ ∃ v S3 T3, f = (v, S3) ∧ AS x S T col S3 T3 c1 ∧ eN S1 S3
theorem put_on (a : AS x S T col S1 T1 c1) (hn : nd S1 (T1 (x + 1))) {q0 p : Nat} (hp : p < 8) (hs : giC S1 (x + 13 + 3 * p) 0 = 0) (f2 : Sst noE x S T [] col S2 T2 [q0] c1) (f3 : gF S1 S2) (e1 : T2 (x + 1) = []) (fr : ∀ c, c ≠ x + 1 → c ≠ x → T2 c = T1 c) (m : mU noE x S T [] col T2 [q0] c1 q0 S2 S3) {v : Int32} (hv : v = 1 ∨ v = 2) : p_Y6_hold S3 (x + 13 + 3 * p) v (some q0) ∧ ∃ S4 T4, f_Y6_hold S3 (x + 13 + 3 * p) v (some q0) = (0, S4) ∧ AS x S T col S4 T4 c1 ∧ eN S1 S4 := by
  have o3 : pl x (x + 3) := Or.inl rfl
  have o : pl x (x + 13 + 3 * p) := Or.inr ⟨p, hp, rfl⟩
  have h := a.1
  have hT2 : T2 (x + 13 + 3 * p + 1) = [] := by rw [fr _ (by omega) (by omega)]; exact a.c0 o hs
  obtain ⟨r1, S4, r2, r3, r4, r5⟩ := y_hold m.1 v o (noE_n _) (by rw [hT2]; decide)
  have hd : ∀ d, pl x d → giC S3 d 0 = giC S1 d 0 := fun d od => by
    have k1 := od.lt h.ci h.k1
    have k2 := od.lt f2.ci f2.k1
    have k3 := od.lt m.1.ci m.1.k1
    rw [m.2.1.2.1 d k2.1 (by rw [k2.2]; decide) (dM_n m.1.ci.wf m.2.2.1 (fun y => by have := m.2.2.1.2; rw [← y, k3.2] at this; omega) (Or.inr k3.2)), f3.2.1 d k1.1 (by rw [k1.2]; decide)]
  have hp4 : ∀ r, r < 8 → r ≠ p → giC S4 (x + 13 + 3 * r) 0 = giC S1 (x + 13 + 3 * r) 0 := fun r hr n => by
    have o' : pl x (x + 13 + 3 * r) := Or.inr ⟨r, hr, rfl⟩
    rw [gX_s r4 (o'.lt m.1.ci m.1.k1) (by omega), hd _ o']
  have e3 : giC S4 (x + 3) 0 = giC S1 (x + 3) 0 := by rw [gX_s r4 (o3.lt m.1.ci m.1.k1) (by omega), hd _ o3]
  have hf := fcU_at (S1 := S1) (S2 := S4) (x := x) (p := p) 8 hp (fun r hr n => hp4 r hr n)
  have v0 : v ≠ 0 := by rcases hv with e | e <;> rw [e] <;> decide
  have v3 : v ≠ 3 := by rcases hv with e | e <;> rw [e] <;> decide
  rw [if_pos hs, r5, if_neg v0] at hf
  have e4 : ∀ L, tU T2 (x + 13 + 3 * p + 1) L (x + 4) = T1 (x + 4) := fun L => by rw [tU_ne _ _ (by omega), fr _ (by omega) (by omega)]
  have A := a.2.1 _ o3
  have hN : ∀ L, ¬ nd S4 (tU T2 (x + 13 + 3 * p + 1) L (x + 1)) := fun L n => by
    rw [tU_ne _ _ (by omega), e1] at n
    exact nd_nil n
  refine ⟨r1, S4, _, r2, ⟨r3, a.2.pc (p0 := p) (fun r hr n => ⟨hp4 r hr n, ?_⟩) ⟨fun z => ?_, fun _ => ?_, ?_⟩ ⟨?_, ?_, ?_, ?_⟩ (fun n => absurd n (hN _)) (fun z => ?_) (fun n => absurd n (hN _))⟩, (f3.1.tr m.2.1.1).tr r4.1⟩
  · rw [tU_ne _ _ (by omega), fr _ (by omega) (by omega)]
  · rw [r5] at z
    exact absurd z v0
  · rw [tU_at, hT2]
    exact Nat.le_refl _
  · rw [r5]
    rcases hv with e | e <;> rw [e]
    · exact Or.inr (Or.inl rfl)
    · exact s2
  · rw [e3, e4]
    exact A.1
  · rw [e3, e4]
    exact A.2.1
  · rw [e3]
    exact A.2.2.1
  · rw [e3]
    exact A.2.2.2 rfl
  · rw [e3] at z
    have := a.2.2.2.2 hn z
    omega
theorem nd_cons (h : nd S1 (T1 (x + 1))) : ∃ q0 l, T1 (x + 1) = q0 :: l := by
  obtain ⟨q, m, _⟩ := h
  cases t : T1 (x + 1) with
  | nil =>
    rw [t] at m
    cases m
  | cons q0 l => exact ⟨q0, l, rfl⟩
theorem y_commit (a : AS x S T col S1 T1 c1) (hn : nd S1 (T1 (x + 1))) : bm x S T col c1 S1 (p_Y7_commit S1 x) (f_Y7_commit S1 x) := by
  have h := a.1
  obtain ⟨p, hp, e, hs⟩ := first_s h.ci.wf h.k1 (a.2.2.1 hn)
  obtain ⟨q0, l, hT⟩ := nd_cons hn
  obtain ⟨p1, S2, T2, f1, f2, f3, f4, f5⟩ := y_lowest noE_n h hT
  have kq := (f2.ci.tf.2 q0 (List.mem_cons_self ..)).1
  obtain ⟨p2, S3, g1, g2, _⟩ := y_keep f2 kq (f2.fc q0 (List.mem_cons_self ..)) 1
  obtain ⟨p3, S4, T4, r1, r2, r3⟩ := put_on a hn hp hs f2 f3 f4 f5 g2 (v := 1) (Or.inl rfl)
  have pf := y_first h.ci.wf h.k1
  have kd := (show pl x (x + 13 + 3 * p) from Or.inr ⟨p, hp, rfl⟩).lt g2.1.ci g2.1.k1
  unfold bm p_Y7_commit f_Y7_commit q_Y7_commit_9a b_Y7_commit_9a q_Y7_commit_23a b_Y7_commit_23a q_Y7_commit_29 b_Y7_commit_29
  rw [e, f1]
  simp only [reduceCtorEq, if_false, Option.getD_some, ir_so]
  rw [g1]
  simp only
  rw [r1]
  exact ⟨⟨pf, p1, kq, p2, kd, p3, trivial⟩, _, S4, T4, rfl, r2, r3⟩
theorem y_postpone (a : AS x S T col S1 T1 c1) (hn : nd S1 (T1 (x + 1))) : bm x S T col c1 S1 (p_Y7_postpone S1 x) (f_Y7_postpone S1 x) := by
  have h := a.1
  obtain ⟨p, hp, e, hs⟩ := first_s h.ci.wf h.k1 (a.2.2.1 hn)
  obtain ⟨q0, l, hT⟩ := nd_cons hn
  obtain ⟨p1, S2, T2, f1, f2, f3, f4, f5⟩ := y_lowest noE_n h hT
  have kq := (f2.ci.tf.2 q0 (List.mem_cons_self ..)).1
  obtain ⟨p2, S3, g1, g2, _⟩ := y_keep f2 kq (f2.fc q0 (List.mem_cons_self ..)) (giC S2 q0 2)
  have kq3 := g2.2.2.1
  have g5 := ((g2.si 3 (giC S2 q0 3) (by omega)).si 4 (giC S2 q0 4) (by omega)).si 10 1 (fun _ => bz1)
  obtain ⟨p3, S4, T4, r1, r2, r3⟩ := put_on a hn hp hs f2 f3 f4 f5 g5 (v := 2) (Or.inr rfl)
  have pf := y_first h.ci.wf h.k1
  have kd := (show pl x (x + 13 + 3 * p) from Or.inr ⟨p, hp, rfl⟩).lt g5.1.ci g5.1.k1
  unfold bm p_Y7_postpone f_Y7_postpone q_Y7_postpone_9a b_Y7_postpone_9a q_Y7_postpone_37a b_Y7_postpone_37a q_Y7_postpone_59 b_Y7_postpone_59
  rw [e, f1]
  simp only [reduceCtorEq, if_false, Option.getD_some, ir_so]
  rw [g1]
  simp only
  rw [r1]
  exact ⟨⟨pf, p1, kq, kq, kq, kq, p2, kq3, ik_si.mpr kq3, ik_si.mpr (ik_si.mpr kq3), kd, p3, trivial⟩, _, S4, T4, rfl, r2, r3⟩
theorem y_table (a : AS x S T col S1 T1 c1) (hn : nd S1 (T1 (x + 1))) : bm x S T col c1 S1 (p_Y7_table S1 x) (f_Y7_table S1 x) := by
  have h := a.1
  have w0 := h.ci.wf.w0 h.k1
  have o3 : pl x (x + 3) := Or.inl rfl
  obtain ⟨p, hp, e, hs⟩ := first_s h.ci.wf h.k1 (a.2.2.1 hn)
  have o : pl x (x + 13 + 3 * p) := Or.inr ⟨p, hp, rfl⟩
  have pf := y_first h.ci.wf h.k1
  obtain ⟨p1, S2, T2, f1, f2, f3, f4, f5⟩ := y_dropA a
  have kd := o.lt f2.1.ci f2.1.k1
  have g := f2.1.sort o 3
  have kd2 := o.lt g.ci g.k1
  have w2 := g.ci.wf.w0 g.k1
  have w5 := g.ci.wf.w5 kd2
  have hT2 : T2 (x + 13 + 3 * p + 1) = [] := by rw [f5 _ (by omega) (by omega)]; exact a.c0 o hs
  have l9 := l1_b f2.1.ci f2.1.k1
  obtain ⟨p2, S3, T3, r1, r2, r3, r4, r5, r6⟩ := y_pour noE_n g (P := x + 1) (Q := x + 13 + 3 * p + 1) (Or.inr (Or.inl rfl)) (by omega) o.o.1 o.o.2.1 (by omega) (by rw [hT2]; simp; exact l9)
  unfold bm p_Y7_table f_Y7_table q_Y7_table_13a b_Y7_table_13a q_Y7_table_33 b_Y7_table_33
  rw [e, w0.2.1.2.1]
  simp only [reduceCtorEq, if_false, Option.getD_some, ir_so]
  rw [f1]
  simp only
  rw [w2.2.1.2.1, w5.2]
  simp only [Option.getD_some, ir_so]
  rw [r1]
  have hs3 : ∀ d, pl x d → giC S3 d 0 = giC (siC S2 (x + 13 + 3 * p) 0 3) d 0 := fun d od => by
    have k := od.lt g.ci g.k1
    exact r3.2.1 d k.1 (by rw [k.2]; decide) 0
  have hs2 : ∀ d, pl x d → d ≠ x + 13 + 3 * p → giC S3 d 0 = giC S1 d 0 := fun d od n => by
    have k := od.lt h.ci h.k1
    rw [hs3 d od, gi_si, if_neg (fun z => n z.1), f3.2.1 d k.1 (by rw [k.2]; decide)]
  have e3 := hs2 _ o3 (by omega)
  have ep : giC S3 (x + 13 + 3 * p) 0 = 3 := by rw [hs3 _ o, gi_si, if_pos ⟨rfl, rfl⟩]
  have hf := fcU_at (S1 := S1) (S2 := S3) (x := x) (p := p) 8 hp (fun r hr n => hs2 _ (Or.inr ⟨r, hr, rfl⟩) (by omega))
  rw [if_pos hs, ep, if_neg (by decide)] at hf
  have e4 : T3 (x + 4) = T1 (x + 4) := by rw [r6 _ (by omega) (by omega), f5 _ (by omega) (by omega)]
  have A := a.2.1 _ o3
  have hN : ¬ nd S3 (T3 (x + 1)) := by rw [r4]; exact nd_nil
  refine ⟨⟨pf, w0.1.2.1, p1, kd, kd2, w2.1.2.1, w5.1, p2, trivial⟩, _, S3, T3, rfl, ⟨r2, a.2.pc (p0 := p) (fun r hr n => ⟨hs2 _ (Or.inr ⟨r, hr, rfl⟩) (by omega), ?_⟩) ⟨fun z => ?_, fun z => ?_, ?_⟩ ⟨?_, ?_, ?_, ?_⟩ (fun n => absurd n hN) (fun z => ?_) (fun n => absurd n hN)⟩, (f3.1.tr (eK.si ..).n).tr r3.1⟩
  · rw [r6 _ (by omega) (by omega), f5 _ (by omega) (by omega)]
  · rw [ep] at z
    exact absurd z (by decide)
  · exact absurd ep z
  · rw [ep]
    exact Or.inr (Or.inr (Or.inr rfl))
  · rw [e3, e4]
    exact A.1
  · rw [e3, e4]
    exact A.2.1
  · rw [e3]
    exact A.2.2.1
  · rw [e3]
    exact A.2.2.2 rfl
  · rw [e3] at z
    have := a.2.2.2.2 hn z
    omega
theorem an_195 (a : AS x S T col S1 T1 c1) (lc ls : Nat) (r : Option Nat) (x2 x3 x4 x5 x6 : Int32) : bm x S T col c1 S1 (q_Y7_announce_195 S1 x lc ls r x2 x3 x4 x5 x6) (b_Y7_announce_195 S1 x r x2 x3 x4 x5 x6) := by
  have u := (QU.rf a.1).hI 6 (-1) (by omega)
  have w0 := a.1.ci.wf.w0 a.1.k1
  unfold bm q_Y7_announce_195 b_Y7_announce_195
  rw [w0.2.1.1, Option.getD_some]
  exact ⟨⟨ir_so.mpr w0.1.1, trivial⟩, _, _, T1, rfl, ⟨u.1, a.2.kp a.1.ci a.1.k1 u.2.1 (fun _ _ _ => rfl)⟩, u.2.2.n⟩
theorem bm.to {p : Prop} {f : Int32 × Cst} (e : eN S1 S2) (h : bm x S T col c1 S2 p f) : bm x S T col c1 S1 p f := by
  obtain ⟨hp, v, S3, T3, a, b, c⟩ := h
  exact ⟨hp, v, S3, T3, a, b, e.tr c⟩
theorem an_181 (a : AS x S T col S1 T1 c1) (lc ls : Nat) (r : Option Nat) (x2 x3 x4 x5 x6 : Int32) : bm x S T col c1 S1 (q_Y7_announce_181a S1 x lc ls r x2 x3 x4 x5 x6) (b_Y7_announce_181a S1 x r x2 x3 x4 x5 x6) := by
  have w0 := a.1.ci.wf.w0 a.1.k1
  unfold q_Y7_announce_181a b_Y7_announce_181a
  by_cases e : x5 = 4
  · simp only [if_pos e]
    rw [w0.2.1.2.1]
    simp only [Option.getD_some, ir_so]
    obtain ⟨p1, S2, T2, f1, f2, f3, _⟩ := y_dropA a
    rw [f1]
    obtain ⟨k1, k2⟩ := (an_195 f2 lc ls r x2 x3 x4 x5 x6).to f3.1
    exact ⟨⟨w0.1.2.1, p1, k1⟩, k2⟩
  · simp only [if_neg e]
    exact an_195 a lc ls r x2 x3 x4 x5 x6
theorem an_173 (a : AS x S T col S1 T1 c1) (lc ls : Nat) (r : Option Nat) (x2 x3 x4 x5 x6 : Int32) : bm x S T col c1 S1 (q_Y7_announce_173 S1 x lc ls r x2 x3 x4 x5 x6) (b_Y7_announce_173 S1 x r x2 x3 x4 x5 x6) := by
  have w0 := a.1.ci.wf.w0 a.1.k1
  unfold q_Y7_announce_173 b_Y7_announce_173
  rw [w0.2.1.2.1]
  simp only [Option.getD_some, ir_so]
  obtain ⟨p1, S2, T2, f1, f2, f3, _⟩ := y_dropA a
  rw [f1]
  obtain ⟨k1, k2⟩ := (an_181 f2 lc ls r x2 x3 x4 x5 x6).to f3.1
  exact ⟨⟨w0.1.2.1, p1, k1⟩, k2⟩
theorem an_163 (a : AS x S T col S1 T1 c1) {q : Nat} (kq : iK S1 q 3) (lc ls : Nat) (x2 x3 x4 x5 x6 : Int32) : bm x S T col c1 S1 (q_Y7_announce_163 S1 x lc ls (some q) x2 x3 x4 x5 x6) (b_Y7_announce_163 S1 x (some q) x2 x3 x4 x5 x6) := by
  unfold q_Y7_announce_163 b_Y7_announce_163
  by_cases e : x6 = 0
  · simp only [if_pos e]
    exact an_173 a lc ls (some q) x2 x3 x4 x5 x6
  · simp only [if_neg e]
    obtain ⟨p, v, S2, f, g⟩ := y_carry a.1 kq
    rw [f]
    obtain ⟨k1, k2⟩ := (an_173 ⟨g.1, a.2.kp a.1.ci a.1.k1 g.2.1 (fun _ _ _ => rfl)⟩ lc ls (some q) x2 x3 x4 x5 x6).to g.2.2.n
    exact ⟨⟨p, k1⟩, k2⟩
theorem an_142 (a : AS x S T col S1 T1 c1) {q : Nat} (mq : q ∈ T1 (x + 1)) (lc ls : Nat) (x2 x3 x4 x5 x6 : Int32) : bm x S T col c1 S1 (q_Y7_announce_142 S1 x lc ls (some q) x2 x3 x4 x5 x6) (b_Y7_announce_142 S1 x (some q) x2 x3 x4 x5 x6) := by
  have kq := (a.1.ci.tk _ _ mq).1
  unfold q_Y7_announce_142 b_Y7_announce_142
  by_cases e : x6 = 0
  · simp only [if_pos e]
    exact an_163 a kq lc ls x2 x3 x4 x5 x6
  · simp only [if_neg e, Option.getD_some, ir_so]
    by_cases d : giC S1 q 2 = 7
    · simp only [if_pos d]
      obtain ⟨p, v, S2, T2, f, g, g2⟩ := y_table a ⟨q, mq, Or.inr (Or.inr d)⟩
      rw [f]
      obtain ⟨k1, k2⟩ := (an_181 g lc ls (some q) x2 x3 x4 x5 x6).to g2
      exact ⟨⟨kq, p, k1⟩, k2⟩
    · simp only [if_neg d]
      obtain ⟨k1, k2⟩ := an_163 a kq lc ls x2 x3 x4 x5 x6
      exact ⟨⟨kq, k1⟩, k2⟩
theorem an_122 (a : AS x S T col S1 T1 c1) {q : Nat} (mq : q ∈ T1 (x + 1)) (lc ls : Nat) (x2 x3 x4 x5 x6 : Int32) : bm x S T col c1 S1 (q_Y7_announce_122 S1 x lc ls (some q) x2 x3 x4 x5 x6) (b_Y7_announce_122 S1 x (some q) x2 x3 x4 x5 x6) := by
  have kq := (a.1.ci.tk _ _ mq).1
  unfold q_Y7_announce_122 b_Y7_announce_122
  by_cases e : x6 = 0
  · simp only [if_pos e]
    exact an_142 a mq lc ls x2 x3 x4 x5 x6
  · simp only [if_neg e, Option.getD_some, ir_so]
    by_cases d : giC S1 q 2 = 5
    · simp only [if_pos d]
      obtain ⟨p, v, S2, T2, f, g, g2⟩ := y_postpone a ⟨q, mq, Or.inr (Or.inl d)⟩
      rw [f]
      obtain ⟨k1, k2⟩ := (an_181 g lc ls (some q) x2 x3 x4 x5 x6).to g2
      exact ⟨⟨kq, p, k1⟩, k2⟩
    · simp only [if_neg d]
      obtain ⟨k1, k2⟩ := an_142 a mq lc ls x2 x3 x4 x5 x6
      exact ⟨⟨kq, k1⟩, k2⟩
theorem an_100 (a : AS x S T col S1 T1 c1) {q : Nat} (mq : q ∈ T1 (x + 1)) (lc ls : Nat) (x2 x3 x4 x5 x6 : Int32) : bm x S T col c1 S1 (q_Y7_announce_100 S1 x lc ls (some q) x2 x3 x4 x5 x6) (b_Y7_announce_100 S1 x (some q) x2 x3 x4 x5 x6) := by
  have kq := (a.1.ci.tk _ _ mq).1
  unfold q_Y7_announce_100 b_Y7_announce_100
  by_cases e : x6 = 0
  · simp only [if_pos e]
    exact an_122 a mq lc ls x2 x3 x4 x5 x6
  · simp only [if_neg e, Option.getD_some, ir_so]
    by_cases d : giC S1 q 2 = 4
    · simp only [if_pos d]
      obtain ⟨p, v, S2, T2, f, g, g2⟩ := y_commit a ⟨q, mq, Or.inl d⟩
      rw [f]
      obtain ⟨k1, k2⟩ := (an_181 g lc ls (some q) x2 x3 x4 x5 x6).to g2
      exact ⟨⟨kq, p, k1⟩, k2⟩
    · simp only [if_neg d]
      obtain ⟨k1, k2⟩ := an_122 a mq lc ls x2 x3 x4 x5 x6
      exact ⟨⟨kq, k1⟩, k2⟩
theorem an_89 (a : AS x S T col S1 T1 c1) {q : Nat} (mq : q ∈ T1 (x + 1)) (lc ls : Nat) (x2 x3 x4 x5 : Int32) : bm x S T col c1 S1 (q_Y7_announce_89a S1 x lc ls (some q) x2 x3 x4 x5) (b_Y7_announce_89a S1 x (some q) x2 x3 x4 x5) := by
  unfold q_Y7_announce_89a b_Y7_announce_89a
  by_cases e : x5 = 1
  · simp only [if_pos e]
    exact an_100 a mq lc ls x2 x3 x4 x5 1
  · simp only [if_neg e]
    exact an_100 a mq lc ls x2 x3 x4 x5 0
theorem an_61 (a : AS x S T col S1 T1 c1) {q : Nat} (mq : q ∈ T1 (x + 1)) (x2 x3 x4 : Int32) : am x S T col S1 (fun lc ls => q_Y7_announce_61 S1 x lc ls (some q) x2 x3 x4) (b_Y7_announce_61 S1 x (some q) x2 x3 x4) := by
  have kq := (a.1.ci.tk _ _ mq).1
  have w0 := a.1.ci.wf.w0 a.1.k1
  have po := y_outcome a.1.ci.wf w0.1.1 (ir_so.mpr kq) x3 x4
  unfold q_Y7_announce_61 b_Y7_announce_61
  rw [w0.2.1.1]
  simp only [Option.getD_some, ir_so]
  obtain ⟨S2, c2, f, p, g⟩ := y_keepRes a.1.ci a.1.k1 (giC S1 q 2) (f_Y7_outcomeOf S1 (x + 37) (some q) x3 x4) x3 x4
  rw [f]
  have B := fun lc ls => an_89 (a.led (Or.inr rfl) g) mq lc ls x2 x3 x4 (f_Y7_outcomeOf S1 (x + 37) (some q) x3 x4)
  obtain ⟨_, v, S3, T3, e1, e2, e3⟩ := B 0 0
  refine ⟨v, S3, T3, c2, e1, fun lc ls A B' => ⟨w0.1.1, po, kq, ⟨⟨g.2.1.1.1, Nat.le_trans e3.1.1 A⟩, g.2.1.1.2, Nat.le_trans e3.1.2 B'⟩, p _ _ (Nat.le_refl _) (Nat.le_refl _), fun z y => by cases y; exact kq.1, (B lc ls).1⟩, e2, g.2.1.tr e3⟩
theorem an_43 (a : AS x S T col S1 T1 c1) {q : Nat} (mq : q ∈ T1 (x + 1)) (x2 x3 : Int32) : am x S T col S1 (fun lc ls => q_Y7_announce_43 S1 x lc ls (some q) x2 x3) (b_Y7_announce_43 S1 x (some q) x2 x3) := by
  have kq := (a.1.ci.tk _ _ mq).1
  have w0 := a.1.ci.wf.w0 a.1.k1
  unfold q_Y7_announce_43 b_Y7_announce_43
  by_cases e : x2 = 0
  · simp only [if_pos e]
    exact an_61 a mq x2 x3 0
  · simp only [if_neg e]
    rw [w0.2.1.1]
    simp only [Option.getD_some, ir_so]
    obtain ⟨v, S3, T3, c3, e1, e2, e3⟩ := an_61 a mq x2 x3 (f_Y2_tally S1 (x + 37) (some q) 0)
    exact ⟨v, S3, T3, c3, e1, fun lc ls A B => ⟨w0.1.1, y_tally a.1.ci.wf w0.1.1 (ir_so.mpr kq) 0, e2 lc ls A B⟩, e3⟩
theorem an_25 (a : AS x S T col S1 T1 c1) {q : Nat} (mq : q ∈ T1 (x + 1)) (x2 : Int32) : am x S T col S1 (fun lc ls => q_Y7_announce_25 S1 x lc ls (some q) x2) (b_Y7_announce_25 S1 x (some q) x2) := by
  have kq := (a.1.ci.tk _ _ mq).1
  have w0 := a.1.ci.wf.w0 a.1.k1
  unfold q_Y7_announce_25 b_Y7_announce_25
  by_cases e : x2 = 0
  · simp only [if_pos e]
    exact an_43 a mq x2 0
  · simp only [if_neg e]
    rw [w0.2.1.1]
    simp only [Option.getD_some, ir_so]
    obtain ⟨v, S3, T3, c3, e1, e2, e3⟩ := an_43 a mq x2 (f_Y2_tally S1 (x + 37) (some q) 1)
    exact ⟨v, S3, T3, c3, e1, fun lc ls A B => ⟨w0.1.1, y_tally a.1.ci.wf w0.1.1 (ir_so.mpr kq) 1, e2 lc ls A B⟩, e3⟩
theorem y_announce (a : AS x S T col S1 T1 c1) {q : Nat} (mq : q ∈ T1 (x + 1)) : am x S T col S1 (fun lc ls => p_Y7_announce S1 x lc ls (some q)) (f_Y7_announce S1 x (some q)) := by
  have kq := (a.1.ci.tk _ _ mq).1
  have w0 := a.1.ci.wf.w0 a.1.k1
  unfold p_Y7_announce f_Y7_announce
  rw [w0.2.1.1]
  simp only [Option.getD_some, ir_so]
  by_cases e : f_Y2_hasQuorum S1 (x + 37) = 0
  · simp only [if_pos e]
    exact ⟨_, S1, T1, c1, rfl, fun _ _ _ _ => ⟨w0.1.1, y_hasQuorum _ _, trivial⟩, a, eN.rf _⟩
  · simp only [if_neg e]
    by_cases d : giC S1 q 4 = -1
    · simp only [if_pos d]
      obtain ⟨v, S3, T3, c3, e1, e2, e3⟩ := an_25 a mq 0
      exact ⟨v, S3, T3, c3, e1, fun lc ls A B => ⟨w0.1.1, y_hasQuorum _ _, kq, e2 lc ls A B⟩, e3⟩
    · simp only [if_neg d]
      obtain ⟨v, S3, T3, c3, e1, e2, e3⟩ := an_25 a mq 1
      exact ⟨v, S3, T3, c3, e1, fun lc ls A B => ⟨w0.1.1, y_hasQuorum _ _, kq, e2 lc ls A B⟩, e3⟩
end
end
