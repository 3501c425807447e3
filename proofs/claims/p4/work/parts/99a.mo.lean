/-! ===== motions: keepTextAs, renew, become; texts: become ===== -/
def dM (q : Nat) : Nat → Prop := fun z => q ≤ z ∧ z ≤ q + 3
section
variable {E E0 : Nat → Prop} {x : Nat} {S S1 : Cst} {T T1 : Nat → List Nat} {F F1 : List Nat} {col c1 : Nat → Nat}
/-- S2 comes of S1 by writing at a motion q of the assembly alone -/
def mU (E : Nat → Prop) (x : Nat) (S : Cst) (T : Nat → List Nat) (F : List Nat) (col : Nat → Nat) (T1 : Nat → List Nat) (F1 : List Nat) (c1 : Nat → Nat) (q : Nat) (S1 S2 : Cst) : Prop := Sst E x S T F col S2 T1 F1 c1 ∧ gX (dM q) S1 S2 ∧ iK S2 q 3 ∧ c1 q = x
theorem mU.rf (h : Sst E x S T F col S1 T1 F1 c1) {q : Nat} (k : iK S1 q 3) (c : c1 q = x) : mU E x S T F col T1 F1 c1 q S1 S1 := ⟨h, (gF.rf S1).x, k, c⟩
theorem mU.si {q : Nat} {S2 : Cst} (h : mU E x S T F col T1 F1 c1 q S1 S2) (b : Nat) (v : Int32) (ok : b = 7 ∨ b = 10 ∨ b = 11 → bZ v) : mU E x S T F col T1 F1 c1 q S1 (siC S2 q b v) := by
  obtain ⟨a, g, k, c⟩ := h
  refine ⟨a.si c (by rw [k.2]; decide) ⟨fun z => by rw [k.2] at z; omega, fun z => by rw [k.2] at z; omega, fun _ z => ok z, fun z => by rw [k.2] at z; omega, fun z => by rw [k.2] at z; omega, fun z => by rw [k.2] at z; omega⟩, g.tr ((gX.si S2 q b v).mo (fun z y => ⟨by omega, by omega⟩)), ik_si.mpr k, c⟩
theorem bz0 : bZ 0 := Or.inl rfl
theorem bz1 : bZ 1 := Or.inr rfl
theorem mU.c {q : Nat} {S2 : Cst} (h : mU E x S T F col T1 F1 c1 q S1 S2) (j : Nat) (hj : j < 4) : c1 (q + j) = x := by rw [h.1.ci.c3 q h.2.2.1 j hj]; exact h.2.2.2
theorem fill_lp {q : Nat} : ∀ (n : Nat) (S2 : Cst) (b : Int32), mU E x S T F col T1 F1 c1 q S1 S2 → 0 ≤ b.toInt → b.toInt ≤ 200 → 200 - b.toInt < n → lq_K7_fill_031fb_5 (q + 3) n S2 0 b (Int32.ofNat 200) ∧ ∃ S3, lp_K7_fill_031fb_5 (q + 3) n S2 0 b (Int32.ofNat 200) = (0, S3) ∧ mU E x S T F col T1 F1 c1 q S1 S3 ∧ gX (fun z => z = q + 3) S2 S3 := by
  have h2 : (Int32.ofNat 200).toInt = 200 := by decide
  intro n
  induction n with
  | zero => intro S2 b h h1 h2 h3; omega
  | succ n ih =>
    intro S2 b h h1 h3 h4
    rw [lq_K7_fill_031fb_5, lp_K7_fill_031fb_5]
    unfold ps_K7_fill_031fb_5 st_K7_fill_031fb_5
    by_cases c : Int32.ofNat 200 ≤ b
    · rw [if_pos c, if_pos c]
      exact ⟨⟨trivial, trivial⟩, S2, rfl, h, (gF.rf S2).x⟩
    · rw [if_neg c, if_neg c]
      have c := mt iLe.mpr c
      have e := iAdd (x := b) (y := 1) (by rw [i1]; omega) (by rw [i1]; omega)
      rw [i1] at e
      have k3 := (h.1.ci.wf.w3 h.2.2.1).1
      have f := h.1.si (a := q + 3) (b := b.toNatClampNeg) (v := vp_nar .byte 0) (h.c 3 (by omega)) (by rw [k3.2.1.2]; decide) ⟨fun z => by rw [k3.2.1.2] at z; omega, fun z => by rw [k3.2.1.2] at z; omega, fun z => by rw [k3.2.1.2] at z; omega, fun z => by rw [k3.2.1.2] at z; omega, fun z => by rw [k3.2.1.2] at z; omega, fun _ => rfl⟩
      obtain ⟨r1, S3, r2, r3, r4⟩ := ih _ (b + 1) ⟨f, h.2.1.tr ((gX.si S2 (q + 3) _ _).mo (fun z y => ⟨by omega, by omega⟩)), ik_si.mpr h.2.2.1, h.2.2.2⟩ (by omega) (by omega) (by omega)
      refine ⟨⟨⟨?_, trivial⟩, r1⟩, S3, r2, r3, (gX.si S2 (q + 3) _ _).tr r4⟩
      rw [k3.2.2]
      exact vIn h1 (by omega)
theorem y_keep (h : Sst E x S T F col S1 T1 F1 c1) {q : Nat} (k : iK S1 q 3) (c : c1 q = x) (v : Int32) : p_Y4_keepTextAs S1 q v ∧ ∃ S2, f_Y4_keepTextAs S1 q v = (0, S2) ∧ mU E x S T F col T1 F1 c1 q S1 S2 ∧ giC S2 q 2 = v := by
  have u := (((((((((((((mU.rf h k c).si 0 0 (by omega)).si 1 0 (by omega)).si 2 v (by omega)).si 3 (-1) (by omega)).si 4 (-1) (by omega)).si 5 0 (by omega)).si 6 0 (by omega)).si 7 0 (fun _ => bz0)).si 8 0 (by omega)).si 9 0 (by omega)).si 10 0 (fun _ => bz0)).si 11 0 (fun _ => bz0))
  unfold p_Y4_keepTextAs f_Y4_keepTextAs
  have hv : giC (siC (siC (siC (siC (siC (siC (siC (siC (siC (siC (siC (siC S1 q 0 0) q 1 0) q 2 v) q 3 (-1)) q 4 (-1)) q 5 0) q 6 0) q 7 0) q 8 0) q 9 0) q 10 0) q 11 0) q 2 = v := by
    simp only [gi_si]
    simp
  generalize siC (siC (siC (siC (siC (siC (siC (siC (siC (siC (siC (siC S1 q 0 0) q 1 0) q 2 v) q 3 (-1)) q 4 (-1)) q 5 0) q 6 0) q 7 0) q 8 0) q 9 0) q 10 0) q 11 0 = S2 at u hv ⊢
  unfold b_Y4_keepTextAs_60a q_Y4_keepTextAs_60a
  by_cases z : giC S2 q 14 ≤ 0
  · rw [if_pos z, if_pos z]
    exact ⟨trivial, S2, rfl, u, hv⟩
  · rw [if_neg z, if_neg z]
    have w3 := u.1.ci.wf.w3 u.2.2.1
    obtain ⟨r1, S3, r2, r3, r4⟩ := fill_lp 100000 S2 0 u (by rw [i0]; omega) (by rw [i0]; omega) (by rw [i0]; omega)
    unfold p_K7_fill_031fb f_K7_fill_031fb
    rw [w3.2.1.2, Option.getD_some, w3.1.2.2, r2]
    refine ⟨⟨ir_so.mpr w3.1.2.1, r1, trivial⟩, siC S3 q 14 0, rfl, r3.si 14 0 (by omega), ?_⟩
    rw [gi_si, if_neg (by omega), r4.2.1 q u.2.2.1.1 (by rw [u.2.2.1.2]; decide) (by omega)]
    exact hv
theorem y_renew (h : Sst E x S T F col S1 T1 F1 c1) {q : Nat} (k : iK S1 q 3) (c : c1 q = x) (v : Int32) : p_Y4_renew S1 q v ∧ ∃ S2, f_Y4_renew S1 q v = (0, S2) ∧ mU E x S T F col T1 F1 c1 q S1 S2 ∧ giC S2 q 2 = v := by
  obtain ⟨p1, S2, f1, f2, f3⟩ := y_keep h k c v
  have w3 := f2.1.ci.wf.w3 f2.2.2.1
  unfold p_Y4_renew f_Y4_renew b_Y4_renew_5a q_Y4_renew_5a
  rw [f1, w3.2.1.1]
  have k1 := w3.1.1.2
  refine ⟨⟨p1, ir_so.mpr w3.1.1, trivial⟩, siC S2 (q + 1) 1 0, rfl, ⟨f2.1.si (f2.c 1 (by omega)) (by rw [k1]; decide) ⟨fun z => by rw [k1] at z; omega, fun z => by rw [k1] at z; omega, fun z => by rw [k1] at z; omega, fun z => by rw [k1] at z; omega, fun _ _ => ⟨by rw [i0]; omega, by rw [i0]; omega⟩, fun z => by rw [k1] at z; omega⟩, f2.2.1.tr ((gX.si S2 (q + 1) _ _).mo (fun z y => ⟨by omega, by omega⟩)), ik_si.mpr f2.2.2.1, f2.2.2.2⟩, ?_⟩
  rw [gi_si, if_neg (by omega)]
  exact f3
/-- a text becomes another one -/
theorem y_tBecome (h : Sst E x S T F col S1 T1 F1 c1) {t u : Nat} (k : iK S1 t 6) (c : c1 t = x) (c' : c1 (t + 1) = x) (ku : iK S1 u 6) : p_Y9_become S1 t u ∧ ∃ S2, f_Y9_become S1 t u = (0, S2) ∧ Sst E x S T F col S2 T1 F1 c1 ∧ gX (fun z => z = t ∨ z = t + 1) S1 S2 ∧ eK S1 S2 ∧ giC S2 t 1 = giC S1 u 1 ∧ ∀ i : Nat, (i : Int) < (giC S1 u 1).toInt → giC S2 (t + 1) i = giC S1 (u + 1) i := by
  have w := h.ci.wf.w6 k
  have wu := h.ci.wf.w6 ku
  have h4 : (Int32.ofNat 400).toInt = 400 := by decide
  unfold W6 rg at w wu
  have e1 : (if (Int32.ofNat 400) < (giC S1 u 1) then (Int32.ofNat 400) else (giC S1 u 1)) = giC S1 u 1 := by
    split
    · next z =>
      have := iLt.mp z
      omega
    · rfl
  have e2 : (if (0 : Int32) < giC S1 u 1 then giC S1 u 1 else 0) = giC S1 u 1 := by
    split
    · rfl
    · next z =>
      have z := mt iLt.mpr z
      rw [i0] at z
      refine iEq.mpr ?_
      rw [i0]
      omega
  unfold p_Y9_become f_Y9_become
  rw [w.2.1, Option.getD_some, w.1.2, e1, e2]
  unfold b_Y9_become_20a q_Y9_become_20a
  have a1 : grC (siC S1 t 1 (giC S1 u 1)) t 0 = some (t + 1) := by rw [gr_si]; exact w.2.1
  have a2 : grC (siC S1 t 1 (giC S1 u 1)) u 0 = some (u + 1) := by rw [gr_si]; exact wu.2.1
  have a3 : giC (siC S1 t 1 (giC S1 u 1)) t 1 = giC S1 u 1 := by rw [gi_si, if_pos ⟨rfl, rfl⟩]
  have a4 : lnC (siC S1 t 1 (giC S1 u 1)) (t + 1) = 400 := by rw [ln_si]; exact w.1.2
  have a5 : lnC (siC S1 t 1 (giC S1 u 1)) (u + 1) = 400 := by rw [ln_si]; exact wu.1.2
  rw [a1, a2, a3, Option.getD_some, Option.getD_some, a4, a5]
  have hn := iNat (x := giC S1 u 1) (by omega)
  have z0 : (0 : Int32).toNatClampNeg = 0 := rfl
  have f := h.si (a := t) (b := 1) (v := giC S1 u 1) c (by rw [k.2]; decide) ⟨fun z => by rw [k.2] at z; omega, fun z => by rw [k.2] at z; omega, fun z => by rw [k.2] at z; omega, fun z => by rw [k.2] at z; omega, fun _ _ => wu.2.2, fun z => by rw [k.2] at z; omega⟩
  refine ⟨⟨ir_so.mpr w.1.1, ir_so.mpr (ik_si.mpr wu.1.1), ir_so.mpr (ik_si.mpr w.1.1), ⟨⟨by decide, by decide, fun z => ?_⟩, by rw [z0]; omega, by rw [z0]; omega⟩, trivial⟩, _, rfl, f.sf c' (Or.inl (by rw [kd_si]; exact w.1.1.2)), ?_, (eK.si S1 t 1 _).tr (eK.sf ..), ?_, fun i hi => ?_⟩
  · have := iLt.mp z
    rw [i0] at this
    omega
  · refine ⟨(eK.si S1 t 1 _).n.tr (eK.sf ..).n, fun q _ _ n j => ?_, fun l _ _ => by rw [gr_sf, gr_si]⟩
    rw [gi_sf, if_neg (fun z => n (Or.inr z)), gi_si, if_neg (fun z => n (Or.inl z.1))]
  · rw [gi_sf, if_neg (by omega), gi_si, if_pos ⟨rfl, rfl⟩]
  · rw [gi_sf, if_pos rfl]
    have nu : u + 1 ≠ t := fun z => by have := wu.1.1.2; rw [z, k.2] at this; omega
    rw [z0, pk_cpy_in (Nat.zero_le i) (by omega), Nat.zero_add, Nat.sub_zero, gi_si, if_neg (fun z => nu z.1)]
theorem bz_nf {v : Int32} (h : bZ v) : narrow .boolean (.int v) = .int v ∧ fits .boolean (.int v) = true := by
  rcases h with h | h <;> rw [h] <;> exact ⟨rfl, rfl⟩
/-- a motion becomes another one (of any assembly) -/
theorem mb_133 {q z : Nat} {S2 : Cst} (u : mU E x S T F col T1 F1 c1 q S1 S2) : q_Y4_become_133a S2 q (some z) ∧ ∃ S3, b_Y4_become_133a S2 q (some z) = (0, S3) ∧ mU E x S T F col T1 F1 c1 q S1 S3 ∧ giC S3 q 2 = giC S2 q 2 := ⟨trivial, S2, rfl, u, rfl⟩
theorem mb_k {q : Nat} {f : Int32 × Cst} {Q : Cst → Prop} {a b : Int32} (h : ∃ S3, f = (0, S3) ∧ Q S3 ∧ giC S3 q 2 = a) (e : a = b) : ∃ S3, f = (0, S3) ∧ Q S3 ∧ giC S3 q 2 = b := by
  obtain ⟨S3, g, k, m⟩ := h
  exact ⟨S3, g, k, m.trans e⟩
theorem mb_107 {q z : Nat} {S2 : Cst} (u : mU E x S T F col T1 F1 c1 q S1 S2) (kz : iK S2 z 3) : q_Y4_become_107a S2 q (some z) ∧ ∃ S3, b_Y4_become_107a S2 q (some z) = (0, S3) ∧ mU E x S T F col T1 F1 c1 q S1 S3 ∧ giC S3 q 2 = giC S2 q 2 := by
  have w := u.1.ci.wf.w3 u.2.2.1
  have wz := u.1.ci.wf.w3 kz
  have wb := u.1.ci.wf.w22 wz.1.2.1
  have wq := u.1.ci.wf.w22 w.1.2.1
  have z0 : (0 : Int32).toNatClampNeg = 0 := rfl
  have h2 : (Int32.ofNat 200).toNatClampNeg = 200 := by decide
  unfold b_Y4_become_107a q_Y4_become_107a
  rw [w.2.1.2, Option.getD_some, Option.getD_some, wz.2.1.2, Option.getD_some, w.1.2.2, wz.1.2.2, h2, z0]
  have fa : ∀ i, fits .byte (.int (va_cpy (giC S2 (z + 3)) (giC S2 (q + 3)) 0 0 200 i)) = true := fun i => by
    by_cases g : i < 200
    · rw [pk_cpy_in (Nat.zero_le i) (by omega)]
      exact wb _
    · rw [pk_cpy_out (Or.inr (by omega))]
      exact wq _
  have f := u.1.sf (a := q + 3) (f := va_cpy (giC S2 (z + 3)) (giC S2 (q + 3)) 0 0 200) (u.c 3 (by omega)) (Or.inr (Or.inr ⟨w.1.2.1.2, fa⟩))
  have u2 : mU E x S T F col T1 F1 c1 q S1 (sfC S2 (q + 3) (va_cpy (giC S2 (z + 3)) (giC S2 (q + 3)) 0 0 200)) := ⟨f, u.2.1.tr ⟨(eK.sf ..).n, fun a _ _ n j => by
    rw [gi_sf, if_neg (fun y => n ⟨by omega, by omega⟩)], fun l _ _ => gr_sf ..⟩, ik_sf.mpr u.2.2.1, u.2.2.2⟩
  have B := fun v => mb_133 (z := z) (u2.si 14 v (by omega))
  exact ⟨⟨ir_so.mpr kz, ir_so.mpr w.1.2.1, ir_so.mpr wz.1.2.1, ir_so.mpr w.1.2.1, ⟨⟨by decide, by decide, by decide⟩, by omega, by omega⟩, fun i _ => wb _, ir_so.mpr (ik_sf.mpr kz), (B _).1⟩, mb_k (B _).2 (by rw [gi_si, if_neg (by omega), gi_sf, if_neg (by omega)])⟩
theorem mb_96 {q z : Nat} {S2 : Cst} (u : mU E x S T F col T1 F1 c1 q S1 S2) (kz : iK S2 z 3) : q_Y4_become_96a S2 q (some z) ∧ ∃ S3, b_Y4_become_96a S2 q (some z) = (0, S3) ∧ mU E x S T F col T1 F1 c1 q S1 S3 ∧ giC S3 q 2 = giC S2 q 2 := by
  have w := u.1.ci.wf.w3 u.2.2.1
  have wz := u.1.ci.wf.w3 kz
  unfold b_Y4_become_96a q_Y4_become_96a
  rw [w.2.1.1, Option.getD_some, Option.getD_some, wz.2.1.1, Option.getD_some]
  obtain ⟨p1, S3, f1, f2, f3, _⟩ := y_tBecome u.1 w.1.1 (u.c 1 (by omega)) (u.c 2 (by omega)) wz.1.1
  have ek : giC S3 q 2 = giC S2 q 2 := f3.2.1 q u.2.2.1.1 (by rw [u.2.2.1.2]; decide) (by omega) 2
  rw [f1]
  have u3 : mU E x S T F col T1 F1 c1 q S1 S3 := ⟨f2, u.2.1.tr (f3.mo (fun y n => ⟨by omega, by omega⟩)), u.2.2.1.n f3.1, u.2.2.2⟩
  have B := mb_107 u3 (kz.n f3.1)
  exact ⟨⟨ir_so.mpr kz, ir_so.mpr w.1.1, ir_so.mpr wz.1.1, p1, B.1⟩, mb_k B.2 ek⟩
theorem mb_64 {q z : Nat} {S2 : Cst} (u : mU E x S T F col T1 F1 c1 q S1 S2) (kz : iK S2 z 3) : q_Y4_become_64a S2 q (some z) ∧ ∃ S3, b_Y4_become_64a S2 q (some z) = (0, S3) ∧ mU E x S T F col T1 F1 c1 q S1 S3 ∧ giC S3 q 2 = giC S2 q 2 := by
  have k1 : ∀ {S3 : Cst} {b : Nat} {v : Int32}, iK S3 z 3 → iK (siC S3 q b v) z 3 := fun y => ik_si.mpr y
  have A2 := fun v8 v9 => (((u.si 8 v8 (by omega)).si 9 v9 (by omega)).1.ci.wf.w3 (k1 (k1 kz))).2.2.1.2.1
  have A3 := fun v8 v9 v10 b10 => ((((u.si 8 v8 (by omega)).si 9 v9 (by omega)).si 10 v10 (fun _ => b10)).1.ci.wf.w3 (k1 (k1 (k1 kz)))).2.2.1.2.2
  have B := fun v8 v9 v10 v11 b10 b11 => mb_96 (z := z) ((((u.si 8 v8 (by omega)).si 9 v9 (by omega)).si 10 v10 (fun _ => b10)).si 11 v11 (fun _ => b11)) (k1 (k1 (k1 (k1 kz))))
  unfold b_Y4_become_64a q_Y4_become_64a
  rw [Option.getD_some]
  exact ⟨⟨ir_so.mpr kz, ir_so.mpr (k1 kz), ir_so.mpr (k1 (k1 kz)), bz_nf (A2 _ _), ir_so.mpr (k1 (k1 (k1 kz))), bz_nf (A3 _ _ _ (A2 _ _)), (B _ _ _ _ (A2 _ _) (A3 _ _ _ (A2 _ _))).1⟩, mb_k (B _ _ _ _ (A2 _ _) (A3 _ _ _ (A2 _ _))).2 (by simp [gi_si])⟩
theorem mb_32 {q z : Nat} {S2 : Cst} (u : mU E x S T F col T1 F1 c1 q S1 S2) (kz : iK S2 z 3) : q_Y4_become_32a S2 q (some z) ∧ ∃ S3, b_Y4_become_32a S2 q (some z) = (0, S3) ∧ mU E x S T F col T1 F1 c1 q S1 S3 ∧ giC S3 q 2 = giC S2 q 2 := by
  have k1 : ∀ {S3 : Cst} {b : Nat} {v : Int32}, iK S3 z 3 → iK (siC S3 q b v) z 3 := fun y => ik_si.mpr y
  have A := fun v4 v5 v6 => ((((u.si 4 v4 (by omega)).si 5 v5 (by omega)).si 6 v6 (by omega)).1.ci.wf.w3 (k1 (k1 (k1 kz)))).2.2.1.1
  have B := fun v4 v5 v6 v7 b7 => mb_64 (z := z) ((((u.si 4 v4 (by omega)).si 5 v5 (by omega)).si 6 v6 (by omega)).si 7 v7 (fun _ => b7)) (k1 (k1 (k1 (k1 kz))))
  unfold b_Y4_become_32a q_Y4_become_32a
  rw [Option.getD_some]
  exact ⟨⟨ir_so.mpr kz, ir_so.mpr (k1 kz), ir_so.mpr (k1 (k1 kz)), ir_so.mpr (k1 (k1 (k1 kz))), bz_nf (A _ _ _), (B _ _ _ _ (A _ _ _)).1⟩, mb_k (B _ _ _ _ (A _ _ _)).2 (by simp [gi_si])⟩
theorem y_mBecome (h : Sst E x S T F col S1 T1 F1 c1) {q z : Nat} (k : iK S1 q 3) (c : c1 q = x) (kz : iK S1 z 3) : p_Y4_become S1 q (some z) ∧ ∃ S2, f_Y4_become S1 q (some z) = (0, S2) ∧ mU E x S T F col T1 F1 c1 q S1 S2 ∧ giC S2 q 2 = giC S1 z 2 := by
  have k1 : ∀ {S3 : Cst} {b : Nat} {v : Int32}, iK S3 z 3 → iK (siC S3 q b v) z 3 := fun y => ik_si.mpr y
  have B := fun v0 v1 v2 v3 => mb_32 (z := z) (((((mU.rf h k c).si 0 v0 (by omega)).si 1 v1 (by omega)).si 2 v2 (by omega)).si 3 v3 (by omega)) (k1 (k1 (k1 (k1 kz))))
  unfold p_Y4_become f_Y4_become
  rw [Option.getD_some]
  refine ⟨⟨ir_so.mpr kz, ir_so.mpr (k1 kz), ir_so.mpr (k1 (k1 kz)), ir_so.mpr (k1 (k1 (k1 kz))), (B _ _ _ _).1⟩, mb_k (B _ _ _ _).2 ?_⟩
  simp [gi_si]
end
