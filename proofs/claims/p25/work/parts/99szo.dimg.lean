section
/-! ===== image ===== -/
section
variable {wF : Prop × (Nat → Int32) × Int32 × (Nat → Int32)} {x y a b c l : Nat} {r2 r3 ro : Option Nat} {ko : Nat} {A : List Nat} {S S1 S2 S3 S4 Sk : Cst} {T T1 T2 T3 Tk : Nat → List Nat} {col c1 c2 c3 ck : Nat → Nat} {H H2 G R O : HS} {M M2 : MS} {v : Int32} {P z : Nat → Int32}
theorem IM.cp {k : Nat} {r : Option Nat} (im : IM S T r k O) (e2 : R.2 2 k = O.2 2 k) (e3 : R.2 3 k = O.2 3 k) (e4 : ∀ i, i < 3600 → R.2 4 (3600 * k + i) = O.2 4 (3600 * k + i)) : IM S T r k R := by
  refine ⟨fun e => e3.trans (im.1 e), fun c e => ?_⟩
  obtain ⟨p1, p2, p3, z, p4⟩ := im.2 c e
  have h6 := p4.1.2.1
  rw [e3, e2]
  exact ⟨p1, p2, p3, z, p4.cg (fun i hi => e4 i (by omega))⟩
theorem TE.cp (t : TE S l O) (e1 : R.1 = O.1) (e5 : R.2 5 = O.2 5) : TE S l R := by
  unfold TE at t ⊢
  rw [e1, e5]
  exact t
theorem img_f (h : KG 82 a b r2 r3 l A S T col) (ma : a ∈ A) (mb : b ∈ A) (mc : c ∈ A) (nca : c ≠ a) (ncb : c ≠ b) (mo : ∀ d, ro = some d → d ∈ A ∧ d ≠ c) (jc : jS S c) (cg : CG S T a b l M ro ko) (hb : HB G) {f : Nat} (hf : f = 2 ∨ f = 3) : ∃ S2 T2 c2, f_Y0_become S c a = (0, S2) ∧ KG 82 a b (if f = 2 then some c else r2) (if f = 3 then some c else r3) l A (srC S2 82 f (some c)) T2 c2 ∧ CG (srC S2 82 f (some c)) T2 a b l M ro ko ∧ jS (srC S2 82 f (some c)) c ∧ ∃ z, JX (srC S2 82 f (some c)) T2 c (M.2.1.1 0) (M.2.1.1 7).toNatClampNeg (M.2.1.2 40) z := by
  obtain ⟨z, q1, q2⟩ := cg.1
  have hc := h.2.2.2.2.1 c mc
  have hA := h.2.2.2.2.1 a ma
  obtain ⟨S2, T2, c2, f1, as, j2, -⟩ := JX.bec (h.as mc).1 hA.1 (fun e => nca e.symm) hA.2.1 q1.sv jc hb q2
  have k2 := h.step mc as.1 as.2
  have r2' := (j2.2.2 G hb).2
  have sv2 : sV S2 := r2'.sv
  have no : ∀ d, (d = a ∨ d = b ∨ ro = some d) → d ≠ c := fun d hd => by
    rcases hd with e | e | e
    · rw [e]
      exact fun y => nca y.symm
    · rw [e]
      exact fun y => ncb y.symm
    · exact (mo d e).2
  have g := as.1
  have zl := (h.ci.wf.w2 h.kl).2.1.2
  have cg2 : CG S2 T2 a b l M ro ko := cg.og h ma mb (fun d e => (mo d e).1) g.en g.ci.wf (fun d hd q a w => g.fr q a (by rw [w]; exact no d hd)) (fun d hd q a w => g.ft q a (by rw [w]; exact no d hd)) (g.fr l h.kl.1 hc.2.2.2.2) (g.fr _ zl.1 (by rw [h.ci.c2 l h.kl]; exact hc.2.2.2.2)) sv2
  have k4 := k2.set (c := c) (f := f) hf mc
  have en : eN S2 (srC S2 82 f (some c)) := (eK.sr ..).n
  have nz : ∀ d, d ∈ A → ∀ q, q < S2.1 → c2 q = d → (srC S2 82 f (some c)).2.2 q = S2.2.2 q := fun d md q _ e => ce_sr _ _ (fun y => (k2.2.2.2.2.1 d md).2.2.2.1 (by rw [← y]; exact e))
  have mm : ∀ d, (d = a ∨ d = b ∨ ro = some d) → d ∈ A := fun d hd => by
    rcases hd with e | e | e
    · rw [e]
      exact ma
    · rw [e]
      exact mb
    · exact (mo d e).1
  have sv4 : sV (srC S2 82 f (some c)) := fun q k => by
    rw [vCn_cg (S2 := srC S2 82 f (some c)) (S1 := S2) (fun k => gi_sr ..), gi_sr]
    exact sv2 q (ik_sr.mp k)
  have zl2 := (k2.ci.wf.w2 k2.kl).2.1.2
  refine ⟨S2, T2, c2, f1, k4, cg2.og k2 ma mb (fun d e => (mo d e).1) en k4.ci.wf (fun d hd => nz d (mm d hd)) (fun _ _ _ _ _ => rfl) (ce_sr _ _ (ik_ne k2.kl k2.km (by decide))) (ce_sr _ _ (ik_ne zl2 k2.km (by decide))) sv4, r2'.jS.og k2.ci (k2.2.2.2.2.1 c mc).1 en (nz c mc), z, j2.og k2.ci (k2.2.2.2.2.1 c mc).1 en k4.ci.wf (nz c mc) (fun _ _ _ => rfl) sv4⟩
theorem img_n (h : KJ 82 a b r2 r3 l S T col) {r : Option Nat} (hr : ∀ c, r = some c → c ∈ kA a b r2 r3 ∧ c ≠ a ∧ c ≠ b ∧ jS S c ∧ ro ≠ some c) (mo : ∀ d, ro = some d → d ∈ kA a b r2 r3) (cg : CG S T a b l M ro ko) (hb : HB G) {f : Nat} (hf : f = 2 ∨ f = 3) : ∃ c S2 T2 c2, f_Y10_imageOfNow S 82 r = (some c, S2) ∧ CI noE (srC S2 82 f (some c)) T2 [] c2 ∧ (grC (srC S2 82 f (some c)) 82 0 = some a ∧ grC (srC S2 82 f (some c)) 82 1 = some b ∧ grC (srC S2 82 f (some c)) 82 2 = (if f = 2 then some c else r2) ∧ grC (srC S2 82 f (some c)) 82 3 = (if f = 3 then some c else r3) ∧ grC (srC S2 82 f (some c)) 82 4 = some l) ∧ grC (srC S2 82 f (some c)) a 4 = some (a + 7) ∧ CG (srC S2 82 f (some c)) T2 a b l M ro ko ∧ jS (srC S2 82 f (some c)) c ∧ ∃ z, JX (srC S2 82 f (some c)) T2 c (M.2.1.1 0) (M.2.1.1 7).toNatClampNeg (M.2.1.2 40) z := by
  unfold f_Y10_imageOfNow
  cases r with
  | none =>
    have h1 := h.mk
    have ma := List.mem_cons_of_mem S.1 (KJ.ma h)
    have lt : ∀ d, d ∈ kA a b r2 r3 → d ≠ S.1 := fun d m e => by
      have := (h.2.2.2.2.1 d m).1.1
      omega
    have sv := (cg.1.choose_spec.1).sv
    have zl := (h.ci.wf.w2 h.kl).2.1.2
    have cg1 : CG (mkX0 S) T a b l M ro ko := cg.og h (KJ.ma h) (KJ.mb h) mo (eN.pu S _ _) h1.ci.wf (fun _ _ q a _ => puC_old a) (fun _ _ _ _ _ => rfl) (puC_old h.kl.1) (puC_old zl.1) (sV_mk h.ci sv)
    obtain ⟨S2, T2, c2, f1, k4, cg2, j2, z, x2⟩ := img_f h1 ma (List.mem_cons_of_mem _ (KJ.mb h)) (List.mem_cons_self ..) (fun e => lt a (KJ.ma h) e.symm) (fun e => lt b (KJ.mb h) e.symm) (fun d e => ⟨List.mem_cons_of_mem _ (mo d e), lt d (mo d e)⟩) (jS_mk h.ci) cg1 hb hf
    have g0 : grC (mkX0 S) 82 0 = some a := h1.2.2.1.1
    have ka := (k4.2.2.2.2.1 a ma).1
    refine ⟨S.1, S2, T2, c2, ?_, k4.ci, k4.2.2.1, (k4.ci.wf.w0 ka).2.1.2.2.2.2.1, cg2, j2, z, x2⟩
    rw [if_pos rfl]
    unfold b_Y10_imageOfNow_11a b_Y10_imageOfNow_15 b_Y10_imageOfNow_24a
    rw [g0, Option.getD_some, Option.getD_some, f1]
  | some c =>
    obtain ⟨mc, n1, n2, jc, n3⟩ := hr c rfl
    obtain ⟨S2, T2, c2, f1, k4, cg2, j2, z, x2⟩ := img_f h (KJ.ma h) (KJ.mb h) mc n1 n2 (fun d e => ⟨mo d e, fun y => n3 (by rw [← y]; exact e)⟩) jc cg hb hf
    have ka := (k4.2.2.2.2.1 a (KJ.ma h)).1
    refine ⟨c, S2, T2, c2, ?_, k4.ci, k4.2.2.1, (k4.ci.wf.w0 ka).2.1.2.2.2.2.1, cg2, j2, z, x2⟩
    rw [if_neg (by simp)]
    unfold b_Y10_imageOfNow_15 b_Y10_imageOfNow_24a
    rw [h.g0, Option.getD_some, Option.getD_some, f1]
end
end
section
/-! ===== image, both sides ===== -/
section
variable {a b c l : Nat} {r2 r3 ro : Option Nat} {S S1 S2 S3 S4 : Cst} {T T1 T2 T3 : Nat → List Nat} {col c1 c2 c3 : Nat → Nat} {H G R O : HS} {M M2 : MS} {v : Int32}
/-- the reference's state with an image more -/
theorem img_r (mi : MI M) (k : Int32) (hk : 0 ≤ k.toInt ∧ k.toInt ≤ 1) : ∃ R, f_X12_image M k = (M.2.1.1 7, mO M R) ∧ R.1 = M.1.1 ∧ R.2 5 = M.1.2 5 ∧ (R.2 2 k.toNatClampNeg = M.2.1.1 0 ∧ R.2 3 k.toNatClampNeg = M.2.1.1 7 ∧ ∀ i, i < 6 * (M.2.1.1 7).toNatClampNeg → R.2 4 (3600 * k.toNatClampNeg + i) = M.2.1.2 40 i) ∧ ∀ j : Nat, j < 2 → j ≠ k.toNatClampNeg → R.2 2 j = M.1.2 2 j ∧ R.2 3 j = M.1.2 3 j ∧ ∀ i, i < 3600 → R.2 4 (3600 * j + i) = M.1.2 4 (3600 * j + i) := by
  have h7 := mi.1.2.1
  have kx := iNat hk.1
  have ke := iNat h7.1
  obtain ⟨R, f1, f2, f3, f4⟩ := im_l M k hk h7 100000 0 (sA (sA M.1 2 k.toNatClampNeg (M.2.1.1 0)) 3 k.toNatClampNeg (M.2.1.1 7)) (by rw [i0]; omega) (by rw [i0]; omega) (by rw [i0]; omega)
  have z : ¬ f_X12_in k 0 1 = 0 := by
    rw [in_f, i0, i1, if_pos hk]
    decide
  have o2 : ∀ i, (sA (sA M.1 2 k.toNatClampNeg (M.2.1.1 0)) 3 k.toNatClampNeg (M.2.1.1 7)).2 2 i = if i = k.toNatClampNeg then M.2.1.1 0 else M.1.2 2 i := fun _ => rfl
  have o3 : ∀ i, (sA (sA M.1 2 k.toNatClampNeg (M.2.1.1 0)) 3 k.toNatClampNeg (M.2.1.1 7)).2 3 i = if i = k.toNatClampNeg then M.2.1.1 7 else M.1.2 3 i := fun _ => rfl
  have o4 : ∀ i, (sA (sA M.1 2 k.toNatClampNeg (M.2.1.1 0)) 3 k.toNatClampNeg (M.2.1.1 7)).2 4 i = M.1.2 4 i := fun _ => rfl
  refine ⟨R, ?_, f2, f3 5 (by omega), ⟨?_, ?_, fun i hi => ?_⟩, fun j hj nj => ⟨?_, ?_, fun i hi => ?_⟩⟩
  · unfold f_X12_image
    rw [if_neg z]
    exact f1
  · rw [f3 2 (by omega), o2, if_pos rfl]
  · rw [f3 3 (by omega), o3, if_pos rfl]
  · rw [f4, zn0, if_pos (by omega), Nat.add_sub_cancel_left]
  · rw [f3 2 (by omega), o2, if_neg nj]
  · rw [f3 3 (by omega), o3, if_neg nj]
  · rw [f4, zn0, if_neg (by omega), o4]
theorem ac_image (q : RQ S M) (mi : MI M) (k : Int32) (e : f_Y10_image S 82 k = (v, S2)) : v = (f_X12_image M k).1 ∧ RQ S2 (f_X12_image M k).2 := by
  obtain ⟨a, b, r2, r3, l, T, col, h, c⟩ := id q
  obtain ⟨p0, p3, ⟨p4, p5⟩, p6⟩ := c
  have hb := mi.1.hb
  have hn := h.2.2.2.1
  obtain ⟨v', S2', e', -, ki, -⟩ := k_image ⟨a, b, r2, r3, l, T, col, h⟩ k
  obtain ⟨-, rfl⟩ := Prod.mk.inj (e.symm.trans e')
  have h7 := mi.1.2.1
  have m7 : M.2.1.1 7 ≠ -1 := fun y => by
    have t : (-1 : Int32).toInt = -1 := by decide
    rw [y, t] at h7
    omega
  unfold f_Y10_image at e
  rw [h.2.2.1.2.2.1, h.2.2.1.2.2.2.1] at e
  have kb : b ≠ a := fun e => KJ.nab h e.symm
  have mkI : ∀ {S4 : Cst} {T4 : Nat → List Nat} {c : Nat} {K : Nat} {R : HS} {z : Nat → Int32}, R.2 2 K = M.2.1.1 0 → R.2 3 K = M.2.1.1 7 → (∀ i, i < 6 * (M.2.1.1 7).toNatClampNeg → R.2 4 (3600 * K + i) = M.2.1.2 40 i) → jS S4 c → JX S4 T4 c (M.2.1.1 0) (M.2.1.1 7).toNatClampNeg (M.2.1.2 40) z → IM S4 T4 (some c) K R := by
    intro S4 T4 c K R z e2 e3 e4 j x
    refine ⟨fun y => absurd y (by simp), fun d ed => ?_⟩
    cases ed
    rw [e3, e2]
    exact ⟨m7, h7.1, j, z, x.cg e4⟩
  by_cases y : k = 0
  · rw [if_pos y] at e
    have k0 : k.toNatClampNeg = 0 := by rw [y]; exact zn0
    obtain ⟨R, fR, e1, e5, ⟨e2, e3, e4⟩, eo⟩ := img_r mi k (by rw [y, i0]; omega)
    rw [k0] at e2 e3 e4 eo
    obtain ⟨o2, o3, o4⟩ := eo 1 (by omega) (by omega)
    obtain ⟨c, S3, T3, c3, f, ci, ⟨g0, g1, g2, g3, g4⟩, ga, ⟨cg1, cg2, cg3, cg4⟩, j, z, x⟩ := img_n (r := r2) (ro := r3) (ko := 1) (M := M) (f := 2) h (fun d ed => by
      subst ed
      refine ⟨KJ.m2 h, (KJ.n2 h).1, (KJ.n2 h).2, (p4.2 d rfl).2.2.1, fun w => ?_⟩
      subst w
      unfold kA at hn
      simp at hn) (fun d ed => by subst ed; exact KJ.m3 h) ⟨p0, p3, p5, p6⟩ hb (Or.inl rfl)
    rw [f] at e
    unfold b_Y10_image_13a b_Y10_image_42 at e
    simp only at e
    rw [g0, Option.getD_some, ga, Option.getD_some] at e
    obtain ⟨ev, rfl⟩ := Prod.mk.inj e
    rw [fR]
    obtain ⟨zz, w1, w2⟩ := cg1
    exact ⟨ev.symm.trans w1.j7, RQ.mk ki g0 g1 g2 g3 g4 ci ⟨⟨zz, w1, w2⟩, cg2, ⟨mkI e2 e3 e4 j x, cg3.cp o2 o3 o4⟩, cg4.cp e1 e5⟩⟩
  · rw [if_neg y] at e
    by_cases y1 : k = 1
    · rw [if_pos y1] at e
      have k1 : k.toNatClampNeg = 1 := by rw [y1]; decide
      obtain ⟨R, fR, e1, e5, ⟨e2, e3, e4⟩, eo⟩ := img_r mi k (by rw [y1, i1]; omega)
      rw [k1] at e2 e3 e4 eo
      obtain ⟨o2, o3, o4⟩ := eo 0 (by omega) (by omega)
      obtain ⟨c, S3, T3, c3, f, ci, ⟨g0, g1, g2, g3, g4⟩, ga, ⟨cg1, cg2, cg3, cg4⟩, j, z, x⟩ := img_n (r := r3) (ro := r2) (ko := 0) (M := M) (f := 3) h (fun d ed => by
        subst ed
        refine ⟨KJ.m3 h, (KJ.n3 h).1, (KJ.n3 h).2, (p5.2 d rfl).2.2.1, fun w => ?_⟩
        subst w
        unfold kA at hn
        simp at hn) (fun d ed => by subst ed; exact KJ.m2 h) ⟨p0, p3, p4, p6⟩ hb (Or.inr rfl)
      rw [f] at e
      unfold b_Y10_image_33a b_Y10_image_42 at e
      simp only at e
      rw [g0, Option.getD_some, ga, Option.getD_some] at e
      obtain ⟨ev, rfl⟩ := Prod.mk.inj e
      rw [fR]
      obtain ⟨zz, w1, w2⟩ := cg1
      exact ⟨ev.symm.trans w1.j7, RQ.mk ki g0 g1 g2 g3 g4 ci ⟨⟨zz, w1, w2⟩, cg2, ⟨cg3.cp o2 o3 o4, mkI e2 e3 e4 j x⟩, cg4.cp e1 e5⟩⟩
    · rw [if_neg y1] at e
      have z : f_X12_in k 0 1 = 0 := by
        rw [in_f, i0, i1, if_neg (fun w => ?_)]
        have n0 := mt iEq.mpr y
        have n1 := mt iEq.mpr y1
        rw [i0] at n0
        rw [i1] at n1
        omega
      unfold f_X12_image
      rw [if_pos z]
      obtain ⟨rfl, rfl⟩ := Prod.mk.inj e
      exact ⟨rfl, q⟩
end
end
section
/-! ===== as made, as begun ===== -/
section
variable {x : Nat} {S : Cst} {T : Nat → List Nat} {H R : HS} {n : Int32}
/-- a class's assembly as it is begun -/
def frC (n : Int32) (S : Cst) (T : Nat → List Nat) (x : Nat) : Prop := (giC S (x + 37) 0 = n ∧ giC S (x + 37) 2 = 0 ∧ giC S (x + 37) 3 = -1 ∧ giC S (x + 37) 4 = 0 ∧ giC S (x + 37) 5 = 0 ∧ giC S (x + 37) 6 = -1) ∧ (∀ s, s < 200 → giC S (x + 38) s = 0) ∧ (∀ k, k < 9 → giC S (x + 39) k = mj0 k) ∧ (∀ g, g < 10 → T (rP x g) = []) ∧ (giC S (x + 3) 0 = 0 ∧ ∀ p, p < 8 → giC S (x + 13 + 3 * p) 0 = 0) ∧ (giC S (x + 7) 3 = 0 ∧ giC S (x + 9) 3 = 0) ∧ jS S x ∧ (giC S x 7 = 0 ∧ giC S x 8 = 0 ∧ giC S x 9 = 0 ∧ giC S (x + 11) 1 = 0) ∧ sV S
/-- a reference's Hall as it is begun -/
def frR (n : Int32) (R : HS) : Prop := (R.1 0 = n ∧ R.1 1 = 0 ∧ R.1 2 = -1 ∧ R.1 3 = 0 ∧ R.1 4 = 0 ∧ R.1 5 = -1) ∧ (R.1 6 = 0 ∧ R.1 7 = 0 ∧ R.1 8 = 0 ∧ R.1 9 = 0 ∧ R.1 10 = 0) ∧ (R.1 35 = 0 ∧ R.1 39 = -1) ∧ (∀ s, s < 200 → R.2 11 s = 0) ∧ (∀ j, j < 9 → R.2 12 j = mj0 j) ∧ (∀ p, p < 8 → R.2 34 p = 0)
theorem frR_beg (H : HS) (n : Int32) : frR n (f_X11_begin H n).2 ∧ (f_X11_begin H n).2.2 40 = H.2 40 := by
  obtain ⟨R, eR, a, b, c, d, e, f, g⟩ := beg_v H n
  rw [eR]
  exact ⟨⟨a, b, c, d, e, f⟩, g⟩
theorem frRR (hn : 0 ≤ n.toInt ∧ n.toInt ≤ 200) (c : frC n S T x) (r : frR n R) (z : Nat → Int32) : RR (True, z, n, R.2 40) 0 S T x R := by
  obtain ⟨⟨h0, h1, h2, h3, h4, h5⟩, c38, c39, T0, ⟨s3, sp⟩, ⟨l7, l9⟩, j, ⟨x7, x8, x9, x11⟩, sv⟩ := c
  obtain ⟨⟨v0, v1, v2, v3, v4, v5⟩, ⟨v6, v7, v8, v9, v10⟩, ⟨v35, v39⟩, v11, v12, v34⟩ := r
  obtain ⟨⟨j1, j2⟩, j3, j4, j5, j6, j7⟩ := j
  have N0 : ∀ g, g < 10 → hN R g = 0 := fun g hg => by
    match g with
    | 0 => show (R.1 6).toInt = 0; rw [v6]; rfl
    | 1 => show (R.1 35).toInt = 0; rw [v35]; rfl
    | p + 2 => show (R.2 34 p).toInt = 0; rw [v34 p (by omega)]; rfl
  have nL : ∀ g i, ¬ hL R g i := fun g i l => by
    have := l.2
    rw [N0 g l.1] at this
    omega
  have lc : ∀ l, (0 : Int) ≤ lcl S l := fun l => Int.natCast_nonneg _
  refine ⟨⟨⟨?_, ?_, ?_, ?_, ?_, ?_⟩, fun s hs' _ => ?_, fun k hk => ?_, ?_⟩, fun g hg => ⟨?_, fun i hi => ?_⟩, ⟨⟨fun _ => ?_, fun y => absurd v35 y⟩, fun p hp => ⟨fun _ => ?_, fun y => absurd (v34 p hp) y⟩, fun g _ l => absurd l (nL g 0), fun g _ l => absurd l (nL g 0), fun g _ l => absurd l (nL g 0)⟩, ⟨⟨?_, ?_, fun i j hi => ?_⟩, ⟨?_, ?_, fun i j hi => ?_⟩, ⟨j1, j2⟩, j3, j4, j5, j6, j7, fun i hi => ?_⟩, ⟨⟨⟨?_, fun _ => ?_⟩, ?_, fun _ => ⟨v39, ?_⟩, fun y => absurd v9 y, fun i hi => ?_⟩, sv, v0, rfl⟩, ⟨?_, ?_⟩, fun g i l => absurd l (nL g i), fun g i g' i' l => absurd l (nL g i), fun j l => absurd l (nL j 0)⟩
  · rw [h0, v0]
  · rw [h1, v1]
  · rw [h2, v2]
  · rw [h3, v3]
  · rw [h4, v4]
  · rw [h5, v5]
  · rw [c38 s hs', v11 s hs']
  · rw [c39 k hk, v12 k hk]
  · rw [v4, i0]
    refine ⟨Int.le_refl _, fun s hs' => Or.inl (v11 s ?_)⟩
    rw [v0] at hs'
    omega
  · rw [T0 g hg, N0 g hg]
    rfl
  · rw [T0 g hg] at hi
    exact absurd hi (Nat.not_lt_zero _)
  · exact s3
  · exact sp p hp
  · rw [l7, v7]
  · rw [v7, i0]
    have := lc (x + 7)
    omega
  · rw [v7, i0] at hi
    omega
  · rw [l9, v8]
  · rw [v8, i0]
    have := lc (x + 9)
    omega
  · rw [v8, i0] at hi
    omega
  · rw [v7, i0] at hi
    omega
  · rw [x7, v9]
  · rw [x9, v10]
  · rw [v9, v8, i0]
    omega
  · exact x11
  · rw [v39] at hi
    have : (-1 : Int32).toInt = -1 := by decide
    omega
  · rw [x8, i0]
    omega
  · rw [x8, i0]
    omega
theorem frJX (hn : 1 ≤ n.toInt ∧ n.toInt ≤ 200) (c : frC n S T x) (P z : Nat → Int32) : JX S T x n 0 P z := by
  refine ⟨⟨hn, by omega, fun k hk => absurd hk (Nat.not_lt_zero _)⟩, ⟨?_, fun i j hi => absurd hi (Nat.not_lt_zero _), fun i hi => absurd hi (Nat.not_lt_zero _)⟩, fun H0 hb => ⟨fun k hk => absurd hk (Nat.not_lt_zero _), ?_⟩⟩
  · rw [c.2.2.2.2.2.1.1]
    rfl
  · obtain ⟨r, -⟩ := frR_beg H0 n
    generalize (f_X11_begin H0 n).2 = R at r ⊢
    have z0 : ((0 : Nat) : Int) = 0 := rfl
    rw [fol, z0]
    exact (frRR ⟨by omega, hn.2⟩ c r z).lo0
end
end
section
/-! ===== every call keeps it ===== -/
section
theorem rl_seats {S S2 : Cst} {M : MS} {v : Int32} (r : RQ S M) (_ : KI S 82) (mi : MI M) (x1 : Int32) (e : f_Y10_seats S 82 x1 = (v, S2)) : RQ S2 (f_X12_seats M x1).2 := (ac_seats r mi x1 e).2
theorem rl_there {S S2 : Cst} {M : MS} {v : Int32} (r : RQ S M) (_ : KI S 82) (mi : MI M) (x1 : Int32) (e : f_Y10_there S 82 x1 = (v, S2)) : RQ S2 (f_X12_there M x1).2 := (ac_there r mi x1 e).2
theorem rl_gone {S S2 : Cst} {M : MS} {v : Int32} (r : RQ S M) (_ : KI S 82) (mi : MI M) (x1 : Int32) (e : f_Y10_gone S 82 x1 = (v, S2)) : RQ S2 (f_X12_gone M x1).2 := (ac_gone r mi x1 e).2
theorem rl_quorum {S S2 : Cst} {M : MS} {v : Int32} (r : RQ S M) (_ : KI S 82) (mi : MI M) (x1 : Int32) (e : f_Y10_quorum S 82 x1 = (v, S2)) : RQ S2 (f_X12_quorum M x1).2 := (ac_quorum r mi x1 e).2
theorem rl_chair {S S2 : Cst} {M : MS} {v : Int32} (r : RQ S M) (_ : KI S 82) (mi : MI M) (x1 : Int32) (e : f_Y10_chair S 82 x1 = (v, S2)) : RQ S2 (f_X12_chair M x1).2 := (ac_chair r mi x1 e).2
theorem rl_majority {S S2 : Cst} {M : MS} {v : Int32} (r : RQ S M) (_ : KI S 82) (mi : MI M) (x1 x2 : Int32) (e : f_Y10_majority S 82 x1 x2 = (v, S2)) : RQ S2 (f_X12_majority M x1 x2).2 := (ac_majority r mi x1 x2 e).2
theorem rl_limit {S S2 : Cst} {M : MS} {v : Int32} (r : RQ S M) (_ : KI S 82) (mi : MI M) (x1 : Int32) (e : f_Y10_limit S 82 x1 = (v, S2)) : RQ S2 (f_X12_limit M x1).2 := (ac_limit r mi x1 e).2
theorem rl_floor {S S2 : Cst} {M : MS} {v : Int32} (r : RQ S M) (_ : KI S 82) (mi : MI M) (x1 : Int32) (e : f_Y10_floor S 82 x1 = (v, S2)) : RQ S2 (f_X12_floor M x1).2 := (ac_floor r mi x1 e).2
theorem rl_cede {S S2 : Cst} {M : MS} {v : Int32} (r : RQ S M) (_ : KI S 82) (mi : MI M) (e : f_Y10_cede S 82 = (v, S2)) : RQ S2 (f_X12_cede M).2 := (ac_cede r mi e).2
theorem rl_debate {S S2 : Cst} {M : MS} {v : Int32} (r : RQ S M) (_ : KI S 82) (mi : MI M) (x1 : Int32) (e : f_Y10_debate S 82 x1 = (v, S2)) : RQ S2 (f_X12_debate M x1).2 := (ac_debate r mi x1 e).2
theorem rl_draft {S S2 : Cst} {M : MS} {v : Int32} (r : RQ S M) (_ : KI S 82) (mi : MI M) (x1 : Int32) (e : f_Y10_draft S 82 x1 = (v, S2)) : RQ S2 (f_X12_draft M x1).2 := (ac_draft r mi x1 e).2
theorem rl_span {S S2 : Cst} {M : MS} {v : Int32} (r : RQ S M) (_ : KI S 82) (mi : MI M) (x1 x2 : Int32) (e : f_Y10_span S 82 x1 x2 = (v, S2)) : RQ S2 (f_X12_span M x1 x2).2 := (ac_span r mi x1 x2 e).2
theorem rl_word {S S2 : Cst} {M : MS} {v : Int32} (r : RQ S M) (_ : KI S 82) (mi : MI M) (x1 x2 x3 x4 : Int32) (e : f_Y10_word S 82 x1 x2 x3 x4 = (v, S2)) : RQ S2 (f_X12_word M x1 x2 x3 x4).2 := (ac_word r mi x1 x2 x3 x4 e).2
theorem rl_lay {S S2 : Cst} {M : MS} {v : Int32} (r : RQ S M) (_ : KI S 82) (mi : MI M) (x1 : Int32) (e : f_Y10_lay S 82 x1 = (v, S2)) : RQ S2 (f_X12_lay M x1).2 := (ac_lay r mi x1 e).2
theorem rl_take {S S2 : Cst} {M : MS} {v : Int32} (r : RQ S M) (_ : KI S 82) (mi : MI M) (x1 : Int32) (e : f_Y10_take S 82 x1 = (v, S2)) : RQ S2 (f_X12_take M x1).2 := (ac_take r mi x1 e).2
theorem rl_move {S S2 : Cst} {M : MS} {v : Int32} (r : RQ S M) (_ : KI S 82) (mi : MI M) (x1 : Int32) (e : f_Y10_move S 82 x1 = (v, S2)) : RQ S2 (f_X12_move M x1).2 := (ac_move r mi x1 e).2
theorem rl_second {S S2 : Cst} {M : MS} {v : Int32} (r : RQ S M) (_ : KI S 82) (mi : MI M) (x1 : Int32) (e : f_Y10_second S 82 x1 = (v, S2)) : RQ S2 (f_X12_second M x1).2 := (ac_second r mi x1 e).2
theorem rl_vote {S S2 : Cst} {M : MS} {v : Int32} (r : RQ S M) (_ : KI S 82) (mi : MI M) (x1 x2 : Int32) (e : f_Y10_vote S 82 x1 x2 = (v, S2)) : RQ S2 (f_X12_vote M x1 x2).2 := (ac_vote r mi x1 x2 e).2
theorem rl_withdraw {S S2 : Cst} {M : MS} {v : Int32} (r : RQ S M) (_ : KI S 82) (mi : MI M) (x1 : Int32) (e : f_Y10_withdraw S 82 x1 = (v, S2)) : RQ S2 (f_X12_withdraw M x1).2 := (ac_withdraw r mi x1 e).2
theorem rl_rule {S S2 : Cst} {M : MS} {v : Int32} (r : RQ S M) (_ : KI S 82) (mi : MI M) (e : f_Y10_rule S 82 = (v, S2)) : RQ S2 (f_X12_rule M).2 := (ac_rule r mi e).2
theorem rl_appeal {S S2 : Cst} {M : MS} {v : Int32} (r : RQ S M) (_ : KI S 82) (mi : MI M) (x1 : Int32) (e : f_Y10_appeal S 82 x1 = (v, S2)) : RQ S2 (f_X12_appeal M x1).2 := (ac_appeal r mi x1 e).2
theorem rl_told {S S2 : Cst} {M : MS} {v : Int32} (r : RQ S M) (_ : KI S 82) (mi : MI M) (e : f_Y10_told S 82 = (v, S2)) : RQ S2 (f_X12_told M).2 := (ac_told r mi e).2
theorem rl_adjourn {S S2 : Cst} {M : MS} {v : Int32} (r : RQ S M) (_ : KI S 82) (mi : MI M) (e : f_Y10_adjourn S 82 = (v, S2)) : RQ S2 (f_X12_adjourn M).2 := (ac_adjourn r mi e).2
theorem rl_order {S S2 : Cst} {M : MS} {v : Int32} (r : RQ S M) (_ : KI S 82) (mi : MI M) (x1 : Int32) (e : f_Y10_order S 82 x1 = (v, S2)) : RQ S2 (f_X12_order M x1).2 := (ac_order r mi x1 e).2
theorem rl_why {S : Cst} {M : MS} (r : RQ S M) (_ : KI S 82) (mi : MI M) : RQ S (f_X12_why M).2 := r
theorem rl_pending {S : Cst} {M : MS} (r : RQ S M) (_ : KI S 82) (mi : MI M) (x1 x2 : Int32) : RQ S (f_X12_pending M x1 x2).2 := by
  rw [ms_pending]
  exact r
theorem rl_text {S : Cst} {M : MS} (r : RQ S M) (_ : KI S 82) (mi : MI M) (x1 x2 : Int32) : RQ S (f_X12_text M x1 x2).2 := by
  rw [ms_text]
  exact r
theorem rl_ballot {S : Cst} {M : MS} (r : RQ S M) (_ : KI S 82) (mi : MI M) (x1 : Int32) : RQ S (f_X12_ballot M x1).2 := by
  rw [ms_ballot]
  exact r
theorem rl_desk {S : Cst} {M : MS} (r : RQ S M) (_ : KI S 82) (mi : MI M) (x1 x2 : Int32) : RQ S (f_X12_desk M x1 x2).2 := by
  rw [ms_desk]
  exact r
theorem rl_lying {S : Cst} {M : MS} (r : RQ S M) (_ : KI S 82) (mi : MI M) (x1 x2 : Int32) : RQ S (f_X12_lying M x1 x2).2 := by
  rw [ms_lying]
  exact r
theorem rl_result {S : Cst} {M : MS} (r : RQ S M) (_ : KI S 82) (mi : MI M) (x1 x2 : Int32) : RQ S (f_X12_result M x1 x2).2 := by
  rw [ms_result]
  exact r
theorem rl_count {S : Cst} {M : MS} (r : RQ S M) (_ : KI S 82) (mi : MI M) (x1 : Int32) : RQ S (f_X12_count M x1).2 := by
  rw [ms_count]
  exact r
theorem rl_seat {S : Cst} {M : MS} (r : RQ S M) (_ : KI S 82) (mi : MI M) (x1 : Int32) : RQ S (f_X12_seat M x1).2 := by
  rw [ms_seat]
  exact r
theorem rl_journal {S : Cst} {M : MS} (r : RQ S M) (_ : KI S 82) (mi : MI M) (x1 x2 : Int32) : RQ S (f_X12_journal M x1 x2).2 := by
  rw [ms_journal]
  exact r
theorem rl_before {S S2 : Cst} {M : MS} {v : Int32} (r : RQ S M) (_ : KI S 82) (mi : MI M) (x1 x2 x3 : Int32) (e : f_Y10_before S 82 x1 x2 x3 = (v, S2)) : RQ S2 (f_X12_before M x1 x2 x3).2 := rq_before r mi x1 x2 x3 e
theorem rl_again {S S2 : Cst} {M : MS} {v : Int32} (r : RQ S M) (_ : KI S 82) (mi : MI M) (e : f_Y10_again S 82 = (v, S2)) : RQ S2 (f_X12_again M).2 := (ac_again r mi e).2
theorem rl_tell {S S2 : Cst} {M : MS} {v : Int32} (r : RQ S M) (_ : KI S 82) (mi : MI M) (x1 x2 x3 x4 x5 x6 : Int32) (e : f_Y10_tell S 82 x1 x2 x3 x4 x5 x6 = (v, S2)) : RQ S2 (f_X12_tell M x1 x2 x3 x4 x5 x6).2 := (ac_tell r mi x1 x2 x3 x4 x5 x6 e).2
theorem rl_check {S S2 : Cst} {M : MS} {v : Int32} (r : RQ S M) (_ : KI S 82) (mi : MI M) (e : f_Y10_check S 82 = (v, S2)) : RQ S2 (f_X12_check M).2 := rq_check r mi e
theorem rl_strike {S S2 : Cst} {M : MS} {v : Int32} (r : RQ S M) (_ : KI S 82) (mi : MI M) (e : f_Y10_strike S 82 = (v, S2)) : RQ S2 (f_X12_strike M).2 := (ac_strike r mi e).2
theorem rl_image {S S2 : Cst} {M : MS} {v : Int32} (r : RQ S M) (_ : KI S 82) (mi : MI M) (x1 : Int32) (e : f_Y10_image S 82 x1 = (v, S2)) : RQ S2 (f_X12_image M x1).2 := (ac_image r mi x1 e).2
theorem rl_back {S S2 : Cst} {M : MS} {v : Int32} (r : RQ S M) (_ : KI S 82) (mi : MI M) (x1 : Int32) (e : f_Y10_back S 82 x1 = (v, S2)) : RQ S2 (f_X12_back M x1).2 := (ac_back r mi x1 e).2
end
end
