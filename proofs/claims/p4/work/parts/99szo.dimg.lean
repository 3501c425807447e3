/-! ===== image ===== -/
section
variable {wF : Prop × (Nat → Int32) × Int32 × (Nat → Int32)} {x y a b c l : Nat} {r2 r3 ro : Option Nat} {ko : Nat} {A : List Nat} {S S1 S2 S3 S4 Sk : Cst} {T T1 T2 T3 Tk : Nat → List Nat} {col c1 c2 c3 ck : Nat → Nat} {H H2 G R O : HS} {M M2 : MS} {v : Int32} {P z : Nat → Int32}
theorem IM.cp {k : Nat} {r : Option Nat} (im : IM S T r k O) (e2 : R.2 2 k = O.2 2 k) (e3 : R.2 3 k = O.2 3 k) (e4 : ∀ i, i < 3600 → R.2 4 (3600 * k + i) = O.2 4 (3600 * k + i)) : IM S T r k R := by
  refine ⟨fun e => e3.trans (im.1 e), fun c e => ?_⟩
  obtain ⟨p1, p2, p3, z, p4⟩ := im.2 c e
  have h6 := p4.1.2.1
  rw [e3, e2]
  exact ⟨p1, p2, p3, z, p4.cg (fun i hi => e4 i (by omega))⟩
theorem TE.cp (t : TE S l O) (e1 : R.1 = O.1) (e5 : R.2 5 = O.2 5) : TE S l R := by
  unfold TE at t ⊢
  rw [e1, e5]
  exact t
theorem img_f (h : KG 82 a b r2 r3 l A S T col) (ma : a ∈ A) (mb : b ∈ A) (mc : c ∈ A) (nca : c ≠ a) (ncb : c ≠ b) (mo : ∀ d, ro = some d → d ∈ A ∧ d ≠ c) (jc : jS S c) (cg : CG S T a b l M ro ko) (hb : HB G) {f : Nat} (hf : f = 2 ∨ f = 3) : ∃ S2 T2 c2, f_Y0_become S c a = (0, S2) ∧ KG 82 a b (if f = 2 then some c else r2) (if f = 3 then some c else r3) l A (srC S2 82 f (some c)) T2 c2 ∧ CG (srC S2 82 f (some c)) T2 a b l M ro ko ∧ jS (srC S2 82 f (some c)) c ∧ ∃ z, JX (srC S2 82 f (some c)) T2 c (M.2.1.1 0) (M.2.1.1 7).toNatClampNeg (M.2.1.2 40) z := by
  obtain ⟨z, q1, q2⟩ := cg.1
  have hc := h.2.2.2.2.1 c mc
  have hA := h.2.2.2.2.1 a ma
  obtain ⟨S2, T2, c2, f1, as, j2, -⟩ := JX.bec (h.as mc).1 hA.1 (fun e => nca e.symm) hA.2.1 q1.sv jc hb q2
  have k2 := h.step mc as.1 as.2
  have r2' := (j2.2.2 G hb).2
  have sv2 : sV S2 := r2'.sv
  have no : ∀ d, (d = a ∨ d = b ∨ ro = some d) → d ≠ c := fun d hd => by
    rcases hd with e | e | e
    · rw [e]
      exact fun y => nca y.symm
    · rw [e]
      exact fun y => ncb y.symm
    · exact (mo d e).2
  have g := as.1
  have zl := (h.ci.wf.w2 h.kl).2.1.2
  have cg2 : CG S2 T2 a b l M ro ko := cg.og h ma mb (fun d e => (mo d e).1) g.en g.ci.wf (fun d hd q a w => g.fr q a (by rw [w]; exact no d hd)) (fun d hd q a w => g.ft q a (by rw [w]; exact no d hd)) (g.fr l h.kl.1 hc.2.2.2.2) (g.fr _ zl.1 (by rw [h.ci.c2 l h.kl]; exact hc.2.2.2.2)) sv2
  have k4 := k2.set (c := c) (f := f) hf mc
  have en : eN S2 (srC S2 82 f (some c)) := (eK.sr ..).n
  have nz : ∀ d, d ∈ A → ∀ q, q < S2.1 → c2 q = d → (srC S2 82 f (some c)).2.2 q = S2.2.2 q := fun d md q _ e => ce_sr _ _ (fun y => (k2.2.2.2.2.1 d md).2.2.2.1 (by rw [← y]; exact e))
  have mm : ∀ d, (d = a ∨ d = b ∨ ro = some d) → d ∈ A := fun d hd => by
    rcases hd with e | e | e
    · rw [e]
      exact ma
    · rw [e]
      exact mb
    · exact (mo d e).1
  have sv4 : sV (srC S2 82 f (some c)) := fun q k => by
    rw [vCn_cg (S2 := srC S2 82 f (some c)) (S1 := S2) (fun k => gi_sr ..), gi_sr]
    exact sv2 q (ik_sr.mp k)
  have zl2 := (k2.ci.wf.w2 k2.kl).2.1.2
  refine ⟨S2, T2, c2, f1, k4, cg2.og k2 ma mb (fun d e => (mo d e).1) en k4.ci.wf (fun d hd => nz d (mm d hd)) (fun _ _ _ _ _ => rfl) (ce_sr _ _ (ik_ne k2.kl k2.km (by decide))) (ce_sr _ _ (ik_ne zl2 k2.km (by decide))) sv4, r2'.jS.og k2.ci (k2.2.2.2.2.1 c mc).1 en (nz c mc), z, j2.og k2.ci (k2.2.2.2.2.1 c mc).1 en k4.ci.wf (nz c mc) (fun _ _ _ => rfl) sv4⟩
theorem img_n (h : KJ 82 a b r2 r3 l S T col) {r : Option Nat} (hr : ∀ c, r = some c → c ∈ kA a b r2 r3 ∧ c ≠ a ∧ c ≠ b ∧ jS S c ∧ ro ≠ some c) (mo : ∀ d, ro = some d → d ∈ kA a b r2 r3) (cg : CG S T a b l M ro ko) (hb : HB G) {f : Nat} (hf : f = 2 ∨ f = 3) : ∃ c S2 T2 c2, f_Y10_imageOfNow S 82 r = (some c, S2) ∧ CI noE (srC S2 82 f (some c)) T2 [] c2 ∧ (grC (srC S2 82 f (some c)) 82 0 = some a ∧ grC (srC S2 82 f (some c)) 82 1 = some b ∧ grC (srC S2 82 f (some c)) 82 2 = (if f = 2 then some c else r2) ∧ grC (srC S2 82 f (some c)) 82 3 = (if f = 3 then some c else r3) ∧ grC (srC S2 82 f (some c)) 82 4 = some l) ∧ grC (srC S2 82 f (some c)) a 4 = some (a + 7) ∧ CG (srC S2 82 f (some c)) T2 a b l M ro ko ∧ jS (srC S2 82 f (some c)) c ∧ ∃ z, JX (srC S2 82 f (some c)) T2 c (M.2.1.1 0) (M.2.1.1 7).toNatClampNeg (M.2.1.2 40) z := by
  unfold f_Y10_imageOfNow
  cases r with
  | none =>
    have h1 := h.mk
    have ma := List.mem_cons_of_mem S.1 (KJ.ma h)
    have lt : ∀ d, d ∈ kA a b r2 r3 → d ≠ S.1 := fun d m e => by
      have := (h.2.2.2.2.1 d m).1.1
      omega
    have sv := (cg.1.choose_spec.1).sv
    have zl := (h.ci.wf.w2 h.kl).2.1.2
    have cg1 : CG (mkX0 S) T a b l M ro ko := cg.og h (KJ.ma h) (KJ.mb h) mo (eN.pu S _ _) h1.ci.wf (fun _ _ q a _ => puC_old a) (fun _ _ _ _ _ => rfl) (puC_old h.kl.1) (puC_old zl.1) (sV_mk h.ci sv)
    obtain ⟨S2, T2, c2, f1, k4, cg2, j2, z, x2⟩ := img_f h1 ma (List.mem_cons_of_mem _ (KJ.mb h)) (List.mem_cons_self ..) (fun e => lt a (KJ.ma h) e.symm) (fun e => lt b (KJ.mb h) e.symm) (fun d e => ⟨List.mem_cons_of_mem _ (mo d e), lt d (mo d e)⟩) (jS_mk h.ci) cg1 hb hf
    have g0 : grC (mkX0 S) 82 0 = some a := h1.2.2.1.1
    have ka := (k4.2.2.2.2.1 a ma).1
    refine ⟨S.1, S2, T2, c2, ?_, k4.ci, k4.2.2.1, (k4.ci.wf.w0 ka).2.1.2.2.2.2.1, cg2, j2, z, x2⟩
    rw [if_pos rfl]
    unfold b_Y10_imageOfNow_11a b_Y10_imageOfNow_15 b_Y10_imageOfNow_24a
    rw [g0, Option.getD_some, Option.getD_some, f1]
  | some c =>
    obtain ⟨mc, n1, n2, jc, n3⟩ := hr c rfl
    obtain ⟨S2, T2, c2, f1, k4, cg2, j2, z, x2⟩ := img_f h (KJ.ma h) (KJ.mb h) mc n1 n2 (fun d e => ⟨mo d e, fun y => n3 (by rw [← y]; exact e)⟩) jc cg hb hf
    have ka := (k4.2.2.2.2.1 a (KJ.ma h)).1
    refine ⟨c, S2, T2, c2, ?_, k4.ci, k4.2.2.1, (k4.ci.wf.w0 ka).2.1.2.2.2.2.1, cg2, j2, z, x2⟩
    rw [if_neg (by simp)]
    unfold b_Y10_imageOfNow_15 b_Y10_imageOfNow_24a
    rw [h.g0, Option.getD_some, Option.getD_some, f1]
end
