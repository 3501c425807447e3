/-! ===== before, check, strike, tell ===== -/
section
variable {x y a b l : Nat} {r2 r3 : Option Nat} {S S1 S2 S3 S4 Sk : Cst} {T T1 T2 T3 Tk : Nat → List Nat} {col c1 c2 c3 ck : Nat → Nat} {H H2 G R O : HS} {M M2 : MS} {v : Int32} {P z : Nat → Int32}
theorem RQ.cg (q : RQ S M) (e1 : M2.1 = M.1) (e2 : M2.2.1 = M.2.1) : RQ S M2 := by
  obtain ⟨a, b, r2, r3, l, T, col, h, c⟩ := q
  refine ⟨a, b, r2, r3, l, T, col, h, ?_⟩
  unfold CT at c ⊢
  rw [e1, e2]
  exact c
theorem bef_l (mm i e : Int32) (he : e.toInt ≤ (M.2.1.1 7).toInt) (b7 : 0 ≤ (M.2.1.1 7).toInt ∧ (M.2.1.1 7).toInt ≤ 600) : ∀ (f : Nat) (S : Cst) (T : Nat → List Nat) (col : Nat → Nat) (k : Int32) (G : HS), KJ 82 a b r2 r3 l S T col → CT S M a b r2 r3 l T → G = fol (M.2.1.2 40) (f_X11_begin M.2.2 (M.2.1.1 0)).2 k.toNatClampNeg → TB S T b G → 0 ≤ k.toInt → k.toInt ≤ e.toInt → e.toInt - k.toInt < f → ∃ S3 T3 c3, lp_Y10_before_49 82 f S e mm i (some (a + 7)) k = (f_Y0_wordOf S3 b mm i, S3) ∧ KJ 82 a b r2 r3 l S3 T3 c3 ∧ CT S3 M a b r2 r3 l T3 ∧ TB S3 T3 b (fol (M.2.1.2 40) (f_X11_begin M.2.2 (M.2.1.1 0)).2 e.toNatClampNeg) := by
  intro f
  induction f with
  | zero => intro S T col k G h c eG t h1 h2 h3; omega
  | succ f ih =>
    intro S T col k G h c eG t h1 h2 h3
    have kk := iNat h1
    have ke := iNat (x := M.2.1.1 7) b7.1
    rw [lp_Y10_before_49]
    unfold st_Y10_before_49
    rw [Option.getD_some]
    by_cases d : e ≤ k
    · rw [if_pos d, h.g1, Option.getD_some]
      have d := iLe.mp d
      have ek : k.toNatClampNeg = e.toNatClampNeg := by
        have := iNat (x := e) (by omega)
        omega
      rw [ek] at eG
      rw [← eG]
      exact ⟨S, T, col, rfl, h, c, t⟩
    · rw [if_neg d]
      have d := mt iLe.mpr d
      have hk : k.toInt = (k.toNatClampNeg : Nat) ∧ k.toNatClampNeg < (M.2.1.1 7).toNatClampNeg := ⟨kk.symm, by omega⟩
      obtain ⟨S3, T3, c3, f3, k3, ct3, tb3⟩ := tr_ent h c hk t
      rw [h.g1, Option.getD_some, f3]
      have e1 := iAdd (x := k) (y := 1) (by rw [i1]; omega) (by rw [i1]; omega)
      rw [i1] at e1
      have en : (k + 1).toNatClampNeg = k.toNatClampNeg + 1 := by have := iNat (x := k + 1) (by omega); omega
      unfold b_Y10_before_102a
      exact ih S3 T3 c3 (k + 1) _ k3 ct3 (by rw [en, fol, ← eG]) tb3 (by omega) (by omega) (by omega)
theorem rq_before (q : RQ S M) (mi : MI M) (i1' i2 i3 : Int32) (e : f_Y10_before S 82 i1' i2 i3 = (v, S2)) : RQ S2 (f_X12_before M i1' i2 i3).2 := by
  obtain ⟨a, b, r2, r3, l, T, col, h, c⟩ := q
  have wa := h.ci.wf.w0 (KJ.ka h)
  have g3 : giC S (a + 7) 3 = M.2.1.1 7 := by
    obtain ⟨⟨z, q1, -⟩, -⟩ := c
    exact q1.j7
  have m1 : (f_X12_before M i1' i2 i3).2.1 = M.1 ∧ (f_X12_before M i1' i2 i3).2.2.1 = M.2.1 := by
    unfold f_X12_before b_X12_before_a31 b_X12_before_a55
    by_cases z : f_X12_in i1' 0 (M.2.1.1 7) = 0
    · rw [if_pos z]
      exact ⟨rfl, rfl⟩
    · rw [if_neg z]
      generalize (f_X11_begin M.2.2 (M.2.1.1 0)).2 = B
      generalize f_X11_follow ((mS M B).2.1.2 40) (mS M B).2.2 i1' = F
      generalize f_X11_text (mS (mS M B) F.2).2.2 i2 i3 = X
      exact ⟨rfl, rfl⟩
  refine RQ.cg (M := M) ?_ m1.1 m1.2
  unfold f_Y10_before b_Y10_before_18 b_Y10_before_46a at e
  rw [h.g0, h.g1, Option.getD_some, Option.getD_some, wa.2.1.1, wa.2.1.2.2.2.2.1, Option.getD_some, Option.getD_some, g3] at e
  by_cases c1 : i1' < 0
  · rw [if_pos c1] at e
    obtain ⟨rfl, rfl⟩ := Prod.mk.inj e
    exact ⟨a, b, r2, r3, l, T, col, h, c⟩
  · rw [if_neg c1] at e
    have c1 := mt iLt.mpr c1
    rw [i0] at c1
    by_cases c2 : i1' ≤ M.2.1.1 7
    · rw [if_pos c2] at e
      have c2 := iLe.mp c2
      obtain ⟨S3, T3, f, k3, ct, tb⟩ := tr_beg h c mi
      obtain ⟨S4, T4, c4, f4, k4, ct4, -⟩ := bef_l i2 i3 i1' c2 mi.1.2.1 100000 S3 T3 col 0 _ k3 ct (by rw [zn0]; rfl) tb (by rw [i0]; omega) (by rw [i0]; omega) (by rw [i0]; have := mi.1.2.1.2; omega)
      rw [f] at e
      simp only at e
      rw [f4] at e
      obtain ⟨rfl, rfl⟩ := Prod.mk.inj e
      exact ⟨a, b, r2, r3, l, T4, c4, k4, ct4⟩
    · rw [if_neg c2] at e
      obtain ⟨rfl, rfl⟩ := Prod.mk.inj e
      exact ⟨a, b, r2, r3, l, T, col, h, c⟩
/-- the told row moves, nothing else -/
theorem CT.row (h : KJ 82 a b r2 r3 l S T col) (c : CT S M a b r2 r3 l T) (g : LSt noE T [] l S col S2 c2) (hk : nk S S2) (ho : oz S l) : (∃ z, RR (True, z, M.2.1.1 0, M.2.1.2 40) (M.2.1.1 7).toInt S2 T a M.2.1 ∧ JX S2 T a (M.2.1.1 0) (M.2.1.1 7).toNatClampNeg (M.2.1.2 40) z) ∧ jS S2 b ∧ (IM S2 T r2 0 M.1 ∧ IM S2 T r3 1 M.1) := by
  obtain ⟨⟨z, q1, q2⟩, q3, ⟨q4, q5⟩, q6⟩ := c
  have kl := h.kl
  have z7 := (h.ci.wf.w2 kl).2.1.2
  have cl : col l = 82 := h.2.1.2.2.2
  have cz : col ((grC S l 2).getD 0) = 82 := (h.ci.c2 l kl).trans cl
  have nX : ∀ c, c ∈ kA a b r2 r3 → c ≠ 82 := fun c m e => by
    have := (h.2.2.2.2.1 c m).2.2.2.1
    rw [h.2.1.2.2.1] at this
    exact this e.symm
  have fr : ∀ c, c ∈ kA a b r2 r3 → ∀ q, q < S.1 → col q = c → S2.2.2 q = S.2.2 q := fun c m q hq e => g.2.2.2.1 q hq (fun w => nX c m (by rw [← e, w]; exact cl)) (fun w => nX c m (by rw [← e, w]; exact cz))
  have sv2 : sV S2 := fun q k => by
    have kq := hk q 3 (by decide) k
    have W := W3k h.ci.wf kq
    have e : ∀ j, j < 4 → ∀ k, giC S2 (q + j) k = giC S (q + j) k := fun j hj k => by
      unfold giC
      rcases (show j = 0 ∨ j = 1 ∨ j = 2 ∨ j = 3 by omega) with rfl | rfl | rfl | rfl
      · rw [show S2.2.2 (q + 0) = S.2.2 (q + 0) from g.2.2.2.1 q kq.1 (ik_ne kq kl (by decide)) (ik_ne kq z7 (by decide))]
      · rw [g.2.2.2.1 _ W.1.1 (ik_ne W.1 kl (by decide)) (ik_ne W.1 z7 (by decide))]
      · rw [g.2.2.2.1 _ W.2.1.1 (ik_ne W.2.1 kl (by decide)) (fun y => ho _ W.1 y.symm)]
      · rw [g.2.2.2.1 _ W.2.2.1 (ik_ne W.2.2 kl (by decide)) (ik_ne W.2.2 z7 (by decide))]
    rw [vCn_cg (e 3 (by omega)), show giC S2 q 14 = giC S q 14 from e 0 (by omega) 14]
    exact q1.sv q kq
  have ft : ∀ c, c < S.1 → T c = T c := fun _ _ => rfl
  refine ⟨⟨z, q1.og h.ci (KJ.ka h) g.2.1 g.1.wf (fr a (KJ.ma h)) (fun _ _ _ => rfl) sv2, q2.og h.ci (KJ.ka h) g.2.1 g.1.wf (fr a (KJ.ma h)) (fun _ _ _ => rfl) sv2⟩, q3.og h.ci (KJ.kb h) g.2.1 (fr b (KJ.mb h)), q4.og h (fun c e => ?_) g.2.1 g.1.wf (fun c e => ?_) (fun _ _ _ _ _ => rfl) sv2, q5.og h (fun c e => ?_) g.2.1 g.1.wf (fun c e => ?_) (fun _ _ _ _ _ => rfl) sv2⟩
  · subst e
    exact (h.2.2.2.2.1 c (KJ.m2 h)).1
  · subst e
    exact fr c (KJ.m2 h)
  · subst e
    exact (h.2.2.2.2.1 c (KJ.m3 h)).1
  · subst e
    exact fr c (KJ.m3 h)
theorem KJ.refl (h : KJ 82 a b r2 r3 l S T col) (g : LSt noE T [] l S col S2 c2) : grC S2 82 0 = some a ∧ grC S2 82 1 = some b ∧ grC S2 82 2 = r2 ∧ grC S2 82 3 = r3 ∧ grC S2 82 4 = some l := by
  have km := h.km
  have em : S2.2.2 82 = S.2.2 82 := g.2.2.2.1 82 km.1 (ik_ne km h.kl (by decide)) (ik_ne km (h.ci.wf.w2 h.kl).2.1.2 (by decide))
  have gm : ∀ k, grC S2 82 k = grC S 82 k := fun k => by unfold grC; rw [em]
  simp only [gm]
  exact h.2.2.1
theorem ac_strike (q : RQ S M) (mi : MI M) (e : f_Y10_strike S 82 = (v, S2)) : v = (f_X12_strike M).1 ∧ RQ S2 (f_X12_strike M).2 := by
  obtain ⟨a, b, r2, r3, l, T, col, h, c⟩ := id q
  obtain ⟨v', S2', e', -, ki, -⟩ := k_strike ⟨a, b, r2, r3, l, T, col, h⟩
  obtain ⟨-, rfl⟩ := Prod.mk.inj (e.symm.trans e')
  obtain ⟨t0, t1, t2, to, t3⟩ := c.2.2.2
  have g := LSt.n h.ci h.kl (v := 0) ⟨by rw [i0]; omega, by rw [i0]; omega⟩
  unfold f_Y10_strike at e
  rw [h.g4, Option.getD_some, t1] at e
  obtain ⟨rfl, rfl⟩ := Prod.mk.inj e
  obtain ⟨p1, p2, p3⟩ := CT.row h c g (fun q c _ k => ik_si.mp k) to
  obtain ⟨g0, g1, g2, g3, g4⟩ := KJ.refl h g
  have nz : (grC S l 2).getD 0 ≠ l := ik_ne (h.ci.wf.w2 h.kl).2.1.2 h.kl (by decide)
  refine ⟨rfl, RQ.mk ki g0 g1 g2 g3 g4 g.1 ⟨p1, p2, ⟨⟨p3.1.1, p3.1.2⟩, ⟨p3.2.1, p3.2.2⟩⟩, ?_, ?_, ?_, fun q k => ?_, fun i j hi => ?_⟩⟩
  · rw [gi_si, if_neg (fun y => absurd y.2 (by decide))]
    exact t0
  · rw [gi_si, if_pos ⟨rfl, rfl⟩]
    rfl
  · have e0 : (mO M (sI M.1 6 0)).1.1 6 = 0 := rfl
    rw [show (f_X12_strike M).2.1.1 6 = 0 from rfl, i0]
    have : (0 : Int) ≤ (lcl (siC S l 3 0) l : Nat) := Int.natCast_nonneg _
    omega
  · rw [gr_si]
    exact to q (ik_si.mp k)
  · rw [show (f_X12_strike M).2.1.1 6 = 0 from rfl, i0] at hi
    omega
end
