/-! ===== become, whole; another assembly stands ===== -/
section
variable {wF : Prop × (Nat → Int32) × Int32 × (Nat → Int32)} {E : Nat → Prop} {x y : Nat} {S S1 S2 S3 S4 Sk : Cst} {T T1 T2 T3 Tk : Nat → List Nat} {F F1 : List Nat} {col c1 c2 c3 ck : Nat → Nat} {H H2 G R : HS} {N N2 M M2 : Int}
theorem SV.so (s : SV x y S1 8 Sk) (e : ∀ d, pl x d → giC S3 d 0 = giC Sk d 0) : SV x y S1 8 S3 := ⟨(e _ (Or.inl rfl)).trans s.1, fun p hp => (e _ (Or.inr ⟨p, hp, rfl⟩)).trans (s.2 p hp)⟩
theorem bec_l (h0 : CI noE S1 T1 [] c1) (ky : iK S1 y 0) (ny : y ≠ x) : ∀ (n : Nat) (Sk : Cst) (Tk : Nat → List Nat) (ck : Nat → Nat) (i : Int32), Sst noE x S1 T1 [] c1 Sk Tk [] ck → 0 ≤ i.toInt → i.toInt ≤ 8 → 8 - i.toInt < n → BV x y S1 T1 (fun g => g < i.toNatClampNeg + 2) Sk Tk → SV x y S1 i.toNatClampNeg Sk → ∃ S2 T2 c2 j, lp_Y0_become_61 x y n Sk i = b_Y0_become_124a ((f_Y3_become S2 (x + 7) (y + 7)).2) x y j ∧ Sst noE x S1 T1 [] c1 S2 T2 [] c2 ∧ BV x y S1 T1 (fun g => g < 10) S2 T2 ∧ SV x y S1 8 S2 := by
  have e8 : (8 : Int32).toInt = 8 := by decide
  intro n
  induction n with
  | zero => intro Sk Tk ck i hk h1 h2 h3; omega
  | succ n ih =>
    intro Sk Tk ck i hk h1 h2 h3 b so
    have kyk := ky.n hk.en
    have hn := iNat h1
    have w0 := hk.ci.wf.w0 hk.k1
    have y0 := hk.ci.wf.w0 kyk
    rw [lp_Y0_become_61]
    unfold st_Y0_become_61
    by_cases c : i.toInt = 8
    · have c8 : 8 ≤ i := iLe.mpr (by rw [e8]; omega)
      have en : i.toNatClampNeg = 8 := by omega
      rw [if_pos c8, w0.2.1.2.2.2.2.1, y0.2.1.2.2.2.2.1, Option.getD_some, Option.getD_some]
      rw [en] at b so
      exact ⟨Sk, Tk, ck, i, rfl, hk, b, so⟩
    · have c8 : ¬ 8 ≤ i := fun z => by have := iLe.mp z; rw [e8] at this; omega
      rw [if_neg c8]
      have hp : i.toNatClampNeg < 8 := by omega
      have dx := dk_ix hk.ci.wf hk.k1 hp
      have dy := dk_ix hk.ci.wf kyk hp
      rw [dx.1, dy.1]
      simp only [Option.getD_some]
      have o : pl x (x + 13 + 3 * i.toNatClampNeg) := Or.inr ⟨_, hp, rfl⟩
      have h2' := hk.sort o (giC Sk (y + 13 + 3 * i.toNatClampNeg) 0)
      have bm := b.so hk o (giC Sk (y + 13 + 3 * i.toNatClampNeg) 0)
      have ek : eK Sk (siC Sk (x + 13 + 3 * i.toNatClampNeg) 0 (giC Sk (y + 13 + 3 * i.toNatClampNeg) 0)) := eK.si ..
      have hS : ∀ q k, q ≠ x + 13 + 3 * i.toNatClampNeg → giC (siC Sk (x + 13 + 3 * i.toNatClampNeg) 0 (giC Sk (y + 13 + 3 * i.toNatClampNeg) 0)) q k = giC Sk q k := fun q k z => by rw [gi_si, if_neg (fun w => z w.1)]
      have hv : giC (siC Sk (x + 13 + 3 * i.toNatClampNeg) 0 (giC Sk (y + 13 + 3 * i.toNatClampNeg) 0)) (x + 13 + 3 * i.toNatClampNeg) 0 = giC Sk (y + 13 + 3 * i.toNatClampNeg) 0 := by rw [gi_si, if_pos ⟨rfl, rfl⟩]
      generalize siC Sk (x + 13 + 3 * i.toNatClampNeg) 0 (giC Sk (y + 13 + 3 * i.toNatClampNeg) 0) = Sm at h2' bm ek hS hv ⊢
      have kym := kyk.e ek
      have dx2 := dk_ix h2'.ci.wf h2'.k1 hp
      have dy2 := dk_ix h2'.ci.wf kym hp
      rw [dx2.1, dy2.1]
      simp only [Option.getD_some]
      have wx := h2'.ci.wf.w5 dx2.2
      have wy := h2'.ci.wf.w5 dy2.2
      rw [wx.2, wy.2]
      obtain ⟨S3, T3, c3, f, g1, b3, s3⟩ := bm.cp h2' h0 ky ny (g0 := i.toNatClampNeg + 2) (by omega) (by omega)
      have f : f_Y0_copy Sm x (y + 13 + 3 * i.toNatClampNeg + 1) (x + 13 + 3 * i.toNatClampNeg + 1) = (0, S3) := f
      unfold b_Y0_become_104a b_Y0_become_107a
      simp only [Option.getD_some]
      rw [f]
      have e1 := iAdd (x := i) (y := 1) (by rw [i1]; omega) (by rw [i1]; omega)
      rw [i1] at e1
      have hn1 := iNat (x := i + 1) (by omega)
      have es : (i + 1).toNatClampNeg = i.toNatClampNeg + 1 := by omega
      have kyp : iK S1 (y + 13 + 3 * i.toNatClampNeg) 5 := (dk_ix h0.wf ky hp).2
      have sy : giC Sk (y + 13 + 3 * i.toNatClampNeg) 0 = giC S1 (y + 13 + 3 * i.toNatClampNeg) 0 := by
        unfold giC
        rw [hk.fr _ kyp.1 (by rw [show y + 13 + 3 * i.toNatClampNeg = y + (13 + 3 * i.toNatClampNeg) by omega, h0.c0 y ky _ (by omega)]; exact ny)]
      exact ih S3 T3 c3 (i + 1) g1 (by omega) (by omega) (by omega) (b3.mo (fun g hg => by rw [es]; omega)) ⟨by rw [s3 _ (Or.inl rfl), hS _ _ (by omega)]; exact so.1, fun p hp' => by
        rw [s3 _ (Or.inr ⟨p, by omega, rfl⟩)]
        by_cases e : p = i.toNatClampNeg
        · rw [e, hv, sy]
        · rw [hS _ _ (by omega)]
          exact so.2 p (by omega)⟩
theorem become_sim (h : Sst noE x S T [] col S1 T1 [] c1) (ky : iK S1 y 0) (ny : y ≠ x) (hy : PI S1 T1 y) (sv : sV S1) (jx : jS S1 x) {z : (Nat → Int32) × Int32 × (Nat → Int32)} (r : RR (False, z) N S1 T1 y H) (h10 : H.1 10 = 0) : ∃ S2 T2 c2, f_Y0_become S1 x y = (0, S2) ∧ AS x S T col S2 T2 c2 ∧ RR (True, z) N S2 T2 x H := by
  have h1 : Sst noE x S1 T1 [] c1 S1 T1 [] c1 := Sst.rf h.ci h.k1 (fun q m => by cases m)
  have o3 : pl x (x + 3) := Or.inl rfl
  have cyj : ∀ r, r < 40 → c1 (y + r) = y := fun r hr => h.ci.c0 y ky r hr
  have cyn : ∀ r, r < 40 → c1 (y + r) ≠ x := fun r hr => by rw [cyj r hr]; exact ny
  obtain ⟨-, S2, T2, f1, f2, f3, f4⟩ := y_clear noE_n h1
  have n1 : S2.1 = S1.1 := by
    have := n1_clear h1
    rw [f1] at this
    exact this
  have w2 := f2.ci.wf.w0 f2.k1
  have ky2 := ky.n f2.en
  have y2 := f2.ci.wf.w0 ky2
  obtain ⟨-, v, S3, g1, u3⟩ := y_hbecome f2 ky2
  obtain ⟨S3', g1', hc, he⟩ := hbec_v f2.ci.wf f2.k1 ky2 (fun e => ny e.symm)
  obtain ⟨-, rfl⟩ := Prod.mk.inj (g1.symm.trans g1')
  have h3 := u3.1
  have w3 := u3.w0
  have y3 := h3.ci.wf.w0 (ky.n h3.en)
  have yy := h.ci.wf.w0 ky
  have yk37 : iK S1 (y + 37) 1 := yy.1.1
  have yw1 := h.ci.wf.w1 yk37
  have fyc : ∀ q, q < S1.1 → c1 q ≠ x → S2.2.2 q = S1.2.2 q := f2.fr
  have k7 : iK S1 (x + 7) 2 := (h.ci.wf.w0 h.k1).1.2.2.2.2.1
  have k9 : iK S1 (x + 9) 2 := (h.ci.wf.w0 h.k1).1.2.2.2.2.2.1
  have sv2 : sV S2 := sv.gx f3 h.ci.wf (fun q kq j hj => by
    have W := W3k h.ci.wf kq
    show ¬ kdC S1 (q + j) = 5
    rcases (show j = 0 ∨ j = 1 ∨ j = 2 ∨ j = 3 by omega) with rfl | rfl | rfl | rfl
    · exact fun e => absurd (kq.2.symm.trans e) (by decide)
    · exact fun e => absurd (W.1.2.symm.trans e) (by decide)
    · exact fun e => absurd (W.2.1.2.symm.trans e) (by decide)
    · exact fun e => absurd (W.2.2.2.symm.trans e) (by decide)) (fun q k => ik_b k f3.1 n1)
  have j2 : jS S2 x := jx.gx h.ci h.k1 f3 (fun e => absurd (k7.2.symm.trans e) (by decide)) (fun e => absurd (k9.2.symm.trans e) (by decide))
  have m3 : ∀ q, iK S2 q 3 → ∀ j, j < 4 → ∀ k, giC S3 (q + j) k = giC S2 (q + j) k := fun q kq j hj k => by
    obtain ⟨a, b, c⟩ := mo_h f2.ci f2.k1 kq hj
    exact hc.1 _ k a b c
  have sv3 : sV S3 := fun q k => by
    have kq := hc.2.2.2 q 3 k
    rw [vCn_cg (m3 q kq 3 (by omega)), show giC S3 q 14 = giC S2 q 14 from m3 q kq 0 (by omega) 14]
    exact sv2 q kq
  have j3 : jS S3 x := by
    obtain ⟨⟨a, b⟩, c, d, e, f, g⟩ := j2
    have r7 : grC S3 (x + 7) 2 = grC S2 (x + 7) 2 := hc.2.1 _ _
    have r9 : grC S3 (x + 9) 2 = grC S2 (x + 9) 2 := hc.2.1 _ _
    refine ⟨⟨(hc.1 _ 0 (by omega) (by omega) (by omega)).trans a, (hc.1 _ 0 (by omega) (by omega) (by omega)).trans b⟩, fun q k => ?_, fun q k => ?_, by rw [r7, r9]; exact e, by rw [r7]; exact f, by rw [r9]; exact g⟩
    · rw [r7]
      exact c q (hc.2.2.2 q 6 k)
    · rw [r9]
      exact d q (hc.2.2.2 q 6 k)
  have he1 : hE S1 y S3 x := by
    obtain ⟨a, b, c⟩ := he
    have e37 : S2.2.2 (y + 37) = S1.2.2 (y + 37) := fyc _ yk37.1 (cyn 37 (by omega))
    have e38 : S2.2.2 (y + 38) = S1.2.2 (y + 38) := fyc _ yw1.1.1.1 (cyn 38 (by omega))
    have e39 : S2.2.2 (y + 39) = S1.2.2 (y + 39) := fyc _ yw1.1.2.2.1.1 (cyn 39 (by omega))
    refine ⟨fun k hk => ?_, fun s hs => ?_, fun k hk => ?_⟩
    · rw [a k hk]
      unfold giC
      rw [e37]
    · rw [b s hs]
      unfold giC
      rw [e38]
    · rw [c k hk]
      unfold giC
      rw [e39]
  have T0 : ∀ g, g < 10 → T2 (rP x g) = [] := fun g hg => by
    match g, hg with
    | 0, _ => exact f4.1
    | 1, _ => exact f4.2.1
    | p + 2, hg =>
      have := (f4.2.2.2 p (by omega)).2
      rw [rP_p, show x + 13 + 3 * p + 1 = x + 14 + 3 * p by omega]
      exact this
  have B0 : BV x y S1 T1 (fun _ => False) S3 T2 := ⟨fun _ _ d => d.elim, fun g hg _ => T0 g hg, he1, sv3, j3⟩
  obtain ⟨S4, T4, c4, g4, k4, B4, s4⟩ := B0.cp h3 h.ci ky ny (g0 := 0) (by omega) not_false
  have g4 : f_Y0_copy S3 x (y + 1) (x + 1) = (0, S4) := g4
  have w4 := k4.ci.wf.w0 k4.k1
  have y4 := k4.ci.wf.w0 (ky.n k4.en)
  have h5 := k4.sort o3 (giC S4 (y + 3) 0)
  have B5 := B4.so k4 o3 (giC S4 (y + 3) 0)
  have hv5 : giC (siC S4 (x + 3) 0 (giC S4 (y + 3) 0)) (x + 3) 0 = giC S4 (y + 3) 0 := by rw [gi_si, if_pos ⟨rfl, rfl⟩]
  have sy : giC S4 (y + 3) 0 = giC S1 (y + 3) 0 := by
    unfold giC
    rw [k4.fr _ yy.1.2.2.1.1 (cyn 3 (by omega))]
  have w5 := h5.ci.wf.w0 h5.k1
  have y5 := h5.ci.wf.w0 (ky.n h5.en)
  have wx5 := h5.ci.wf.w5 w5.1.2.2.1
  have wy5 := h5.ci.wf.w5 y5.1.2.2.1
  obtain ⟨S6, T6, c6, g6, k6, B6, s6⟩ := B5.cp h5 h.ci ky ny (g0 := 1) (by omega) (by simp)
  have g6 : f_Y0_copy (siC S4 (x + 3) 0 (giC S4 (y + 3) 0)) x (y + 3 + 1) (x + 3 + 1) = (0, S6) := g6
  obtain ⟨S7, T7, c7, j7, g7, k7', B7, s7⟩ := bec_l h.ci ky ny 100000 S6 T6 c6 0 k6 (by rw [i0]; omega) (by rw [i0]; omega) (by rw [i0]; omega) (B6.mo (fun g hg => by rw [zn0]; simp; omega)) ⟨by rw [s6 _ (Or.inl rfl), hv5, sy], fun p hp => by rw [zn0] at hp; omega⟩
  obtain ⟨S8, c8, g8, k8, r8⟩ := abec_v k7' B7 s7 h.ci ky ny r h10 j7
  have eF : f_Y0_become S1 x y = (0, S8) := by
    unfold f_Y0_become b_Y0_become_4a
    rw [f1]
    simp only
    rw [w2.2.1.1, y2.2.1.1]
    simp only [Option.getD_some]
    rw [g1]
    unfold b_Y0_become_15a
    simp only
    rw [w3.2.1.2.1, y3.2.1.2.1]
    simp only [Option.getD_some]
    rw [g4]
    unfold b_Y0_become_27a
    simp only
    rw [w4.2.1.2.2.1, y4.2.1.2.2.1]
    simp only [Option.getD_some]
    rw [w5.2.1.2.2.1, y5.2.1.2.2.1]
    simp only [Option.getD_some]
    rw [wx5.2, wy5.2]
    unfold b_Y0_become_56a
    simp only [Option.getD_some]
    rw [g6]
    unfold b_Y0_become_59a
    exact g7.trans g8
  obtain ⟨v', S9, T9, c9, f9, -, a9, -⟩ := y_abecome h ky ny hy
  obtain ⟨-, rfl⟩ := Prod.mk.inj (eF.symm.trans f9)
  exact ⟨S8, T9, c9, eF, a9, RR.tP r8 (fun g hg => T_eq a9.ci k8.ci (rP_k a9.ci.wf a9.k1 hg))⟩
/-- another assembly stands -/
theorem RR.og (r : RR wF N S T y H) (ci : CI noE S T [] col) (ky : iK S y 0) (en : eN S S2) (wf2 : wfS S2) (fr : ∀ q, q < S.1 → col q = y → S2.2.2 q = S.2.2 q) (ft : ∀ c, c < S.1 → col c = y → T2 c = T c) (sv2 : sV S2) : RR wF N S2 T2 y H := by
  have w0 := ci.wf.w0 ky
  have cy : ∀ r, r < 40 → col (y + r) = y := fun r hr => ci.c0 y ky r hr
  have gi : ∀ j k, j < 40 → (∃ c, iK S (y + j) c) → giC S2 (y + j) k = giC S (y + j) k := fun j k hj ⟨c, kk⟩ => by
    unfold giC
    rw [fr _ kk.1 (cy j hj)]
  have w1 := ci.wf.w1 w0.1.1
  have k12 : iK S (y + 12) 20 := (ci.wf.w6 w0.1.2.2.2.2.2.2).1.1
  have te : ∀ g, g < 10 → T2 (rP y g) = T (rP y g) := fun g hg => by
    obtain ⟨j, hj, e⟩ := (rP_own (x := y) hg).1.lt
    exact ft _ (rP_k ci.wf ky hg).1 (by rw [e]; exact cy j hj)
  have cg : ∀ g, g < 10 → col (rP y g) = y := fun g hg => by
    obtain ⟨j, hj, e⟩ := (rP_own (x := y) hg).1.lt
    rw [e]
    exact cy j hj
  have hQ : mQ T y S S2 := fun g hg q m j hj k => by
    have kq := ci.tk _ q m
    have W := W3k ci.wf kq.1
    have b : q + j < S.1 := by
      rcases (show j = 0 ∨ j = 1 ∨ j = 2 ∨ j = 3 by omega) with rfl | rfl | rfl | rfl
      · exact kq.1.1
      · exact W.1.1
      · exact W.2.1.1
      · exact W.2.2.1
    unfold giC
    rw [fr _ b (by rw [ci.c3 q kq.1 j hj, kq.2, cg g hg])]
  have so : ∀ d, pl y d → giC S2 d 0 = giC S d 0 := fun d o => by
    have k := pl.lt ci ky o
    obtain ⟨j, hj, e⟩ := o.o.2.2
    unfold giC
    rw [fr _ k.1 (by rw [e]; exact cy j hj)]
  have s := sH.rf H
  obtain ⟨rh, rw', ro, ⟨⟨a1, a2, a3⟩, ⟨e1, e2, e3⟩, ⟨f1, f2⟩, o7, o9, d3, d4, d5, d6⟩, ⟨⟨⟨q7, q8⟩, q9, qa, qb, qc⟩, rs⟩, rn⟩ := r
  have k7 : iK S (y + 7) 2 := w0.1.2.2.2.2.1
  have k9 : iK S (y + 9) 2 := w0.1.2.2.2.2.2.1
  have z7 := (ci.wf.w2 k7).2.1.2
  have z9 := (ci.wf.w2 k9).2.1.2
  have g7 := fun k => gi 7 k (by omega) ⟨_, k7⟩
  have g9 := fun k => gi 9 k (by omega) ⟨_, k9⟩
  have r7 : grC S2 (y + 7) 2 = grC S (y + 7) 2 := by unfold grC; rw [fr _ k7.1 (cy 7 (by omega))]
  have r9 : grC S2 (y + 9) 2 = grC S (y + 9) 2 := by unfold grC; rw [fr _ k9.1 (cy 9 (by omega))]
  have gz7 : ∀ k, giC S2 ((grC S (y + 7) 2).getD 0) k = giC S ((grC S (y + 7) 2).getD 0) k := fun k => by unfold giC; rw [fr _ z7.1 ((ci.c2 _ k7).trans (cy 7 (by omega)))]
  have gz9 : ∀ k, giC S2 ((grC S (y + 9) 2).getD 0) k = giC S ((grC S (y + 9) 2).getD 0) k := fun k => by unfold giC; rw [fr _ z9.1 ((ci.c2 _ k9).trans (cy 9 (by omega)))]
  have l7 : lcl S2 (y + 7) = lcl S (y + 7) := by unfold lcl; rw [r7]; exact (en.2 _ z7.1).2
  have l9 : lcl S2 (y + 9) = lcl S (y + 9) := by unfold lcl; rw [r9]; exact (en.2 _ z9.1).2
  have oz' : ∀ l, l = y + 7 ∨ l = y + 9 → grC S2 l 2 = grC S l 2 → (grC S l 2).getD 0 < S.1 → oz S l → oz S2 l := fun l _ e b o q k => by
    rw [e]
    by_cases y : q < S.1
    · exact o q ⟨y, by rw [← (en.2 q y).1]; exact k.2⟩
    · omega
  have g0 := fun k => gi 0 k (by omega) ⟨_, ky⟩
  have g11 := fun k => gi 11 k (by omega) ⟨_, w0.1.2.2.2.2.2.2⟩
  have g12 := fun k => gi 12 k (by omega) ⟨_, k12⟩
  have g37 := fun k => gi 37 k (by omega) ⟨_, w0.1.1⟩
  have g38 := fun k => gi 38 k (by omega) ⟨_, w1.1.1⟩
  have g39 := fun k => gi 39 k (by omega) ⟨_, w1.1.2.2.1⟩
  have g0 : ∀ k, giC S2 y k = giC S y k := g0
  obtain ⟨⟨p0, p1, p2, p3, p4, p5⟩, p6, p7, p8⟩ := rh
  have big : RR wF N S2 T y H := ⟨⟨⟨(g37 0).trans p0, (g37 2).trans p1, (g37 3).trans p2, (g37 4).trans p3, (g37 5).trans p4, (g37 6).trans p5⟩, fun s h1 h2 => (g38 s).trans (p6 s h1 h2), fun k hk => (g39 k).trans (p7 k hk), p8⟩, rw'.cg s (fun _ _ => rfl) hQ, ro.cg rw' s (fun _ _ => rfl) hQ (so _ (Or.inl rfl)) (fun p hp => so _ (Or.inr ⟨p, hp, rfl⟩)), ⟨⟨(g7 3).trans a1, by rw [l7]; exact a2, fun i j hi hj => by rw [r7, gz7]; exact a3 i j hi hj⟩, ⟨(g9 3).trans e1, by rw [l9]; exact e2, fun i j hi hj => by rw [r9, gz9]; exact e3 i j hi hj⟩, ⟨(g7 0).trans f1, (g9 0).trans f2⟩, oz' _ (Or.inl rfl) r7 z7.1 o7, oz' _ (Or.inr rfl) r9 z9.1 o9, by rw [r7, r9]; exact d3, by rw [r7]; exact d4, by rw [r9]; exact d5, fun i hi => by rw [r7, gz7]; exact d6 i hi⟩, ⟨⟨⟨(g0 7).trans q7, fun w => (g0 9).trans (q8 w)⟩, q9, fun e => ⟨(qa e).1, (g11 1).trans (qa e).2⟩, fun e => (g11 1).trans (qb e), fun i hi => (g12 i).trans (qc i hi)⟩, sv2, rs.2⟩, rn.cg rw' s (fun _ _ => rfl) hQ (g0 8)⟩
  exact big.tP te
theorem RR.oth (r : RR wF N S T y H) (ci : CI noE S T [] col) (ky : iK S y 0) (ny : y ≠ x) (g : Sst noE x S T [] col S2 T2 [] c2) (sv2 : sV S2) : RR wF N S2 T2 y H := r.og ci ky g.en g.ci.wf (fun q a e => g.fr q a (by rw [e]; exact ny)) (fun c a e => g.ft c a (by rw [e]; exact ny)) sv2
theorem jS.og (j : jS S y) (ci : CI noE S T [] col) (ky : iK S y 0) (en : eN S S2) (fr : ∀ q, q < S.1 → col q = y → S2.2.2 q = S.2.2 q) : jS S2 y := by
  have w0 := ci.wf.w0 ky
  have cy : ∀ r, r < 40 → col (y + r) = y := fun r hr => ci.c0 y ky r hr
  have k7 : iK S (y + 7) 2 := w0.1.2.2.2.2.1
  have k9 : iK S (y + 9) 2 := w0.1.2.2.2.2.2.1
  have z7 := (ci.wf.w2 k7).2.1.2
  have z9 := (ci.wf.w2 k9).2.1.2
  obtain ⟨⟨f1, f2⟩, o7, o9, d3, d4, d5⟩ := j
  have e7 := fr _ k7.1 (cy 7 (by omega))
  have e9 := fr _ k9.1 (cy 9 (by omega))
  have r7 : grC S2 (y + 7) 2 = grC S (y + 7) 2 := by unfold grC; rw [e7]
  have r9 : grC S2 (y + 9) 2 = grC S (y + 9) 2 := by unfold grC; rw [e9]
  have oz' : ∀ l, grC S2 l 2 = grC S l 2 → (grC S l 2).getD 0 < S.1 → oz S l → oz S2 l := fun l e b o q k => by
    rw [e]
    by_cases y : q < S.1
    · exact o q ⟨y, by rw [← (en.2 q y).1]; exact k.2⟩
    · omega
  refine ⟨⟨?_, ?_⟩, oz' _ r7 z7.1 o7, oz' _ r9 z9.1 o9, by rw [r7, r9]; exact d3, by rw [r7]; exact d4, by rw [r9]; exact d5⟩
  · unfold giC
    rw [e7]
    exact f1
  · unfold giC
    rw [e9]
    exact f2
end
