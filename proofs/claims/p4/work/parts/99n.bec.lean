/-! ===== an assembly becomes another one ===== -/
section
variable {x y : Nat} {S S1 S2 S3 : Cst} {T T1 T2 : Nat → List Nat} {F F1 : List Nat} {col c1 c2 ck : Nat → Nat} {Sk : Cst} {Tk : Nat → List Nat}
theorem ab_124 (hk : Sst noE x S1 T1 [] c1 Sk Tk [] ck) (ky : iK S1 y 0) (i : Int32) : ∃ S4 c4, b_Y0_become_124a ((f_Y3_become Sk (x + 7) (y + 7)).2) x y i = (0, S4) ∧ (∀ lc ls, S4.1 ≤ lc → S4.2.1 ≤ ls → ((Sk.1 ≤ (f_Y3_become Sk (x + 7) (y + 7)).2.1 ∧ (f_Y3_become Sk (x + 7) (y + 7)).2.1 ≤ lc) ∧ (Sk.2.1 ≤ (f_Y3_become Sk (x + 7) (y + 7)).2.2.1 ∧ (f_Y3_become Sk (x + 7) (y + 7)).2.2.1 ≤ ls)) ∧ (p_Y3_become Sk (x + 7) (y + 7) (f_Y3_become Sk (x + 7) (y + 7)).2.1 (f_Y3_become Sk (x + 7) (y + 7)).2.2.1) ∧ (q_Y0_become_124a ((f_Y3_become Sk (x + 7) (y + 7)).2) x y lc ls i)) ∧ Sst noE x S1 T1 [] c1 S4 Tk [] c4 ∧ gP Sk S4 := by
  have w0 := hk.ci.wf.w0 hk.k1
  have y0 := hk.ci.wf.w0 (ky.n hk.en)
  obtain ⟨S2, c2, f1, p1, g1, _⟩ := w_ledBecome hk.ci w0.1.2.2.2.2.1 y0.1.2.2.2.2.1
  have h2 := hk.led (Or.inl rfl) g1
  have w2 := h2.ci.wf.w0 h2.k1
  have y2 := h2.ci.wf.w0 (ky.n h2.en)
  obtain ⟨S3, c3, f2, p2, g2, _⟩ := w_ledBecome h2.ci w2.1.2.2.2.2.2.1 y2.1.2.2.2.2.2.1
  have h3 := h2.led (Or.inr rfl) g2
  have w3 := h3.ci.wf.w0 h3.k1
  have y3 := h3.ci.wf.w0 (ky.n h3.en)
  obtain ⟨p3, S4, f3, h4, g3, e3, _⟩ := y_tBecome h3 w3.1.2.2.2.2.2.2 (h3.cx 11 (by omega)) (h3.cx 12 (by omega)) y3.1.2.2.2.2.2.2
  have k12 := (h3.ci.wf.w6 w3.1.2.2.2.2.2.2).1.1
  have gp3 : gP S3 S4 := g3.p (fun z _ y e => by
      rcases y with y | y <;> rw [y] at e
      · have := w3.1.2.2.2.2.2.2.2; omega
      · have := k12.2; omega) (fun z _ y e => by
      rcases y with y | y <;> rw [y] at e
      · have := w3.1.2.2.2.2.2.2.2; omega
      · have := k12.2; omega)
  have u := (((QU.rf h4).aI 7 (giC S4 y 7)).aI 8 (giC (siC S4 x 7 (giC S4 y 7)) y 8)).aI 9 0
  rw [f1]
  unfold b_Y0_become_124a q_Y0_become_124a b_Y0_become_135a q_Y0_become_135a b_Y0_become_146a q_Y0_become_146a
  simp only
  rw [w2.2.1.2.2.2.2.2.1, y2.2.1.2.2.2.2.2.1]
  simp only [Option.getD_some, ir_so]
  rw [f2]
  simp only
  rw [w3.2.1.2.2.2.2.2.2, y3.2.1.2.2.2.2.2.2]
  simp only [Option.getD_some, ir_so]
  rw [f3]
  refine ⟨_, c3, rfl, fun lc ls A B => ⟨⟨⟨g1.2.1.1.1, ?_⟩, g1.2.1.1.2, ?_⟩, p1 _ _ (Nat.le_refl _) (Nat.le_refl _), w2.1.2.2.2.2.2.1, y2.1.2.2.2.2.2.1, ⟨⟨g2.2.1.1.1, ?_⟩, g2.2.1.1.2, ?_⟩, p2 _ _ (Nat.le_refl _) (Nat.le_refl _), w3.1.2.2.2.2.2.2, y3.1.2.2.2.2.2.2, p3, trivial⟩, u.1, ((g1.p w0.1.2.2.2.2.1 hk.ci.wf).tr (g2.p w2.1.2.2.2.2.2.1 h2.ci.wf)).tr (gp3.tr u.2.1)⟩
  · exact Nat.le_trans (g2.2.1.tr (g3.1.tr u.2.2.n)).1.1 A
  · exact Nat.le_trans (g2.2.1.tr (g3.1.tr u.2.2.n)).1.2 B
  · exact Nat.le_trans (g3.1.tr u.2.2.n).1.1 A
  · exact Nat.le_trans (g3.1.tr u.2.2.n).1.2 B
/-- so far copied: what is pending, the draft, the first n places -/
def JB (x y : Nat) (S1 : Cst) (T1 : Nat → List Nat) (n : Nat) (Sk : Cst) (Tk : Nat → List Nat) : Prop := ((Tk (x + 1)).length = (T1 (y + 1)).length ∧ kC S1 (T1 (y + 1)) Sk (Tk (x + 1))) ∧ (giC Sk (x + 3) 0 = giC S1 (y + 3) 0 ∧ (Tk (x + 4)).length = (T1 (y + 4)).length) ∧ (∀ p, p < n → giC Sk (x + 13 + 3 * p) 0 = giC S1 (y + 13 + 3 * p) 0 ∧ (Tk (x + 13 + 3 * p + 1)).length = (T1 (y + 13 + 3 * p + 1)).length) ∧ ∀ p, n ≤ p → p < 8 → Tk (x + 13 + 3 * p + 1) = []
theorem kC_c (h : CI noE S2 T2 F1 c2) {L L' : List Nat} {c : Nat} (k : kC S1 L S2 L') (e : L' = T2 c) (g : gP S2 S3) : kC S1 L S3 L' := fun q m => by
  obtain ⟨z, m', e'⟩ := k q m
  rw [e] at m
  exact ⟨z, m', (g.2.2 q (h.tk c q m).1.1 (h.tk c q m).1.2).trans e'⟩
theorem JB.g (j : JB x y S1 T1 8 Sk Tk) (hk : CI noE Sk Tk [] ck) (kx : iK Sk x 0) (g : gP Sk S3) : JB x y S1 T1 8 S3 Tk := by
  refine ⟨⟨j.1.1, kC_c hk j.1.2 rfl g⟩, ⟨?_, j.2.1.2⟩, fun p hp => ⟨?_, (j.2.2.1 p hp).2⟩, j.2.2.2⟩
  · have k := (show pl x (x + 3) from Or.inl rfl).lt hk kx
    exact (g.2.1 _ k.1 k.2).trans j.2.1.1
  · have k := (show pl x (x + 13 + 3 * p) from Or.inr ⟨p, hp, rfl⟩).lt hk kx
    exact (g.2.1 _ k.1 k.2).trans (j.2.2.1 p hp).1
theorem JB.pi (j : JB x y S1 T1 8 Sk Tk) (hy : PI S1 T1 y) : PI Sk Tk x := by
  have hf : fcU Sk x 8 = fcU S1 y 8 := by
    have : ∀ n, n ≤ 8 → fcU Sk x n = fcU S1 y n := by
      intro n
      induction n with
      | zero => intro _; rfl
      | succ n ih =>
        intro hn
        rw [fcU, fcU, ih (by omega), (j.2.2.1 n (by omega)).1]
    exact this 8 (Nat.le_refl _)
  have hn : nd Sk (Tk (x + 1)) → nd S1 (T1 (y + 1)) := fun ⟨q, m, n⟩ => by
    obtain ⟨z, m', e⟩ := j.1.2 q m
    rw [e] at n
    exact ⟨z, m', n⟩
  have nl : ∀ {a b : List Nat}, a.length = b.length → b = [] → a = [] := fun h e => by
    rw [e] at h
    exact List.eq_nil_of_length_eq_zero h
  refine ⟨fun d o => ?_, fun n => ?_, fun n => ?_, fun n m => ?_⟩
  · rcases o with rfl | ⟨p, hp, rfl⟩
    · have A := hy.1 (y + 3) (Or.inl rfl)
      rw [j.2.1.1]
      exact ⟨fun z => nl j.2.1.2 (A.1 z), fun z => by rw [show x + 3 + 1 = x + 4 by omega, j.2.1.2]; exact A.2.1 z, A.2.2.1, fun _ => A.2.2.2 rfl⟩
    · have A := hy.1 (y + 13 + 3 * p) (Or.inr ⟨p, hp, rfl⟩)
      obtain ⟨e1, e2⟩ := j.2.2.1 p hp
      rw [e1]
      exact ⟨fun z => nl e2 (A.1 z), fun z => by rw [e2]; exact A.2.1 z, A.2.2.1, fun z => by omega⟩
  · rw [hf]
    exact hy.2.1 (hn n)
  · rw [hf]
    rw [j.2.1.1] at n
    exact hy.2.2.1 n
  · rw [hf]
    rw [j.2.1.1] at m
    exact hy.2.2.2 (hn n) m
theorem become_lp (ky : iK S1 y 0) (ny : y ≠ x) (h0 : CI noE S1 T1 [] c1) (hy : PI S1 T1 y) : ∀ (n : Nat) (Sk : Cst) (Tk : Nat → List Nat) (ck : Nat → Nat) (i : Int32), Sst noE x S1 T1 [] c1 Sk Tk [] ck → 0 ≤ i.toInt → i.toInt ≤ 8 → 8 - i.toInt < n → JB x y S1 T1 i.toNatClampNeg Sk Tk → ∃ S2 T2 c2, lp_Y0_become_61 x y n Sk i = (0, S2) ∧ (∀ lc ls, S2.1 ≤ lc → S2.2.1 ≤ ls → lq_Y0_become_61 x y lc ls n Sk i) ∧ Sst noE x S1 T1 [] c1 S2 T2 [] c2 ∧ JB x y S1 T1 8 S2 T2 ∧ eN Sk S2 := by
  intro n
  induction n with
  | zero => intro Sk Tk ck i hk h1 h2 h3; omega
  | succ n ih =>
    intro Sk Tk ck i hk h1 h2 h3 j
    have kyk := ky.n hk.en
    have hn := iNat h1
    have w0 := hk.ci.wf.w0 hk.k1
    have y0 := hk.ci.wf.w0 kyk
    rw [lp_Y0_become_61]
    simp only [lq_Y0_become_61]
    unfold ps_Y0_become_61 st_Y0_become_61
    by_cases c : i.toInt = 8
    · have c8 : 8 ≤ i := iLe.mpr (by rw [e8]; omega)
      simp only [if_pos c8]
      rw [w0.2.1.2.2.2.2.1, y0.2.1.2.2.2.2.1]
      simp only [Option.getD_some, ir_so]
      obtain ⟨S4, c4, f, p, g1, g2⟩ := ab_124 hk ky i
      rw [show i.toNatClampNeg = 8 by omega] at j
      exact ⟨S4, Tk, c4, f, fun lc ls A B => ⟨⟨w0.1.2.2.2.2.1, y0.1.2.2.2.2.1, p lc ls A B⟩, trivial⟩, g1, j.g hk.ci hk.k1 g2, g2.1⟩
    · have c8 : ¬ 8 ≤ i := fun z => by have := iLe.mp z; rw [e8] at this; omega
      simp only [if_neg c8]
      have hp : i.toNatClampNeg < 8 := by omega
      have dx := dk_ix hk.ci.wf hk.k1 hp
      have dy := dk_ix hk.ci.wf kyk hp
      have lx := dk_ln hk.ci.wf hk.k1
      have ly := dk_ln hk.ci.wf kyk
      have vi : vp_in i 8 := vIn h1 (by omega)
      have i3x := g0_3 hk.ci.wf hk.k1
      have i3y := g0_3 hk.ci.wf kyk
      rw [dx.1, dy.1, lx, ly]
      simp only [Option.getD_some, ir_so]
      have o : pl x (x + 13 + 3 * i.toNatClampNeg) := Or.inr ⟨_, hp, rfl⟩
      have h2' := hk.sort o (giC Sk (y + 13 + 3 * i.toNatClampNeg) 0)
      have ek : eK Sk (siC Sk (x + 13 + 3 * i.toNatClampNeg) 0 (giC Sk (y + 13 + 3 * i.toNatClampNeg) 0)) := eK.si ..
      have hS : ∀ q k, q ≠ x + 13 + 3 * i.toNatClampNeg → giC (siC Sk (x + 13 + 3 * i.toNatClampNeg) 0 (giC Sk (y + 13 + 3 * i.toNatClampNeg) 0)) q k = giC Sk q k := fun q k z => by rw [gi_si, if_neg (fun w => z w.1)]
      have hv : giC (siC Sk (x + 13 + 3 * i.toNatClampNeg) 0 (giC Sk (y + 13 + 3 * i.toNatClampNeg) 0)) (x + 13 + 3 * i.toNatClampNeg) 0 = giC Sk (y + 13 + 3 * i.toNatClampNeg) 0 := by rw [gi_si, if_pos ⟨rfl, rfl⟩]
      generalize siC Sk (x + 13 + 3 * i.toNatClampNeg) 0 (giC Sk (y + 13 + 3 * i.toNatClampNeg) 0) = Sm at h2' ek hS hv ⊢
      have kym := kyk.e ek
      have dx2 := dk_ix h2'.ci.wf h2'.k1 hp
      have dy2 := dk_ix h2'.ci.wf kym hp
      have lx2 := dk_ln h2'.ci.wf h2'.k1
      have ly2 := dk_ln h2'.ci.wf kym
      have i3x2 := g0_3 h2'.ci.wf h2'.k1
      have i3y2 := g0_3 h2'.ci.wf kym
      rw [dx2.1, dy2.1, lx2, ly2]
      simp only [Option.getD_some, ir_so]
      have wx := h2'.ci.wf.w5 dx2.2
      have wy := h2'.ci.wf.w5 dy2.2
      rw [wx.2, wy.2]
      have cy : ck (y + 13 + 3 * i.toNatClampNeg + 1) = y := by
        rw [show y + 13 + 3 * i.toNatClampNeg + 1 = y + (14 + 3 * i.toNatClampNeg) by omega]
        exact hk.ci.c0 y kyk _ (by omega)
      obtain ⟨S3, T3, c3, f, p, g1, g2, g3, g4, g5, g6⟩ := y_copy h2'.ci h2'.k1 wy.1 (by rw [cy]; exact ny) o.o.1 o.o.2.1 (j.2.2.2 _ (Nat.le_refl _) hp)
      unfold b_Y0_become_104a q_Y0_become_104a b_Y0_become_107a q_Y0_become_107a
      simp only [Option.getD_some, ir_so]
      rw [f]
      have e1 := iAdd (x := i) (y := 1) (by rw [i1]; omega) (by rw [i1]; omega)
      rw [i1] at e1
      have hn1 := iNat (x := i + 1) (by omega)
      have es : (i + 1).toNatClampNeg = i.toNatClampNeg + 1 := by omega
      -- values of y as they were
      have fr : ∀ q, q < S1.1 → c1 q ≠ x → Sk.2.2 q = S1.2.2 q := hk.fr
      have cyj : ∀ r, r < 40 → c1 (y + r) = y := fun r hr => h0.c0 y ky r hr
      have kyp : ∀ p, p < 8 → iK S1 (y + 13 + 3 * p) 5 := fun p hp => (dk_ix h0.wf ky hp).2
      have kyq : ∀ p, p < 8 → iK S1 (y + 13 + 3 * p + 1) 4 := fun p hp => (h0.wf.w5 (kyp p hp)).1
      have sy : giC Sk (y + 13 + 3 * i.toNatClampNeg) 0 = giC S1 (y + 13 + 3 * i.toNatClampNeg) 0 := by
        unfold giC
        rw [fr _ (kyp _ hp).1 (by rw [show y + 13 + 3 * i.toNatClampNeg = y + (13 + 3 * i.toNatClampNeg) by omega, cyj _ (by omega)]; exact ny)]
      have ty : Tk (y + 13 + 3 * i.toNatClampNeg + 1) = T1 (y + 13 + 3 * i.toNatClampNeg + 1) := hk.ft _ (kyq _ hp).1 (by rw [show y + 13 + 3 * i.toNatClampNeg + 1 = y + (14 + 3 * i.toNatClampNeg) by omega, cyj _ (by omega)]; exact ny)
      have ks : ∀ d, pl x d → giC S3 d 0 = giC Sm d 0 := fun d od => g2.2.1 d (od.lt h2'.ci h2'.k1).1 (od.lt h2'.ci h2'.k1).2
      have J2 : JB x y S1 T1 (i + 1).toNatClampNeg S3 T3 := by
        rw [es]
        refine ⟨⟨?_, fun q m => ?_⟩, ⟨?_, ?_⟩, fun p hp' => ?_, fun p a b => ?_⟩
        · rw [g5 _ (by omega) (by omega)]
          exact j.1.1
        · rw [g5 _ (by omega) (by omega)] at m
          obtain ⟨z, m', e'⟩ := j.1.2 q m
          refine ⟨z, m', ?_⟩
          have kq := (hk.ci.tk _ _ m).1
          have kp5 := o.lt hk.ci hk.k1
          rw [(g2.2.2 (x + 1) q (by omega) m).2, hS q 2 (fun w => by have := kq.2; rw [w, kp5.2] at this; omega)]
          exact e'
        · rw [ks _ (Or.inl rfl), hS _ _ (by omega)]
          exact j.2.1.1
        · rw [g5 _ (by omega) (by omega)]
          exact j.2.1.2
        · by_cases e : p = i.toNatClampNeg
          · rw [e]
            exact ⟨by rw [ks _ o, hv, sy], by rw [g3, ty]⟩
          · have J := j.2.2.1 p (by omega)
            rw [ks _ (Or.inr ⟨p, by omega, rfl⟩), hS _ _ (by omega), g5 _ (by omega) (by omega)]
            exact J
        · rw [g5 _ (by omega) (by omega)]
          exact j.2.2.2 p (by omega) b
      obtain ⟨S5, T5, c5, l1, l2, l3, l4, l5⟩ := ih S3 T3 c3 (i + 1) (h2'.tr g1) (by omega) (by omega) (by omega) J2
      refine ⟨S5, T5, c5, l1, fun lc ls A B => ⟨⟨i3x, vi, i3y, vi, dy.2, dx.2, i3y2, vi, dy2.2, i3x2, vi, dx2.2, wy.1, wx.1, ⟨⟨g6.1.1, Nat.le_trans l5.1.1 A⟩, g6.1.2, Nat.le_trans l5.1.2 B⟩, p _ _ (Nat.le_refl _) (Nat.le_refl _), trivial⟩, l2 lc ls A B⟩, l3, l4, (ek.n.tr g6).tr l5⟩
theorem y_abecome (h : Sst noE x S T [] col S1 T1 [] c1) (ky : iK S1 y 0) (ny : y ≠ x) (hy : PI S1 T1 y) : am x S T col S1 (fun lc ls => p_Y0_become S1 x y lc ls) (f_Y0_become S1 x y) := by
  have h1 : Sst noE x S1 T1 [] c1 S1 T1 [] c1 := Sst.rf h.ci h.k1 (fun q m => by cases m)
  have o3 : pl x (x + 3) := Or.inl rfl
  have cyj : ∀ r, r < 40 → c1 (y + r) = y := fun r hr => h.ci.c0 y ky r hr
  have cyn : ∀ r, r < 40 → c1 (y + r) ≠ x := fun r hr => by rw [cyj r hr]; exact ny
  obtain ⟨p1, S2, T2, f1, f2, f3, f4⟩ := y_clear noE_n h1
  have w2 := f2.ci.wf.w0 f2.k1
  have y2 := f2.ci.wf.w0 (ky.n f2.en)
  obtain ⟨p2, v, S3, g1, u3⟩ := y_hbecome f2 (ky.n f2.en)
  have h3 := u3.1
  have w3 := u3.w0
  have y3 := h3.ci.wf.w0 (ky.n h3.en)
  have yy := h.ci.wf.w0 ky
  have yk1 : iK S1 (y + 1) 4 := yy.1.2.1
  have yk3 : iK S1 (y + 3) 5 := yy.1.2.2.1
  have yk4 : iK S1 (y + 4) 4 := (h.ci.wf.w5 yk3).1
  -- what is pending
  obtain ⟨S4, T4, c4, g4, q4, k4, W4, l4, K4, F4, e4⟩ := y_copy h3.ci h3.k1 y3.1.2.1 (by rw [f2.cl _ yk1.1]; exact cyn 1 (by omega)) (P := x + 1) (Or.inr (Or.inl rfl)) (by omega) f4.1
  have h4 := h3.tr k4
  have w4 := h4.ci.wf.w0 h4.k1
  have y4 := h4.ci.wf.w0 (ky.n h4.en)
  -- the draft's sort
  have h5 := h4.sort o3 (giC S4 (y + 3) 0)
  have ek5 : eK S4 (siC S4 (x + 3) 0 (giC S4 (y + 3) 0)) := eK.si ..
  have hS5 : ∀ q k, q ≠ x + 3 → giC (siC S4 (x + 3) 0 (giC S4 (y + 3) 0)) q k = giC S4 q k := fun q k z => by rw [gi_si, if_neg (fun w => z w.1)]
  have hv5 : giC (siC S4 (x + 3) 0 (giC S4 (y + 3) 0)) (x + 3) 0 = giC S4 (y + 3) 0 := by rw [gi_si, if_pos ⟨rfl, rfl⟩]
  have w5 := h5.ci.wf.w0 h5.k1
  have y5 := h5.ci.wf.w0 (ky.n h5.en)
  have wx5 := h5.ci.wf.w5 w5.1.2.2.1
  have wy5 := h5.ci.wf.w5 y5.1.2.2.1
  have T4x : T4 (x + 3 + 1) = [] := by rw [F4 _ (by omega) (by omega)]; exact f4.2.1
  obtain ⟨S6, T6, c6, g6, q6, k6, W6, l6, K6, F6, e6⟩ := y_copy h5.ci h5.k1 wy5.1 (by rw [h4.cl _ yk4.1]; exact cyn 4 (by omega)) (P := x + 3 + 1) o3.o.1 o3.o.2.1 T4x
  have h6 := h5.tr k6
  have J : JB x y S1 T1 0 S6 T6 := by
    refine ⟨⟨?_, fun q m => ?_⟩, ⟨?_, ?_⟩, fun p hp => by omega, fun p _ hp => ?_⟩
    · rw [F6 _ (by omega) (by omega), l4, f2.ft _ yk1.1 (cyn 1 (by omega))]
    · rw [F6 _ (by omega) (by omega)] at m
      obtain ⟨z, m', e'⟩ := K4 q m
      rw [f2.ft _ yk1.1 (cyn 1 (by omega))] at m'
      have kz := h.ci.tk _ _ m'
      have kq := (h4.ci.tk _ _ m).1
      have k5 := o3.lt h4.ci h4.k1
      refine ⟨z, m', ?_⟩
      rw [(W6.2.2 (x + 1) q (by omega) m).2, hS5 q 2 (fun w => by have := kq.2; rw [w, k5.2] at this; omega), e']
      have e := h3.fr z kz.1.1 (by rw [kz.2]; exact cyn 1 (by omega))
      unfold giC
      rw [e]
    · have k5 := o3.lt h5.ci h5.k1
      rw [W6.2.1 _ k5.1 k5.2, hv5]
      have e := h4.fr (y + 3) yk3.1 (cyn 3 (by omega))
      unfold giC
      rw [e]
    · rw [show x + 4 = x + 3 + 1 by omega, l6, show y + 3 + 1 = y + 4 by omega, h4.ft _ yk4.1 (cyn 4 (by omega))]
    · rw [F6 _ (by omega) (by omega), F4 _ (by omega) (by omega), show x + 13 + 3 * p + 1 = x + 14 + 3 * p by omega]
      exact (f4.2.2.2 p hp).2
  obtain ⟨S7, T7, c7, g7, q7, k7, J7, e7⟩ := become_lp ky ny h.ci hy 100000 S6 T6 c6 0 h6 (by rw [i0]; omega) (by rw [i0]; omega) (by rw [i0]; omega) J
  unfold p_Y0_become f_Y0_become q_Y0_become_4a b_Y0_become_4a
  rw [f1]
  simp only
  rw [w2.2.1.1, y2.2.1.1]
  simp only [Option.getD_some, ir_so]
  rw [g1]
  unfold q_Y0_become_15a b_Y0_become_15a
  simp only
  rw [w3.2.1.2.1, y3.2.1.2.1]
  simp only [Option.getD_some, ir_so]
  rw [g4]
  unfold q_Y0_become_27a b_Y0_become_27a
  simp only
  rw [w4.2.1.2.2.1, y4.2.1.2.2.1]
  simp only [Option.getD_some, ir_so]
  rw [w5.2.1.2.2.1, y5.2.1.2.2.1]
  simp only [Option.getD_some, ir_so]
  rw [wx5.2, wy5.2]
  unfold q_Y0_become_56a b_Y0_become_56a
  simp only [Option.getD_some, ir_so]
  rw [g6]
  unfold q_Y0_become_59a b_Y0_become_59a
  refine ⟨0, S7, T7, c7, g7, fun lc ls A B => ⟨p1, w2.1.1, y2.1.1, p2, y3.1.2.1, w3.1.2.1, ⟨⟨e4.1.1, ?_⟩, e4.1.2, ?_⟩, q4 _ _ (Nat.le_refl _) (Nat.le_refl _), y4.1.2.2.1, w4.1.2.2.1, y5.1.2.2.1, w5.1.2.2.1, wy5.1, wx5.1, ⟨⟨e6.1.1, ?_⟩, e6.1.2, ?_⟩, q6 _ _ (Nat.le_refl _) (Nat.le_refl _), q7 lc ls A B⟩, ⟨h.tr k7, J7.pi hy⟩, k7.en⟩
  · exact Nat.le_trans ((ek5.n.tr e6).tr e7).1.1 A
  · exact Nat.le_trans ((ek5.n.tr e6).tr e7).1.2 B
  · exact Nat.le_trans e7.1.1 A
  · exact Nat.le_trans e7.1.2 B
end
