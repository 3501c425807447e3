/-! ===== the deeds: what is carried alone: a MAIN, a CLOSE, a RECESS ===== -/
section
variable {wF : Prop × (Nat → Int32) × Int32 × (Nat → Int32)} {E : Nat → Prop} {x : Nat} {S S1 S2 S3 : Cst} {T T1 T2 T3 : Nat → List Nat} {F F1 : List Nat} {col c1 c2 c3 : Nat → Nat} {H H2 H3 G : HS} {N N2 M M2 : Int} {D : Nat → Prop} {v : Int32}
/-- neither motions nor places nor ledgers written -/
theorem RR.fr (r : RR wF N S1 T1 x H) (ci : CI noE S1 T1 [] c1) (kx : iK S1 x 0) (g : gX D S1 S2) (n1 : S2.1 = S1.1) (s : sH H2 H) (hm : ∀ q, iK S1 q 3 → ∀ j, j < 4 → ¬ D (q + j)) (h5 : ∀ d, pl x d → ¬ D d) (nl : ∀ l, l = x + 7 ∨ l = x + 9 → ¬ D l ∧ ¬ D ((grC S1 l 2).getD 0)) (nx : giC S2 x 8 = giC S1 x 8) (hh : hR S2 x H2) (aa : aR wF S2 x H2) (e7 : H2.1 7 = H.1 7 ∧ H2.1 8 = H.1 8 ∧ H2.2 40 = H.2 40 ∧ H2.2 41 = H.2 41) : RR wF N S2 T1 x H2 := by
  have hQ : mQ T1 x S1 S2 := fun _ _ q m => g.mo4 ci.wf (ci.tk _ q m).1 (hm q (ci.tk _ q m).1)
  have st : ∀ d, pl x d → giC S2 d 0 = giC S1 d 0 := fun d o => srt g ci kx o (h5 d o)
  refine ⟨hh, r.2.1.cg s (fun _ _ => rfl) hQ, r.2.2.1.cg r.2.1 s (fun _ _ => rfl) hQ (st _ (Or.inl rfl)) (fun p hp => st _ (Or.inr ⟨p, hp, rfl⟩)), r.2.2.2.1.gx g ci kx nl e7.1 e7.2.1 e7.2.2.1 e7.2.2.2, ⟨aa, r.2.2.2.2.1.2.1.gx g ci.wf hm (fun q k => ik_b k g.1 n1), by rw [s.1.1]; exact r.2.2.2.2.1.2.2.1, by rw [e7.2.2.1]; exact r.2.2.2.2.1.2.2.2⟩, r.2.2.2.2.2.cg r.2.1 s (fun _ _ => rfl) hQ nx⟩
theorem main_w (x1 x2 : Int32) (h1' : 0 ≤ x1.toInt ∧ x1.toInt < 90) : ∀ (n : Nat) (S : HS) (x : Int32), (S.2 19 x1.toNatClampNeg).toInt ≤ 400 → 0 ≤ x.toInt → x.toInt ≤ 400 → 400 - x.toInt < n → ∃ u, (lp_X11_carried_70 n S x1 x2 x).2 = (f_X11_goes (sR S 38 u)).2 ∧ (∀ i : Nat, x.toInt ≤ i → (i : Int) < (S.2 19 x1.toNatClampNeg).toInt → u i = S.2 28 (400 * x1.toNatClampNeg + i)) ∧ ∀ i : Nat, (i : Int) < x.toInt → u i = S.2 38 i := by
  intro n
  induction n with
  | zero => intro S x h4 h1 h2 h3; omega
  | succ n ih =>
    intro S x h4 h1 h2 h3
    rw [lp_X11_carried_70]
    unfold st_X11_carried_70
    by_cases c : S.2 19 x1.toNatClampNeg ≤ x
    · rw [if_pos c]
      have c := iLe.mp c
      refine ⟨S.2 38, ?_, fun i a b => by omega, fun _ _ => rfl⟩
      rw [sR_id]
      rfl
    · rw [if_neg c]
      have c := mt iLe.mpr c
      have e := iAdd (x := x) (y := 1) (by rw [i1]; omega) (by rw [i1]; omega)
      rw [i1] at e
      have k := iNat h1
      have tx := tx_x h1' (s := x) ⟨h1, by omega⟩
      obtain ⟨u, q, q2, q3⟩ := ih (sA S 38 x.toNatClampNeg (S.2 28 ((400 * x1) + x).toNatClampNeg)) (x + 1) h4 (by omega) (by omega) (by omega)
      rw [sR_sA] at q
      have q3 : ∀ i : Nat, (i : Int) < (x + 1).toInt → u i = upd (S.2 38) x.toNatClampNeg (S.2 28 ((400 * x1) + x).toNatClampNeg) i := q3
      refine ⟨u, q, fun i a b => ?_, fun i a => ?_⟩
      · by_cases y : i = x.toNatClampNeg
        · rw [q3 i (by omega), y, upd_eq, tx]
        · exact q2 i (by omega) b
      · rw [q3 i (by omega)]
        exact upd_ne (by omega)
/-- a text is adopted, in both -/
theorem adopt_v (a : AS x S T col S1 T1 c1) (r : RR wF N S1 T1 x H) {q m : Nat} (mu : mR S1 q H m) (kq : iK S1 q 3) (w0 : 0 ≤ (H.2 19 m).toInt) {u : Nat → Int32} (hu : ∀ i : Nat, (i : Int) < (H.2 19 m).toInt → u i = H.2 28 (400 * m + i)) (h98 : (H.1 9).toInt + 1 ≤ (H.1 8).toInt ∧ (H.1 8).toInt ≤ 1000) (e : H2 = sR (sI (sI H 9 (H.1 9 + 1)) 39 (H.2 19 m)) 38 u) : ∃ S2, f_Y9_become S1 (x + 11) (q + 1) = (0, S2) ∧ AS x S T col (siC S2 x 7 (giC S2 x 7 + 1)) T1 c1 ∧ RR wF N (siC S2 x 7 (giC S2 x 7 + 1)) T1 x H2 := by
  have h := a.1
  have w0' := a.w0
  have wq := h.ci.wf.w3 kq
  have k11 : iK S1 (x + 11) 6 := w0'.1.2.2.2.2.2.2
  have k12 : iK S1 (x + 12) 20 := (a.ci.wf.w6 k11).1.1
  obtain ⟨-, S2, f, g, g2, g3, g4, g5⟩ := y_tBecome h k11 (h.cx 11 (by omega)) (h.cx 12 (by omega)) wq.1.1
  have n12 : S2.1 = S1.1 := g3.1.1.symm
  have u2 : QU noE x S T [] col T1 [] c1 S1 S2 := ⟨g, g2.p (fun z _ y e => by
      rcases y with y | y <;> rw [y] at e
      · exact absurd (k11.2.symm.trans e) (by decide)
      · exact absurd (k12.2.symm.trans e) (by decide)) (fun z _ y e => by
      rcases y with y | y <;> rw [y] at e
      · exact absurd (k11.2.symm.trans e) (by decide)
      · exact absurd (k12.2.symm.trans e) (by decide)), g3⟩
  have U := u2.aI 7 (giC S2 x 7 + 1)
  have G : gX (fun z => (z = x + 11 ∨ z = x + 12) ∨ z = x) S1 (siC S2 x 7 (giC S2 x 7 + 1)) := (g2.mo (fun z y => Or.inl y)).tr ((gX.si S2 x 7 _).mo (fun z y => Or.inr y))
  have gx : ∀ k, k ≠ 7 → giC (siC S2 x 7 (giC S2 x 7 + 1)) x k = giC S1 x k := fun k n => by
    rw [gi_si, if_neg (fun y => n y.2)]
    exact g2.2.1 x a.k1.1 (by rw [a.k1.2]; decide) (by omega) k
  have g7 : giC S2 x 7 = H.1 9 := (g2.2.1 x a.k1.1 (by rw [a.k1.2]; decide) (by omega) 7).trans r.2.2.2.2.1.1.1.1
  have p9 := r.2.2.2.2.1.1.2.1
  have e9 := iAdd (x := H.1 9) (y := 1) (by rw [i1]; omega) (by rw [i1]; omega)
  rw [i1] at e9
  have q1 : ∀ j, j ≠ 9 → j ≠ 39 → H2.1 j = H.1 j := fun j y y2 => by
    rw [e]
    show (if j = 39 then _ else if j = 9 then _ else H.1 j) = H.1 j
    rw [if_neg y2, if_neg y]
  have q9 : H2.1 9 = H.1 9 + 1 := by rw [e]; rfl
  have q39 : H2.1 39 = H.2 19 m := by rw [e]; rfl
  have q2 : ∀ k, k ≠ 38 → H2.2 k = H.2 k := fun k y => by rw [e]; exact if_neg y
  have q38 : H2.2 38 = u := by rw [e]; rfl
  refine ⟨S2, f, ⟨U.1, a.2.kp a.ci a.k1 U.2.1 (fun _ _ _ => rfl)⟩, r.fr a.ci a.k1 G n12 ⟨⟨q1 0 (by decide) (by decide), q1 6 (by decide) (by decide), q1 35 (by decide) (by decide), q1 36 (by decide) (by decide), q1 30 (by decide) (by decide)⟩, fun k h1 h2 => q2 k (by omega)⟩ (fun q' k j hj y => ?_) (fun d o y => ?_) (fun l hl => ⟨fun y => ?_, fun y => ?_⟩) (gx 8 (by decide)) (r.1.gx G a.ci a.k1 (fun y => by omega) (fun y => by omega) (fun y => by omega) (fun k hk => q1 k (by omega) (by omega)) ⟨q2 11 (by decide), q2 12 (by decide)⟩) ⟨⟨?_, ?_⟩, ?_, ?_, ?_, fun i hi => ?_⟩ ⟨q1 7 (by decide) (by decide), q1 8 (by decide) (by decide), q2 40 (by decide), q2 41 (by decide)⟩⟩
  · obtain ⟨m0, m3, m7, m9, m11, m12, mp⟩ := mo_x a.ci a.k1 k hj
    rcases y with (y | y) | y
    · exact m11 y
    · exact m12 y
    · exact m0 y
  · have k5 := pl.lt a.ci a.k1 o
    rcases y with (y | y) | y
    · exact ik_ne k5 k11 (by decide) y
    · exact ik_ne k5 k12 (by decide) y
    · exact ik_ne k5 a.k1 (by decide) y
  · rcases hl with rfl | rfl <;> omega
  · have z := (zl_k a.ci a.k1 hl).2
    rcases y with (y | y) | y
    · exact ik_ne z k11 (by decide) y
    · rcases hl with rfl | rfl
      · exact r.2.2.2.1.2.2.2.1 _ k11 y
      · exact r.2.2.2.1.2.2.2.2.1 _ k11 y
    · exact ik_ne z a.k1 (by decide) y
  · rw [gi_si, if_pos ⟨rfl, rfl⟩, g7, q9]
  · rw [gx 9 (by decide), q1 10 (by decide) (by decide)]
    exact r.2.2.2.2.1.1.1.2
  · rw [q9, e9, q1 8 (by decide) (by decide)]
    omega
  · intro y
    rw [q9] at y
    have := congrArg Int32.toInt y
    rw [e9, i0] at this
    omega
  · intro _
    rw [q39, gi_si, if_neg (fun y => by omega), g4]
    exact mu.2.2.2.1.1
  · rw [q39] at hi
    rw [q38, gi_si, if_neg (fun y => by omega), hu i hi]
    have s := mu.2.2.2.1
    have y := g5 i (by rw [s.1]; exact hi)
    exact y.trans (s.2 i hi)
theorem mR.f7 {q m : Nat} (h : mR S1 q H m) (v : Int32) : mR (siC S1 q 7 v) q (sA H 24 m v) m := by
  obtain ⟨⟨a1, a2, a3, a4, a5⟩, ⟨b1, b2⟩, c, ⟨d1, d2⟩, e, ⟨f1, f2⟩, g⟩ := h
  have n : ∀ i, i ≠ 7 → giC (siC S1 q 7 v) q i = giC S1 q i := fun i hi => by rw [gi_si, if_neg (fun z => hi z.2)]
  have o : ∀ j k, 0 < j → giC (siC S1 q 7 v) (q + j) k = giC S1 (q + j) k := fun j k hj => by rw [gi_si, if_neg (fun z => by omega)]
  refine ⟨⟨(n 2 (by decide)).trans a1, (n 3 (by decide)).trans a2, (n 4 (by decide)).trans a3, (n 5 (by decide)).trans a4, (n 6 (by decide)).trans a5⟩, ⟨by rw [gi_si, if_pos ⟨rfl, rfl⟩]; exact (if_pos rfl).symm, (n 11 (by decide)).trans b2⟩, fun z => ⟨(n 8 (by decide)).trans (c z).1, (n 9 (by decide)).trans (c z).2⟩, ⟨(o 1 1 (by omega)).trans d1, fun i hi => (o 2 i (by omega)).trans (d2 i hi)⟩, fun s hs => ?_, ⟨fun s h1 h2 => (o 3 s (by omega)).trans (f1 s h1 h2), ?_⟩, g⟩
  · rw [o 3 s (by omega)]
    exact e s hs
  · rw [n 14 (by decide), vCn_cg (S1 := S1) (fun k => o 3 k (by omega))]
    exact f2
/-- the one below the top -/
theorem below_v (a : AS x S T col S1 T1 c1) (w : wR S1 T1 x H) (h : HI M H) (z : 2 ≤ (H.1 6).toInt) : ∃ mq, f_Y5_at S1 (x + 1) (giC S1 (x + 1) 1 - 2) = some mq ∧ mR S1 mq H (hM H 0 ((H.1 6).toNatClampNeg - 2)) ∧ mq ∈ T1 (x + 1) ∧ (T1 (rP x 0)).getD ((H.1 6).toNatClampNeg - 2) 0 = mq ∧ hL H 0 ((H.1 6).toNatClampNeg - 2) := by
  have e2 : (2 : Int32).toInt = 2 := by decide
  have b := h.ra.2.1
  have k := iNat (x := H.1 6) (by omega)
  have e := iSub (x := H.1 6) (y := 2) (by rw [e2]; omega) (by rw [e2]; omega)
  rw [e2] at e
  have k2 := iNat (x := H.1 6 - 2) (by omega)
  rw [rr_z a w]
  obtain ⟨mq, e1, e3, e4, e5⟩ := (rr_at a w h.ra (H.1 6 - 2)).2 (by omega) (by omega)
  have en : (H.1 6 - 2).toNatClampNeg = (H.1 6).toNatClampNeg - 2 := by omega
  rw [en] at e3 e5
  exact ⟨mq, e1, e3, e4, e5.symm, by omega, by show _ < (H.1 6).toInt; omega⟩
/-- one motion is closed -/
theorem close_v (a : AS x S T col S1 T1 c1) (r : RR wF N S1 T1 x H) (h : HI M H) {g i mq m : Nat} (l : hL H g i) (eq : (T1 (rP x g)).getD i 0 = mq) (em : hM H g i = m) (mu : mR S1 mq H m) (mm : mq ∈ T1 (rP x g)) : AS x S T col (siC S1 mq 7 1) T1 c1 ∧ RR wF N (siC S1 mq 7 1) T1 x (sA H 24 m 1) := by
  have kq := a.m3 mm
  have cq : c1 mq = x := by rw [(a.ci.tk _ mq mm).2]; exact a.1.oc (rP_own l.1).1
  have U := (QU.rf a.1).mI kq cq 7 1 (by decide) (fun _ => bz1)
  have mc := (mC'.rf mq S1).si 7 1 (j := 0) (by omega) rfl
  exact ⟨⟨U.1, a.2.kp a.ci a.k1 U.2.1 (fun _ _ _ => rfl)⟩, r.mo a.ci a.k1 h l eq em mc.1 ⟨gi_o (by decide), gi_o (by decide), gi_o (by decide)⟩ mc.2.1 mc.2.2.1 mc.2.2.2 (qM.A H m 1 (by decide) (by decide) (by decide) (by decide)) (mu.f7 1) ⟨rfl, rfl, rfl, rfl, rfl⟩ ⟨rfl, rfl, rfl, rfl, rfl⟩ ⟨rfl, rfl, rfl, rfl, rfl⟩⟩
/-- nobody is there, in both -/
theorem empty_l {y : Nat} : ∀ (n : Nat) (S1 : Cst) (b : Int32), grC S1 y 1 = some (y + 1) → lnC S1 (y + 1) = 200 → 0 ≤ b.toInt → b.toInt ≤ 200 → 200 - b.toInt < n → ∃ S2, lp_Y2_empty_2 y n S1 b = (0, siC (siC S2 y 2 0) y 6 (-1)) ∧ (∀ s, b.toNatClampNeg ≤ s → s < 200 → giC S2 (y + 1) s = 0) ∧ (∀ s, s < b.toNatClampNeg → giC S2 (y + 1) s = giC S1 (y + 1) s) ∧ (∀ q k, q ≠ y + 1 → giC S2 q k = giC S1 q k) ∧ (∀ q k, grC S2 q k = grC S1 q k) ∧ (∀ q, lnC S2 q = lnC S1 q) ∧ ∀ q c, iK S2 q c → iK S1 q c := by
  have e200 : (Int32.ofNat 200).toInt = 200 := by decide
  intro n
  induction n with
  | zero => intro S1 b g l h1 h2 h3; omega
  | succ n ih =>
    intro S1 b g l h1 h2 h3
    rw [lp_Y2_empty_2]
    unfold st_Y2_empty_2
    rw [g, Option.getD_some, l]
    have k := iNat h1
    by_cases c : Int32.ofNat 200 ≤ b
    · have := iLe.mp c
      rw [e200] at this
      rw [if_pos c]
      exact ⟨S1, rfl, fun s a b => by omega, fun _ _ => rfl, fun _ _ _ => rfl, fun _ _ => rfl, fun _ => rfl, fun _ _ h => h⟩
    · have c' := mt iLe.mpr c
      rw [e200] at c'
      have e := iAdd (x := b) (y := 1) (by rw [i1]; omega) (by rw [i1]; omega)
      rw [i1] at e
      have k2 := iNat (x := b + 1) (by omega)
      rw [if_neg c]
      obtain ⟨S2, f, p1, p2, p3, p4, p5, p6⟩ := ih (siC S1 (y + 1) b.toNatClampNeg (vp_nar .boolean 0)) (b + 1) (by rw [gr_si]; exact g) (by rw [ln_si]; exact l) (by omega) (by omega) (by omega)
      refine ⟨S2, f, fun s a d => ?_, fun s a => ?_, fun q j n => ?_, fun q j => ?_, fun q => ?_, fun q c k => ik_si.mp (p6 q c k)⟩
      · by_cases w : s = b.toNatClampNeg
        · rw [p2 s (by omega), gi_si, if_pos ⟨rfl, w⟩]
          rfl
        · exact p1 s (by omega) d
      · rw [p2 s (by omega), gi_si, if_neg (fun w => by omega)]
      · rw [p3 q j n, gi_si, if_neg (fun w => n w.1)]
      · rw [p4, gr_si]
      · rw [p5, ln_si]
theorem recess_v (a : AS x S T col S1 T1 c1) (r : RR wF N S1 T1 x H) {u : Nat → Int32} (hu : ∀ s : Nat, (s : Int) < (H.1 0).toInt → u s = 0) : ∃ S2, f_Y2_empty S1 (x + 37) = (0, S2) ∧ AS x S T col S2 T1 c1 ∧ RR wF N S2 T1 x (sI (sI (sR H 11 u) 1 0) 5 (-1)) := by
  have w1 := a.w1
  obtain ⟨-, v, S2, f2, U⟩ := y_hempty a.1
  obtain ⟨S3, f, p1, p2, p3, p4, p5, p6⟩ := empty_l (y := x + 37) 100000 S1 0 w1.2.1.1 w1.1.2.1 (by rw [i0]; omega) (by rw [i0]; omega) (by rw [i0]; omega)
  rw [zn0] at p1
  have f : f_Y2_empty S1 (x + 37) = (0, siC (siC S3 (x + 37) 2 0) (x + 37) 6 (-1)) := f
  obtain ⟨-, rfl⟩ := Prod.mk.inj (f2.symm.trans f)
  obtain ⟨⟨q0, q1, q2, q3, q4, q5⟩, q6, q7, q8⟩ := r.1
  have e : ∀ k, giC S3 (x + 37) k = giC S1 (x + 37) k := fun k => p3 _ k (by omega)
  refine ⟨_, f, ⟨U.1, a.2.kp a.ci a.k1 U.2.1 (fun _ _ _ => rfl)⟩, r.hc a.ci a.k1 ⟨fun q k h1 h2 h3 => ?_, fun q k => ?_, fun q => ?_, fun q c k => ?_⟩ ⟨⟨rfl, rfl, rfl, rfl, rfl⟩, fun k h1 h2 => if_neg (by omega)⟩ ⟨rfl, rfl, rfl, rfl, rfl⟩ ⟨rfl, rfl, rfl⟩ ⟨⟨?_, ?_, ?_, ?_, ?_, ?_⟩, fun s h1 h2 => ?_, fun k hk => ?_, q8.1, fun s hs => Or.inl (hu s hs)⟩⟩
  · rw [gi_si, if_neg (fun y => h1 y.1), gi_si, if_neg (fun y => h1 y.1)]
    exact p3 q k (by omega)
  · rw [gr_si, gr_si]
    exact p4 q k
  · rw [ln_si, ln_si]
    exact p5 q
  · exact p6 q c (ik_si.mp (ik_si.mp k))
  · rw [gi_si, if_neg (fun y => absurd y.2 (by decide)), gi_si, if_neg (fun y => absurd y.2 (by decide)), e]
    exact q0
  · rw [gi_si, if_neg (fun y => absurd y.2 (by decide)), gi_si, if_pos ⟨rfl, rfl⟩]
    rfl
  · rw [gi_si, if_neg (fun y => absurd y.2 (by decide)), gi_si, if_neg (fun y => absurd y.2 (by decide)), e]
    exact q2
  · rw [gi_si, if_neg (fun y => absurd y.2 (by decide)), gi_si, if_neg (fun y => absurd y.2 (by decide)), e]
    exact q3
  · rw [gi_si, if_neg (fun y => absurd y.2 (by decide)), gi_si, if_neg (fun y => absurd y.2 (by decide)), e]
    exact q4
  · rw [gi_si, if_pos ⟨rfl, rfl⟩]
    rfl
  · have h2 : (s : Int) < (H.1 0).toInt := h2
    rw [gi_si, if_neg (fun y => by omega), gi_si, if_neg (fun y => by omega)]
    exact (p1 s (Nat.zero_le _) h1).trans (hu s h2).symm
  · rw [gi_si, if_neg (fun y => by omega), gi_si, if_neg (fun y => by omega), p3 _ _ (by omega)]
    exact q7 k hk
theorem adj_w (x1 x2 : Int32) : ∀ (n : Nat) (S : HS) (x : Int32), 0 ≤ x.toInt → x.toInt ≤ 200 → (S.1 0).toInt ≤ 200 → 200 - x.toInt < n → ∃ u, (lp_X11_carried_157 n S x1 x2 x).2 = sI (sR S 11 u) 1 0 ∧ (∀ s : Nat, x.toInt ≤ s → (s : Int) < (S.1 0).toInt → u s = 0) ∧ ∀ s : Nat, (s : Int) < x.toInt → u s = S.2 11 s := by
  intro n
  induction n with
  | zero => intro S x h1 h2 h4 h3; omega
  | succ n ih =>
    intro S x h1 h2 h4 h3
    rw [lp_X11_carried_157]
    unfold st_X11_carried_157
    by_cases c : S.1 0 ≤ x
    · rw [if_pos c]
      have c := iLe.mp c
      refine ⟨S.2 11, ?_, fun s a b => by omega, fun _ _ => rfl⟩
      rw [sR_id]
      rfl
    · rw [if_neg c]
      have c := mt iLe.mpr c
      have e := iAdd (x := x) (y := 1) (by rw [i1]; omega) (by rw [i1]; omega)
      rw [i1] at e
      have k := iNat h1
      obtain ⟨u, q, q2, q3⟩ := ih (sA S 11 x.toNatClampNeg 0) (x + 1) (by omega) (by omega) h4 (by omega)
      rw [sR_sA] at q
      have q3 : ∀ s : Nat, (s : Int) < (x + 1).toInt → u s = upd (S.2 11) x.toNatClampNeg 0 s := q3
      refine ⟨u, q, fun s a b => ?_, fun s a => ?_⟩
      · by_cases y : s = x.toNatClampNeg
        · rw [q3 s (by omega), y, upd_eq]
        · exact q2 s (by omega) b
      · rw [q3 s (by omega)]
        exact upd_ne (by omega)
end
