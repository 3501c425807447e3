/-! ===== an assembly becomes another one, whole ===== -/
section
variable {wF : Prop × (Nat → Int32) × Int32 × (Nat → Int32)} {E : Nat → Prop} {x y : Nat} {S S1 S2 S3 S4 Sk : Cst} {T T1 T2 T3 Tk : Nat → List Nat} {F F1 : List Nat} {col c1 c2 c3 ck : Nat → Nat} {H H2 G R : HS} {N N2 M M2 : Int}
def SV (x y : Nat) (S1 : Cst) (n : Nat) (Sk : Cst) : Prop := giC Sk (x + 3) 0 = giC S1 (y + 3) 0 ∧ ∀ p, p < n → giC Sk (x + 13 + 3 * p) 0 = giC S1 (y + 13 + 3 * p) 0
theorem BV.mo {D D' : Nat → Prop} (b : BV x y S1 T1 D Sk Tk) (h : ∀ g, g < 10 → (D g ↔ D' g)) : BV x y S1 T1 D' Sk Tk :=
  ⟨fun g hg d => b.1 g hg ((h g hg).mpr d), fun g hg d => b.2.1 g hg (fun z => d ((h g hg).mp z)), b.2.2⟩
theorem abec_v (hk : Sst noE x S1 T1 [] c1 Sk Tk [] ck) (b : BV x y S1 T1 (fun g => g < 10) Sk Tk) (so : SV x y S1 8 Sk) (h0 : CI noE S1 T1 [] c1) (ky : iK S1 y 0) (ny : y ≠ x) {z : (Nat → Int32) × Int32 × (Nat → Int32)} (r : RR (False, z) N S1 T1 y H) (h10 : H.1 10 = 0) (i : Int32) : ∃ S4 c4, b_Y0_become_124a ((f_Y3_become Sk (x + 7) (y + 7)).2) x y i = (0, S4) ∧ Sst noE x S1 T1 [] c1 S4 Tk [] c4 ∧ RR (True, z) N S4 Tk x H := by
  obtain ⟨b1, -, b3, b4, b5⟩ := b
  have w0 := hk.ci.wf.w0 hk.k1
  have yy := h0.wf.w0 ky
  have y0 := hk.ci.wf.w0 (ky.n hk.en)
  have cyj : ∀ r, r < 40 → c1 (y + r) = y := fun r hr => h0.c0 y ky r hr
  have k7y : iK S1 (y + 7) 2 := yy.1.2.2.2.2.1
  have k9y : iK S1 (y + 9) 2 := yy.1.2.2.2.2.2.1
  have k11y : iK S1 (y + 11) 6 := yy.1.2.2.2.2.2.2
  have k12y : iK S1 (y + 12) 20 := (h0.wf.w6 k11y).1.1
  have z7y := (h0.wf.w2 k7y).2.1.2
  have z9y := (h0.wf.w2 k9y).2.1.2
  have c7y : c1 ((grC S1 (y + 7) 2).getD 0) = y := (h0.c2 _ k7y).trans (cyj 7 (by omega))
  have c9y : c1 ((grC S1 (y + 9) 2).getD 0) = y := (h0.c2 _ k9y).trans (cyj 9 (by omega))
  obtain ⟨rh, rw', ro, ⟨⟨a1, a2, a3⟩, ⟨e1, e2, e3⟩, ⟨f1, f2⟩, -, -, -, -, -, d6⟩, ⟨⟨⟨q7, -⟩, q9, qa, qb, qc⟩, rs⟩, n1, n2, n3, n4⟩ := r
  have t7 : (7 : Int32).toInt = 7 := by decide
  have t5 : (5 : Int32).toInt = 5 := by decide
  -- the minutes
  have fy : ∀ q, q < S1.1 → c1 q = y → Sk.2.2 q = S1.2.2 q := fun q a e => hk.fr q a (by rw [e]; exact ny)
  have gy7 : ∀ k, giC Sk (y + 7) k = giC S1 (y + 7) k := fun k => by unfold giC; rw [fy _ k7y.1 (cyj 7 (by omega))]
  have ry7 : grC Sk (y + 7) 2 = grC S1 (y + 7) 2 := by unfold grC; rw [fy _ k7y.1 (cyj 7 (by omega))]
  have gz7 : ∀ k, giC Sk ((grC S1 (y + 7) 2).getD 0) k = giC S1 ((grC S1 (y + 7) 2).getD 0) k := fun k => by unfold giC; rw [fy _ z7y.1 c7y]
  have ly7 : lcl Sk (y + 7) = lcl S1 (y + 7) := by unfold lcl; rw [ry7]; exact (hk.en.2 _ z7y.1).2
  obtain ⟨⟨x70, x90⟩, o7, o9, d3, d4, d5⟩ := b5
  have k7 : iK Sk (x + 7) 2 := w0.1.2.2.2.2.1
  have k9 : iK Sk (x + 9) 2 := w0.1.2.2.2.2.2.1
  have k11 : iK Sk (x + 11) 6 := w0.1.2.2.2.2.2.2
  have k12 : iK Sk (x + 12) 20 := (hk.ci.wf.w6 k11).1.1
  have z7 := (hk.ci.wf.w2 k7).2.1.2
  have z9 := (hk.ci.wf.w2 k9).2.1.2
  have cxj : ∀ r, r < 40 → ck (x + r) = x := fun r hr => hk.ci.c0 x hk.k1 r hr
  have cykj : ∀ r, r < 40 → ck (y + r) = y := fun r hr => hk.ci.c0 y (ky.n hk.en) r hr
  obtain ⟨S5, c5, fb5, g5, e5, l5, v5, n5⟩ := ledb_v hk.ci (l := x + 7) (m := y + 7) k7 y0.1.2.2.2.2.1 (by omega) (fun e => by
    have c := congrArg ck e
    rw [hk.ci.c2 _ k7, hk.ci.c2 _ y0.1.2.2.2.2.1, cxj 7 (by omega), cykj 7 (by omega)] at c
    exact ny c.symm) (by rw [x70, gy7, f1]) (by rw [gy7, gy7, ly7, f1, a1, t7]; omega)
  have h5 := hk.led (Or.inl rfl) g5
  have w5 := h5.ci.wf.w0 h5.k1
  have y5 := h5.ci.wf.w0 (ky.n h5.en)
  have fy5 : ∀ q, q < S1.1 → c1 q = y → S5.2.2 q = S1.2.2 q := fun q a e => h5.fr q a (by rw [e]; exact ny)
  have gy9 : ∀ k, giC S5 (y + 9) k = giC S1 (y + 9) k := fun k => by unfold giC; rw [fy5 _ k9y.1 (cyj 9 (by omega))]
  have ry9 : grC S5 (y + 9) 2 = grC S1 (y + 9) 2 := by unfold grC; rw [fy5 _ k9y.1 (cyj 9 (by omega))]
  have gz9 : ∀ k, giC S5 ((grC S1 (y + 9) 2).getD 0) k = giC S1 ((grC S1 (y + 9) 2).getD 0) k := fun k => by unfold giC; rw [fy5 _ z9y.1 c9y]
  have ly9 : lcl S5 (y + 9) = lcl S1 (y + 9) := by unfold lcl; rw [ry9]; exact (h5.en.2 _ z9y.1).2
  have fx5 : ∀ q, q < Sk.1 → q ≠ x + 7 → q ≠ (grC Sk (x + 7) 2).getD 0 → S5.2.2 q = Sk.2.2 q := g5.2.2.2.1
  have s9 : S5.2.2 (x + 9) = Sk.2.2 (x + 9) := fx5 _ k9.1 (by omega) (ik_ne k9 z7 (by decide))
  have r9 : grC S5 (x + 9) 2 = grC Sk (x + 9) 2 := by unfold grC; rw [s9]
  have k95 : iK S5 (x + 9) 2 := w5.1.2.2.2.2.2.1
  have cxj5 : ∀ r, r < 40 → c5 (x + r) = x := fun r hr => h5.ci.c0 x h5.k1 r hr
  have cyj5 : ∀ r, r < 40 → c5 (y + r) = y := fun r hr => h5.ci.c0 y (ky.n h5.en) r hr
  obtain ⟨S6, c6, fb6, g6, e6, l6, v6, n6⟩ := ledb_v h5.ci (l := x + 9) (m := y + 9) k95 y5.1.2.2.2.2.2.1 (by omega) (fun e => by
    have c := congrArg c5 e
    rw [h5.ci.c2 _ k95, h5.ci.c2 _ y5.1.2.2.2.2.2.1, cxj5 9 (by omega), cyj5 9 (by omega)] at c
    exact ny c.symm) (by rw [gy9, f2, ← x90]; unfold giC; rw [s9]) (by rw [gy9, gy9, ly9, f2, e1, t5]; omega)
  have h6 := h5.led (Or.inr rfl) g6
  have w6 := h6.ci.wf.w0 h6.k1
  have y6 := h6.ci.wf.w0 (ky.n h6.en)
  have fy6 : ∀ q, q < S1.1 → c1 q = y → S6.2.2 q = S1.2.2 q := fun q a e => h6.fr q a (by rw [e]; exact ny)
  have fx6 : ∀ q, q < S5.1 → q ≠ x + 9 → q ≠ (grC Sk (x + 9) 2).getD 0 → S6.2.2 q = S5.2.2 q := fun q a b c => g6.2.2.2.1 q a b (by rw [r9]; exact c)
  obtain ⟨-, S7, f7, h7, g7, k7e, e7, v7⟩ := y_tBecome h6 (t := x + 11) (u := y + 11) w6.1.2.2.2.2.2.2 (h6.cx 11 (by omega)) (h6.cx 12 (by omega)) y6.1.2.2.2.2.2.2
  have fy7 : ∀ q, q < S1.1 → c1 q = y → S7.2.2 q = S1.2.2 q := fun q a e => h7.fr q a (by rw [e]; exact ny)
  have gy : ∀ k, giC S7 y k = giC S1 y k := fun k => by unfold giC; rw [fy7 y ky.1 (cyj 0 (by omega))]
  have u := (((QU.rf h7).aI 7 (giC S7 y 7)).aI 8 (giC S7 y 8)).aI 9 0
  obtain ⟨X, hX⟩ : ∃ X, X = siC (siC (siC S7 x 7 (giC S7 y 7)) x 8 (giC S7 y 8)) x 9 0 := ⟨_, rfl⟩
  have eB : b_Y0_become_124a ((f_Y3_become Sk (x + 7) (y + 7)).2) x y i = (0, X) := by
    rw [fb5]
    unfold b_Y0_become_124a b_Y0_become_135a b_Y0_become_146a
    simp only
    rw [w5.2.1.2.2.2.2.2.1, y5.2.1.2.2.2.2.2.1, Option.getD_some, Option.getD_some, fb6]
    simp only
    rw [w6.2.1.2.2.2.2.2.2, y6.2.1.2.2.2.2.2.2, Option.getD_some, Option.getD_some, f7]
    simp only
    rw [gi_si, if_neg (fun e => ny e.1), hX]
  have gX : ∀ q k, giC X q k = if q = x ∧ k = 9 then 0 else if q = x ∧ k = 8 then giC S7 y 8 else if q = x ∧ k = 7 then giC S7 y 7 else giC S7 q k := fun q k => by
    rw [hX]
    simp only [gi_si]
  have gXo : ∀ q k, q ≠ x → giC X q k = giC S7 q k := fun q k n => by
    rw [gX, if_neg (fun e => n e.1), if_neg (fun e => n e.1), if_neg (fun e => n e.1)]
  have rX : ∀ q k, grC X q k = grC S7 q k := fun q k => by rw [hX]; simp only [gr_si]
  have lX : ∀ q, lnC X q = lnC S7 q := fun q => by rw [hX]; simp only [ln_si]
  rw [← hX] at u
  have iX : ∀ q c, c ≠ 20 → iK X q c → iK Sk q c := fun q c nc k => by
    rw [hX] at k
    exact n5 q c nc (n6 q c nc (ik_b (ik_si.mp (ik_si.mp (ik_si.mp k))) k7e.n k7e.1.1.symm))
  -- what is neither
  have F8 : ∀ q, q < Sk.1 → kdC Sk q ≠ 4 → q ≠ x + 7 → q ≠ (grC Sk (x + 7) 2).getD 0 → q ≠ x + 9 → q ≠ (grC Sk (x + 9) 2).getD 0 → q ≠ x + 11 → q ≠ x + 12 → q ≠ x → ∀ k, giC X q k = giC Sk q k := fun q a kd h1 h2 h3 h4 h5' h6' h7' k => by
    have a5 : q < S5.1 := Nat.lt_of_lt_of_le a g5.2.1.1.1
    have a6 : q < S6.1 := Nat.lt_of_lt_of_le a5 g6.2.1.1.1
    have kd6 : kdC S6 q ≠ 4 := by rw [(g6.2.1.2 q a5).1, (g5.2.1.2 q a).1]; exact kd
    rw [gXo q k h7', g7.2.1 q a6 kd6 (fun e => e.elim h5' h6') k]
    unfold giC
    rw [fx6 q a5 h3 h4, fx5 q a h1 h2]
  have M8 : ∀ q, iK Sk q 3 → ∀ j, j < 4 → ∀ k, giC X (q + j) k = giC Sk (q + j) k := fun q kq j hj => by
    obtain ⟨m0, m3, m7, m9, m11, m12, mp⟩ := mo_x hk.ci hk.k1 kq hj
    have W := W3k hk.ci.wf kq
    rcases (show j = 0 ∨ j = 1 ∨ j = 2 ∨ j = 3 by omega) with rfl | rfl | rfl | rfl
    · exact F8 _ kq.1 (by show kdC Sk q ≠ 4; rw [kq.2]; decide) m7 (ik_ne kq z7 (by decide)) m9 (ik_ne kq z9 (by decide)) m11 m12 m0
    · exact F8 _ W.1.1 (by rw [W.1.2]; decide) m7 (ik_ne W.1 z7 (by decide)) m9 (ik_ne W.1 z9 (by decide)) m11 m12 m0
    · exact F8 _ W.2.1.1 (by rw [W.2.1.2]; decide) m7 (fun e => o7 _ W.1 e.symm) m9 (fun e => o9 _ W.1 e.symm) m11 m12 m0
    · exact F8 _ W.2.2.1 (by rw [W.2.2.2]; decide) m7 (ik_ne W.2.2 z7 (by decide)) m9 (ik_ne W.2.2 z9 (by decide)) m11 m12 m0
  have k37 : iK Sk (x + 37) 1 := w0.1.1
  have w1 := hk.ci.wf.w1 k37
  have k38 : iK Sk (x + 38) 21 := w1.1.1
  have k39 : iK Sk (x + 39) 20 := w1.1.2.2.1
  have H37 := F8 _ k37.1 (by rw [k37.2]; decide) (by omega) (ik_ne k37 z7 (by decide)) (by omega) (ik_ne k37 z9 (by decide)) (by omega) (by omega) (by omega)
  have H38 := F8 _ k38.1 (by rw [k38.2]; decide) (by omega) (ik_ne k38 z7 (by decide)) (by omega) (ik_ne k38 z9 (by decide)) (by omega) (by omega) (by omega)
  have H39 := F8 _ k39.1 (by rw [k39.2]; decide) (by omega) (fun e => d4 e.symm) (by omega) (fun e => d5 e.symm) (by omega) (by omega) (by omega)
  have SO : ∀ d, pl x d → giC X d 0 = giC Sk d 0 := fun d o => by
    have k := pl.lt hk.ci hk.k1 o
    exact F8 d k.1 (by rw [k.2]; decide) (ik_ne k k7 (by decide)) (ik_ne k z7 (by decide)) (ik_ne k k9 (by decide)) (ik_ne k z9 (by decide)) (ik_ne k k11 (by decide)) (ik_ne k k12 (by decide)) (ik_ne k hk.k1 (by decide)) 0
  have CQ : ∀ g j, g < 10 → j < (T1 (rP y g)).length → cq S1 ((T1 (rP y g)).getD j 0) X ((Tk (rP x g)).getD j 0) := fun g j hg hj => by
    obtain ⟨l, q⟩ := b1 g hg hg
    exact (q j hj).r (M8 _ (hk.ci.tk _ _ (gD_mem (by omega))).1)
  have LE : ∀ g, g < 10 → (Tk (rP x g)).length = (T1 (rP y g)).length := fun g hg => (b1 g hg hg).1
  have LM : ∀ g i, hL H g i → i < (T1 (rP y g)).length := fun g i l => wR.mem rw' l
  have c0 : ∀ g i k, hL H g i → (k ≤ 11 ∨ k = 14) → giC X ((Tk (rP x g)).getD i 0) k = giC S1 ((T1 (rP y g)).getD i 0) k := fun g i k l hk' => (CQ g i l.1 (LM g i l)).1 k hk'
  -- the ledgers' rows
  have zz7 : iK S5 ((grC S5 (x + 7) 2).getD 0) 20 := (h5.ci.wf.w2 w5.1.2.2.2.2.1).2.1.2
  have zz9 : iK S6 ((grC S6 (x + 9) 2).getD 0) 20 := (h6.ci.wf.w2 w6.1.2.2.2.2.2.1).2.1.2
  have le5 : Sk.1 ≤ S5.1 := g5.2.1.1.1
  have le6 : S5.1 ≤ S6.1 := g6.2.1.1.1
  have v57 : (grC S5 (x + 7) 2).getD 0 = (grC Sk (x + 7) 2).getD 0 ∨ Sk.1 ≤ (grC S5 (x + 7) 2).getD 0 := g5.2.2.2.2.1
  have v69 : (grC S6 (x + 9) 2).getD 0 = (grC Sk (x + 9) 2).getD 0 ∨ S5.1 ≤ (grC S6 (x + 9) 2).getD 0 := by rw [← r9]; exact g6.2.2.2.2.1
  have b11 := k11.1
  have b12 := k12.1
  have bz9 := z9.1
  have bz39 := k39.1
  have n79 : (grC S5 (x + 7) 2).getD 0 ≠ (grC Sk (x + 9) 2).getD 0 := fun e => by
    rcases v57 with v | v
    · exact d3 (v.symm.trans e)
    · omega
  have n712 : (grC S5 (x + 7) 2).getD 0 ≠ x + 12 := fun e => by
    rcases v57 with v | v
    · exact o7 _ k11 (v.symm.trans e)
    · omega
  have n912 : (grC S6 (x + 9) 2).getD 0 ≠ x + 12 := fun e => by
    rcases v69 with v | v
    · exact o9 _ k11 (v.symm.trans e)
    · omega
  have k7S5 : iK S5 (x + 7) 2 := w5.1.2.2.2.2.1
  have R7 : grC X (x + 7) 2 = grC S5 (x + 7) 2 := by
    have k76 := k7S5.n g6.2.1
    rw [rX, g7.2.2 _ k76.1 k76.2]
    unfold grC
    rw [fx6 _ k7S5.1 (by omega) (ik_ne k7S5 (z9.n g5.2.1) (by decide))]
  have V7 : ∀ k, giC X (x + 7) k = giC S5 (x + 7) k := fun k => by
    have k76 := k7S5.n g6.2.1
    rw [gXo _ _ (by omega), g7.2.1 _ k76.1 (by rw [k76.2]; decide) (fun e => e.elim (by omega) (by omega))]
    unfold giC
    rw [fx6 _ k7S5.1 (by omega) (ik_ne k7S5 (z9.n g5.2.1) (by decide))]
  have Z7 : ∀ k, giC X ((grC S5 (x + 7) 2).getD 0) k = giC S5 ((grC S5 (x + 7) 2).getD 0) k := fun k => by
    have k76 := zz7.n g6.2.1
    rw [gXo _ _ (ik_ne zz7 h5.k1 (by decide)), g7.2.1 _ k76.1 (by rw [k76.2]; decide) (fun e => e.elim (ik_ne zz7 w5.1.2.2.2.2.2.2 (by decide)) n712)]
    unfold giC
    rw [fx6 _ zz7.1 (ik_ne zz7 k95 (by decide)) n79]
  have k9S6 : iK S6 (x + 9) 2 := w6.1.2.2.2.2.2.1
  have R9 : grC X (x + 9) 2 = grC S6 (x + 9) 2 := by rw [rX, g7.2.2 _ k9S6.1 k9S6.2]
  have V9 : ∀ k, giC X (x + 9) k = giC S6 (x + 9) k := fun k => by
    rw [gXo _ _ (by omega), g7.2.1 _ k9S6.1 (by rw [k9S6.2]; decide) (fun e => e.elim (by omega) (by omega))]
  have Z9 : ∀ k, giC X ((grC S6 (x + 9) 2).getD 0) k = giC S6 ((grC S6 (x + 9) 2).getD 0) k := fun k => by
    rw [gXo _ _ (ik_ne zz9 h6.k1 (by decide)), g7.2.1 _ zz9.1 (by rw [zz9.2]; decide) (fun e => e.elim (ik_ne zz9 w6.1.2.2.2.2.2.2 (by decide)) n912)]
  have L7 : lcl X (x + 7) = lcl S5 (x + 7) := by
    unfold lcl
    rw [R7, lX, (g7.1.2 _ (Nat.lt_of_lt_of_le zz7.1 le6)).2, (g6.2.1.2 _ zz7.1).2]
  have L9 : lcl X (x + 9) = lcl S6 (x + 9) := by
    unfold lcl
    rw [R9, lX, (g7.1.2 _ zz9.1).2]
  have o7' : ∀ q, iK X q 6 → (grC S5 (x + 7) 2).getD 0 ≠ q + 1 := fun q k e => by
    have kq := iX q 6 (by decide) k
    rcases v57 with v | v
    · exact o7 q kq (v.symm.trans e)
    · have := (hk.ci.wf.w6 kq).1.1.1
      omega
  have o9' : ∀ q, iK X q 6 → (grC S6 (x + 9) 2).getD 0 ≠ q + 1 := fun q k e => by
    have kq := iX q 6 (by decide) k
    rcases v69 with v | v
    · exact o9 q kq (v.symm.trans e)
    · have := (hk.ci.wf.w6 kq).1.1.1
      omega
  have n77 : (grC S5 (x + 7) 2).getD 0 ≠ (grC S6 (x + 9) 2).getD 0 := fun e => by
    rcases v69 with v | v
    · exact n79 (e.trans v)
    · have := zz7.1
      omega
  have n739 : (grC S5 (x + 7) 2).getD 0 ≠ x + 39 := fun e => by
    rcases v57 with v | v
    · exact d4 (v.symm.trans e)
    · omega
  have n939 : (grC S6 (x + 9) 2).getD 0 ≠ x + 39 := fun e => by
    rcases v69 with v | v
    · exact d5 (v.symm.trans e)
    · omega
  have E7 : ∀ i : Nat, (i : Int) < 7 * (H.1 7).toInt → giC X ((grC S5 (x + 7) 2).getD 0) i = giC S1 ((grC S1 (y + 7) 2).getD 0) i := fun i hi => by
    rw [Z7, v5 i (by rw [gy7, gy7, a1, f1, t7]; omega), ry7, gz7]
  have E9 : ∀ i : Nat, (i : Int) < 5 * (H.1 8).toInt → giC X ((grC S6 (x + 9) 2).getD 0) i = giC S1 ((grC S1 (y + 9) 2).getD 0) i := fun i hi => by
    rw [Z9, v6 i (by rw [gy9, gy9, e1, f2, t5]; omega), ry9, gz9]
  have s511 : S6.2.2 (y + 11) = S1.2.2 (y + 11) := fy6 _ k11y.1 (cyj 11 (by omega))
  have s512 : S6.2.2 (y + 12) = S1.2.2 (y + 12) := fy6 _ k12y.1 (cyj 12 (by omega))
  have T1x : giC X (x + 11) 1 = giC S1 (y + 11) 1 := by
    rw [gXo _ _ (by omega), e7]
    unfold giC
    rw [s511]
  have X8 : giC X x 8 = giC S1 y 8 := by rw [gX, if_neg (fun e => absurd e.2 (by decide)), if_pos ⟨rfl, rfl⟩, gy]
  obtain ⟨⟨p0, p1, p2, p3, p4, p5⟩, p6, p7, p8⟩ := rh
  refine ⟨X, c6, eB, u.1, ⟨⟨by rw [H37, b3.1 0 (by omega)]; exact p0, by rw [H37, b3.1 2 (by omega)]; exact p1, by rw [H37, b3.1 3 (by omega)]; exact p2, by rw [H37, b3.1 4 (by omega)]; exact p3, by rw [H37, b3.1 5 (by omega)]; exact p4, by rw [H37, b3.1 6 (by omega)]; exact p5⟩, fun s h1 h2 => ?_, fun k hk' => by rw [H39, b3.2.2 k hk']; exact p7 k hk', p8⟩, fun g hg => ⟨by rw [LE g hg]; exact (rw' g hg).1, fun i hi => ((rw' g hg).2 i (by rw [← LE g hg]; exact hi)).cq (CQ g i hg (by rw [← LE g hg]; exact hi))⟩, ⟨by rw [SO _ (Or.inl rfl), so.1]; exact ro.1, fun p hp => by rw [SO _ (Or.inr ⟨p, hp, rfl⟩), so.2 p hp]; exact ro.2.1 p hp, fun g hg l t => by rw [c0 g 0 10 l (Or.inl (by omega))]; exact ro.2.2.1 g hg l t, ro.2.2.2.1, ro.2.2.2.2⟩, ⟨⟨by rw [V7, e5, gy7]; exact a1, ?_, fun i j hi hj => by rw [R7, E7 (7 * i + j) (by omega)]; exact a3 i j hi hj⟩, ⟨by rw [V9, e6, gy9]; exact e1, ?_, fun i j hi hj => by rw [R9, E9 (5 * i + j) (by omega)]; exact e3 i j hi hj⟩, ⟨by rw [V7, g5.2.2.2.2.2.1.1]; exact x70, ?_⟩, fun q k => by rw [R7]; exact o7' q k, fun q k => by rw [R9]; exact o9' q k, by rw [R7, R9]; exact n77, by rw [R7]; exact n739, by rw [R9]; exact n939, fun i hi => by rw [R7, E7 _ (by omega)]; exact d6 i hi⟩, ⟨⟨⟨?_, fun _ => ?_⟩, q9, fun e => ⟨(qa e).1, by rw [T1x]; exact (qa e).2⟩, fun e => by rw [T1x]; exact qb e, fun i hi => ?_⟩, fun q k => ?_, rs.2⟩, ⟨by rw [X8]; exact n1, fun g i l t => by rw [c0 g i 0 l (Or.inl (by omega)), X8]; exact n2 g i l t, fun g i g' i' l t l' t' k0 e => by
      rw [c0 g i 0 l (Or.inl (by omega)), c0 g' i' 0 l' (Or.inl (by omega))] at e
      rw [c0 g i 0 l (Or.inl (by omega))] at k0
      exact n3 g i g' i' l t l' t' k0 e, fun j l t d k => ?_⟩⟩
  · rw [H38, b3.2.1 s h1, p6 s h1 h2]
    rcases p8.2 s h2 with e | e <;> rw [e] <;> rfl
  · rw [L7]
    rw [gy7, gy7, a1, f1, t7] at l5
    omega
  · rw [L9]
    rw [gy9, gy9, e1, f2, t5] at l6
    omega
  · rw [V9, g6.2.2.2.2.2.1.1]
    unfold giC
    rw [s9]
    exact x90
  · rw [gX, if_neg (fun e => absurd e.2 (by decide)), if_neg (fun e => absurd e.2 (by decide)), if_pos ⟨rfl, rfl⟩, gy]
    exact q7
  · rw [gX, if_pos ⟨rfl, rfl⟩, h10]
  · have e9 : H.1 9 ≠ 0 := fun e => by
      have em : (-1 : Int32).toInt = -1 := by decide
      rw [(qa e).1, em] at hi
      omega
    have ew : giC S6 (y + 11) 1 = H.1 39 := by
      have : giC S6 (y + 11) 1 = giC S1 (y + 11) 1 := by
        unfold giC
        rw [s511]
      rw [this]
      exact qb e9
    rw [gXo _ _ (by omega), show giC S7 (x + 12) i = giC S6 (y + 11 + 1) i from v7 i (by rw [ew]; exact hi)]
    have : giC S6 (y + 11 + 1) i = giC S1 (y + 12) i := by
      show giC S6 (y + 12) i = _
      unfold giC
      rw [s512]
    rw [this]
    exact qc i hi
  · have kq := iX q 3 (by decide) k
    rw [vCn_cg (M8 q kq 3 (by omega)), show giC X q 14 = giC Sk q 14 from M8 q kq 0 (by omega) 14]
    exact b4 q kq
  · obtain ⟨m1, m2, m3, m4⟩ := n4 j l t d k
    rw [c0 j 0 1 l (Or.inl (by omega)), X8]
    refine ⟨m1, m2, fun g i l' t' => ?_, m4⟩
    rw [c0 g i 0 l' (Or.inl (by omega))]
    exact m3 g i l' t'
end
