section
/-! ===== an assembly becomes another one, in both ===== -/
section
variable {wF : Prop × (Nat → Int32) × Int32 × (Nat → Int32)} {E : Nat → Prop} {x y : Nat} {S S1 S2 S3 S4 Sk : Cst} {T T1 T2 T3 Tk : Nat → List Nat} {F F1 : List Nat} {col c1 c2 c3 ck : Nat → Nat} {H H2 G R : HS} {N N2 M M2 : Int}
/-- a ledger becomes another one -/
theorem ledb_v (h : CI E S T F col) {l m : Nat} (k : iK S l 2) (km : iK S m 2) (n : l ≠ m) (nz : (grC S l 2).getD 0 ≠ (grC S m 2).getD 0) (ec : giC S l 0 = giC S m 0) (fit : (giC S m 3).toInt * (giC S m 0).toInt ≤ lcl S m) : ∃ S2 c2, f_Y3_become S l m = (0, S2) ∧ LSt E T F l S col S2 c2 ∧ giC S2 l 3 = giC S m 3 ∧ (giC S m 3).toInt * (giC S m 0).toInt ≤ lcl S2 l ∧ (∀ i : Nat, (i : Int) < (giC S m 3).toInt * (giC S m 0).toInt → giC S2 ((grC S2 l 2).getD 0) i = giC S ((grC S m 2).getD 0) i) ∧ nk S S2 := by
  have w := h.wf.w2 k
  have wm := h.wf.w2 km
  have e6 : (600 : Int32).toInt = 600 := by decide
  have hr := wm.1.2.2
  unfold rg at hr
  have e1 : (if giC S l 1 < giC S m 3 then giC S l 1 else giC S m 3) = giC S m 3 := by
    rw [if_neg (fun z => by have := iLt.mp z; rw [w.1.2.1, e6] at this; omega)]
  obtain ⟨S1, c1, f1, -, f3, f4, f5⟩ := y_room h k wm.1.2.2
  have rk := room_k h k wm.1.2.2 f1
  have g := LSt.of k f3 f5
  have k1 := g.k k
  have w1 := g.1.wf.w2 k1
  have hv : rg (giC S m 3) 0 600 := wm.1.2.2
  have zm := wm.2.1.2
  have zml : (grC S m 2).getD 0 ≠ l := ik_ne zm k (by decide)
  have fm : S1.2.2 m = S.2.2 m := f3.2.2.2.1 m km.1 (fun e => n e.symm)
  have fz : S1.2.2 ((grC S m 2).getD 0) = S.2.2 ((grC S m 2).getD 0) := f3.2.2.2.1 _ zm.1 zml
  have em : grC S1 m 2 = grC S m 2 := by unfold grC; rw [fm]
  have lm : lnC S1 ((grC S m 2).getD 0) = lnC S ((grC S m 2).getD 0) := (g.2.1.2 _ zm.1).2
  have c0 : giC S1 l 0 = giC S l 0 := f3.2.2.2.2.1 0
  obtain ⟨d1, d2, d3, d4, hg⟩ := led_e (L := lnC S1 ((grC S1 l 2).getD 0)) w1.1.1 w1.1.2.1 hv w1.2.2.2
  have d5 : (Int32.ofNat (lnC S ((grC S m 2).getD 0))).toInt = lnC S ((grC S m 2).getD 0) := (led_e (L := lnC S ((grC S m 2).getD 0)) wm.1.1 wm.1.2.1 hv wm.2.2.2).2.2.1
  have ecc : (giC S1 l 0).toInt = (giC S m 0).toInt := by rw [c0, ec]
  have f4' : (giC S m 3).toInt * (giC S m 0).toInt ≤ lcl S1 l := by rw [← ec]; exact f4
  have n1 : ¬ Int32.ofNat (lnC S1 ((grC S1 l 2).getD 0)) < giC S m 3 * giC S1 l 0 := fun z => by
    have z := iLt.mp z
    rw [d1, d3, ecc] at z
    have : (lcl S1 l : Int) = lnC S1 ((grC S1 l 2).getD 0) := rfl
    omega
  have n2 : ¬ Int32.ofNat (lnC S1 ((grC S1 m 2).getD 0)) < giC S m 3 * giC S1 l 0 := fun z => by
    rw [em, lm] at z
    have z := iLt.mp z
    rw [d1, d5, ecc] at z
    have : (lcl S m : Int) = lnC S ((grC S m 2).getD 0) := rfl
    omega
  have hn : 0 ≤ (giC S m 3).toInt * (giC S1 l 0).toInt := by
    rcases hg with y | y | y <;> rw [y] <;> omega
  have en := iNat (x := giC S m 3 * giC S1 l 0) (by rw [d1]; exact hn)
  rw [d1, ecc] at en
  have g2 := LSt.zf (l := l) g.1 k1 (va_cpy (giC S1 ((grC S m 2).getD 0)) (giC S1 ((grC S1 l 2).getD 0)) 0 0 (giC S m 3 * giC S1 l 0).toNatClampNeg)
  have e2 : b_Y3_become_17a S1 l m (giC S m 3) = (0, siC (sfC S1 ((grC S1 l 2).getD 0) (va_cpy (giC S1 ((grC S m 2).getD 0)) (giC S1 ((grC S1 l 2).getD 0)) 0 0 (giC S m 3 * giC S1 l 0).toNatClampNeg)) l 3 (giC S m 3)) := by
    unfold b_Y3_become_17a b_Y3_become_64
    rw [if_neg n1, if_neg n2, em, zn0]
  have gr : ∀ q j, grC (siC (sfC S1 ((grC S1 l 2).getD 0) (va_cpy (giC S1 ((grC S m 2).getD 0)) (giC S1 ((grC S1 l 2).getD 0)) 0 0 (giC S m 3 * giC S1 l 0).toNatClampNeg)) l 3 (giC S m 3)) q j = grC S1 q j := fun q j => by rw [gr_si, gr_sf]
  have zl1 : (grC S1 l 2).getD 0 ≠ l := ik_ne w1.2.1.2 k1 (by decide)
  refine ⟨_, c1, ?_, g.tr (g2.tr (LSt.n g2.1 (g2.k k1) hv)), by rw [gi_si, if_pos ⟨rfl, rfl⟩], ?_, fun i hi => ?_, fun q c nc kq => rk q c nc (ik_sf.mp (ik_si.mp kq))⟩
  · unfold f_Y3_become
    rw [e1, f1]
    exact e2
  · unfold lcl
    rw [gr, ln_si, ln_sf]
    exact f4'
  · rw [gr, gi_si, if_neg (fun y => zl1 y.1), gi_sf, if_pos rfl, pk_cpy_in (Nat.zero_le i) (by omega), Nat.zero_add, Nat.sub_zero]
    unfold giC
    rw [fz]
/-- a house becomes another one -/
theorem hb_l (n : x ≠ y) : ∀ (f : Nat) (S2 : Cst) (b : Int32), grC S2 (x + 37) 1 = some (x + 38) → grC S2 (x + 37) 7 = some (x + 39) → grC S2 (y + 37) 1 = some (y + 38) → grC S2 (y + 37) 7 = some (y + 39) → lnC S2 (x + 38) = 200 → lnC S2 (x + 39) = 9 → x + 38 ≠ y + 37 → x + 39 ≠ y + 37 → x + 37 ≠ y + 38 → x + 39 ≠ y + 38 → x + 37 ≠ y + 39 → x + 38 ≠ y + 39 → 0 ≤ b.toInt → b.toInt ≤ 200 → 200 - b.toInt < f → ∃ S3, lp_Y2_become_10 (x + 37) (y + 37) f S2 b = (0, S3) ∧ (∀ k, k = 2 ∨ k = 3 ∨ k = 4 ∨ k = 5 ∨ k = 6 → giC S3 (x + 37) k = giC S2 (y + 37) k) ∧ giC S3 (x + 37) 0 = giC S2 (x + 37) 0 ∧ (∀ s, b.toNatClampNeg ≤ s → s < 200 → giC S3 (x + 38) s = vp_nar .boolean (giC S2 (y + 38) s)) ∧ (∀ s, s < b.toNatClampNeg → giC S3 (x + 38) s = giC S2 (x + 38) s) ∧ (∀ k, k < 9 → giC S3 (x + 39) k = giC S2 (y + 39) k) ∧ hC' x S2 S3 := by
  have e200 : (Int32.ofNat 200).toInt = 200 := by decide
  intro f
  induction f with
  | zero => intro S2 b a1 a2 a3 a4 a5 a6 q1 q2 q3 q4 q5 q6 h1 h2 h3; omega
  | succ f ih =>
    intro S2 b a1 a2 a3 a4 a5 a6 q1 q2 q3 q4 q5 q6 h1 h2 h3
    have k := iNat h1
    rw [lp_Y2_become_10]
    unfold st_Y2_become_10
    rw [a1, a3, Option.getD_some, Option.getD_some, a5]
    have ne : ¬ y + 37 = x + 37 := by omega
    by_cases c : Int32.ofNat 200 ≤ b
    · have := iLe.mp c
      rw [e200] at this
      rw [if_pos c]
      have n9 : (Int32.ofNat 9).toNatClampNeg = 9 := by decide
      have ne9 : ¬ y + 39 = x + 37 := fun z => q5 z.symm
      have ne8 : ¬ x + 39 = x + 37 := by omega
      obtain ⟨Z, hZ⟩ : ∃ Z, Z = siC (siC (siC (siC (siC S2 (x + 37) 2 (giC S2 (y + 37) 2)) (x + 37) 3 (giC S2 (y + 37) 3)) (x + 37) 4 (giC S2 (y + 37) 4)) (x + 37) 5 (giC S2 (y + 37) 5)) (x + 37) 6 (giC S2 (y + 37) 6) := ⟨_, rfl⟩
      have gZ : ∀ q i, q ≠ x + 37 → giC Z q i = giC S2 q i := fun q i hq => by
        rw [hZ]
        simp only [gi_si, hq, false_and, if_false]
      have gZ' : ∀ i, giC Z (x + 37) i = if i = 6 then giC S2 (y + 37) 6 else if i = 5 then giC S2 (y + 37) 5 else if i = 4 then giC S2 (y + 37) 4 else if i = 3 then giC S2 (y + 37) 3 else if i = 2 then giC S2 (y + 37) 2 else giC S2 (x + 37) i := fun i => by
        rw [hZ]
        simp only [gi_si, true_and]
      have rZ : ∀ q i, grC Z q i = grC S2 q i := fun q i => by rw [hZ]; simp only [gr_si]
      have lZ : ∀ q, lnC Z q = lnC S2 q := fun q => by rw [hZ]; simp only [ln_si]
      have e : b_Y2_become_69a (siC (siC (siC (siC S2 (x + 37) 2 (giC S2 (y + 37) 2)) (x + 37) 3 (giC (siC S2 (x + 37) 2 (giC S2 (y + 37) 2)) (y + 37) 3)) (x + 37) 4 (giC (siC (siC S2 (x + 37) 2 (giC S2 (y + 37) 2)) (x + 37) 3 (giC (siC S2 (x + 37) 2 (giC S2 (y + 37) 2)) (y + 37) 3)) (y + 37) 4)) (x + 37) 5 (giC (siC (siC (siC S2 (x + 37) 2 (giC S2 (y + 37) 2)) (x + 37) 3 (giC (siC S2 (x + 37) 2 (giC S2 (y + 37) 2)) (y + 37) 3)) (x + 37) 4 (giC (siC (siC S2 (x + 37) 2 (giC S2 (y + 37) 2)) (x + 37) 3 (giC (siC S2 (x + 37) 2 (giC S2 (y + 37) 2)) (y + 37) 3)) (y + 37) 4)) (y + 37) 5)) (x + 37) (y + 37) b = (0, sfC Z (x + 39) (va_cpy (giC Z (y + 39)) (giC Z (x + 39)) 0 0 9)) := by
        unfold b_Y2_become_69a b_Y2_become_95a
        simp only [gi_si, ne, false_and, if_false]
        rw [← hZ, rZ, rZ, a2, a4, Option.getD_some, Option.getD_some, lZ, a6, n9, zn0]
      refine ⟨_, e, fun i hi => ?_, ?_, fun s h5 h6 => by omega, fun s _ => ?_, fun i hi => ?_, fun q i r1 r2 r3 => ?_, fun q i => ?_, fun q => ?_, fun q c kq => ?_⟩
      · rw [gi_sf, if_neg (by omega), gZ']
        rcases hi with rfl | rfl | rfl | rfl | rfl <;> rfl
      · rw [gi_sf, if_neg (by omega), gZ']
        rfl
      · rw [gi_sf, if_neg (by omega), gZ _ _ (by omega)]
      · rw [gi_sf, if_pos rfl, pk_cpy_in (Nat.zero_le i) (by omega), Nat.zero_add, Nat.sub_zero, gZ _ _ ne9]
      · rw [gi_sf, if_neg r3, gZ _ _ r1]
      · rw [gr_sf, rZ]
      · rw [ln_sf, lZ]
      · have kq := ik_sf.mp kq
        rw [hZ] at kq
        exact ik_si.mp (ik_si.mp (ik_si.mp (ik_si.mp (ik_si.mp kq))))
    · rw [if_neg c]
      have c := mt iLe.mpr c
      rw [e200] at c
      have e := iAdd (x := b) (y := 1) (by rw [i1]; omega) (by rw [i1]; omega)
      rw [i1] at e
      have k2 := iNat (x := b + 1) (by omega)
      obtain ⟨S3, g, p1, p2, p3, p4, p5, p6⟩ := ih (siC S2 (x + 38) b.toNatClampNeg (vp_nar .boolean (giC S2 (y + 38) b.toNatClampNeg))) (b + 1) (by rw [gr_si]; exact a1) (by rw [gr_si]; exact a2) (by rw [gr_si]; exact a3) (by rw [gr_si]; exact a4) (by rw [ln_si]; exact a5) (by rw [ln_si]; exact a6) q1 q2 q3 q4 q5 q6 (by omega) (by omega) (by omega)
      have y8 : ¬ y + 38 = x + 38 := by omega
      refine ⟨S3, g, fun i hi => ?_, ?_, fun s h5 h6 => ?_, fun s h5 => ?_, fun i hi => ?_, fun q i r1 r2 r3 => ?_, fun q i => ?_, fun q => ?_, fun q c kq => ik_si.mp (p6.2.2.2 q c kq)⟩
      · rw [p1 i hi, gi_si, if_neg (fun z => q1 z.1.symm)]
      · rw [p2, gi_si, if_neg (fun z => by omega)]
      · by_cases w : s = b.toNatClampNeg
        · rw [p4 s (by omega), gi_si, if_pos ⟨rfl, w⟩, w]
        · rw [p3 s (by omega) h6, gi_si, if_neg (fun z => y8 z.1)]
      · rw [p4 s (by omega), gi_si, if_neg (fun z => by omega)]
      · rw [p5 i hi, gi_si, if_neg (fun z => q6 z.1.symm)]
      · rw [p6.1 q i r1 r2 r3, gi_si, if_neg (fun z => r2 z.1)]
      · rw [p6.2.1, gr_si]
      · rw [p6.2.2.1, ln_si]
theorem hbec_v (wf : wfS Sk) (kx : iK Sk x 0) (ky : iK Sk y 0) (n : x ≠ y) : ∃ S2, f_Y2_become Sk (x + 37) (y + 37) = (0, S2) ∧ hC' x Sk S2 ∧ hE Sk y S2 x := by
  have w1 := wf.w1 (wf.w0 kx).1.1
  have y1 := wf.w1 (wf.w0 ky).1.1
  have kx7 : iK Sk (x + 37) 1 := (wf.w0 kx).1.1
  have ky7 : iK Sk (y + 37) 1 := (wf.w0 ky).1.1
  have kx8 : iK Sk (x + 38) 21 := w1.1.1
  have ky8 : iK Sk (y + 38) 21 := y1.1.1
  have kx9 : iK Sk (x + 39) 20 := w1.1.2.2.1
  have ky9 : iK Sk (y + 39) 20 := y1.1.2.2.1
  obtain ⟨S3, g, p1, p2, p3, -, p5, p6⟩ := hb_l n 100000 (siC Sk (x + 37) 0 (giC Sk (y + 37) 0)) 0 (by rw [gr_si]; exact w1.2.1.1) (by rw [gr_si]; exact w1.2.1.2) (by rw [gr_si]; exact y1.2.1.1) (by rw [gr_si]; exact y1.2.1.2) (by rw [ln_si]; exact w1.1.2.1) (by rw [ln_si]; exact w1.1.2.2.2) (ik_ne kx8 ky7 (by decide)) (ik_ne kx9 ky7 (by decide)) (ik_ne kx7 ky8 (by decide)) (ik_ne kx9 ky8 (by decide)) (ik_ne kx7 ky9 (by decide)) (ik_ne kx8 ky9 (by decide)) (by rw [i0]; omega) (by rw [i0]; omega) (by rw [i0]; omega)
  rw [zn0] at p3
  have ne : ¬ y + 37 = x + 37 := by omega
  refine ⟨S3, g, ⟨fun q i r1 r2 r3 => ?_, fun q i => ?_, fun q => ?_, fun q c kq => ik_si.mp (p6.2.2.2 q c kq)⟩, fun i hi => ?_, fun s hs => ?_, fun i hi => ?_⟩
  · rw [p6.1 q i r1 r2 r3, gi_si, if_neg (fun z => r1 z.1)]
  · rw [p6.2.1, gr_si]
  · rw [p6.2.2.1, ln_si]
  · rcases hi with rfl | hi
    · rw [p2, gi_si, if_pos ⟨rfl, rfl⟩]
    · rw [p1 i hi, gi_si, if_neg (fun z => ne z.1)]
  · rw [p3 s (Nat.zero_le _) hs, gi_si, if_neg (fun z => ik_ne ky8 kx7 (by decide) z.1)]
  · rw [p5 i hi, gi_si, if_neg (fun z => ik_ne ky9 kx7 (by decide) z.1)]
end
end
section
/-! ===== an assembly becomes another one, whole ===== -/
section
variable {wF : Prop × (Nat → Int32) × Int32 × (Nat → Int32)} {E : Nat → Prop} {x y : Nat} {S S1 S2 S3 S4 Sk : Cst} {T T1 T2 T3 Tk : Nat → List Nat} {F F1 : List Nat} {col c1 c2 c3 ck : Nat → Nat} {H H2 G R : HS} {N N2 M M2 : Int}
def SV (x y : Nat) (S1 : Cst) (n : Nat) (Sk : Cst) : Prop := giC Sk (x + 3) 0 = giC S1 (y + 3) 0 ∧ ∀ p, p < n → giC Sk (x + 13 + 3 * p) 0 = giC S1 (y + 13 + 3 * p) 0
theorem BV.mo {D D' : Nat → Prop} (b : BV x y S1 T1 D Sk Tk) (h : ∀ g, g < 10 → (D g ↔ D' g)) : BV x y S1 T1 D' Sk Tk :=
  ⟨fun g hg d => b.1 g hg ((h g hg).mpr d), fun g hg d => b.2.1 g hg (fun z => d ((h g hg).mp z)), b.2.2⟩
theorem abec_v (hk : Sst noE x S1 T1 [] c1 Sk Tk [] ck) (b : BV x y S1 T1 (fun g => g < 10) Sk Tk) (so : SV x y S1 8 Sk) (h0 : CI noE S1 T1 [] c1) (ky : iK S1 y 0) (ny : y ≠ x) {z : (Nat → Int32) × Int32 × (Nat → Int32)} (r : RR (False, z) N S1 T1 y H) (h10 : H.1 10 = 0) (i : Int32) : ∃ S4 c4, b_Y0_become_124a ((f_Y3_become Sk (x + 7) (y + 7)).2) x y i = (0, S4) ∧ Sst noE x S1 T1 [] c1 S4 Tk [] c4 ∧ RR (True, z) N S4 Tk x H := by
  obtain ⟨b1, -, b3, b4, b5⟩ := b
  have w0 := hk.ci.wf.w0 hk.k1
  have yy := h0.wf.w0 ky
  have y0 := hk.ci.wf.w0 (ky.n hk.en)
  have cyj : ∀ r, r < 40 → c1 (y + r) = y := fun r hr => h0.c0 y ky r hr
  have k7y : iK S1 (y + 7) 2 := yy.1.2.2.2.2.1
  have k9y : iK S1 (y + 9) 2 := yy.1.2.2.2.2.2.1
  have k11y : iK S1 (y + 11) 6 := yy.1.2.2.2.2.2.2
  have k12y : iK S1 (y + 12) 20 := (h0.wf.w6 k11y).1.1
  have z7y := (h0.wf.w2 k7y).2.1.2
  have z9y := (h0.wf.w2 k9y).2.1.2
  have c7y : c1 ((grC S1 (y + 7) 2).getD 0) = y := (h0.c2 _ k7y).trans (cyj 7 (by omega))
  have c9y : c1 ((grC S1 (y + 9) 2).getD 0) = y := (h0.c2 _ k9y).trans (cyj 9 (by omega))
  obtain ⟨rh, rw', ro, ⟨⟨a1, a2, a3⟩, ⟨e1, e2, e3⟩, ⟨f1, f2⟩, -, -, -, -, -, d6⟩, ⟨⟨⟨q7, -⟩, q9, qa, qb, qc⟩, rs⟩, n1, n2, n3, n4⟩ := r
  have t7 : (7 : Int32).toInt = 7 := by decide
  have t5 : (5 : Int32).toInt = 5 := by decide
  -- the minutes
  have fy : ∀ q, q < S1.1 → c1 q = y → Sk.2.2 q = S1.2.2 q := fun q a e => hk.fr q a (by rw [e]; exact ny)
  have gy7 : ∀ k, giC Sk (y + 7) k = giC S1 (y + 7) k := fun k => by unfold giC; rw [fy _ k7y.1 (cyj 7 (by omega))]
  have ry7 : grC Sk (y + 7) 2 = grC S1 (y + 7) 2 := by unfold grC; rw [fy _ k7y.1 (cyj 7 (by omega))]
  have gz7 : ∀ k, giC Sk ((grC S1 (y + 7) 2).getD 0) k = giC S1 ((grC S1 (y + 7) 2).getD 0) k := fun k => by unfold giC; rw [fy _ z7y.1 c7y]
  have ly7 : lcl Sk (y + 7) = lcl S1 (y + 7) := by unfold lcl; rw [ry7]; exact (hk.en.2 _ z7y.1).2
  obtain ⟨⟨x70, x90⟩, o7, o9, d3, d4, d5⟩ := b5
  have k7 : iK Sk (x + 7) 2 := w0.1.2.2.2.2.1
  have k9 : iK Sk (x + 9) 2 := w0.1.2.2.2.2.2.1
  have k11 : iK Sk (x + 11) 6 := w0.1.2.2.2.2.2.2
  have k12 : iK Sk (x + 12) 20 := (hk.ci.wf.w6 k11).1.1
  have z7 := (hk.ci.wf.w2 k7).2.1.2
  have z9 := (hk.ci.wf.w2 k9).2.1.2
  have cxj : ∀ r, r < 40 → ck (x + r) = x := fun r hr => hk.ci.c0 x hk.k1 r hr
  have cykj : ∀ r, r < 40 → ck (y + r) = y := fun r hr => hk.ci.c0 y (ky.n hk.en) r hr
  obtain ⟨S5, c5, fb5, g5, e5, l5, v5, n5⟩ := ledb_v hk.ci (l := x + 7) (m := y + 7) k7 y0.1.2.2.2.2.1 (by omega) (fun e => by
    have c := congrArg ck e
    rw [hk.ci.c2 _ k7, hk.ci.c2 _ y0.1.2.2.2.2.1, cxj 7 (by omega), cykj 7 (by omega)] at c
    exact ny c.symm) (by rw [x70, gy7, f1]) (by rw [gy7, gy7, ly7, f1, a1, t7]; omega)
  have h5 := hk.led (Or.inl rfl) g5
  have w5 := h5.ci.wf.w0 h5.k1
  have y5 := h5.ci.wf.w0 (ky.n h5.en)
  have fy5 : ∀ q, q < S1.1 → c1 q = y → S5.2.2 q = S1.2.2 q := fun q a e => h5.fr q a (by rw [e]; exact ny)
  have gy9 : ∀ k, giC S5 (y + 9) k = giC S1 (y + 9) k := fun k => by unfold giC; rw [fy5 _ k9y.1 (cyj 9 (by omega))]
  have ry9 : grC S5 (y + 9) 2 = grC S1 (y + 9) 2 := by unfold grC; rw [fy5 _ k9y.1 (cyj 9 (by omega))]
  have gz9 : ∀ k, giC S5 ((grC S1 (y + 9) 2).getD 0) k = giC S1 ((grC S1 (y + 9) 2).getD 0) k := fun k => by unfold giC; rw [fy5 _ z9y.1 c9y]
  have ly9 : lcl S5 (y + 9) = lcl S1 (y + 9) := by unfold lcl; rw [ry9]; exact (h5.en.2 _ z9y.1).2
  have fx5 : ∀ q, q < Sk.1 → q ≠ x + 7 → q ≠ (grC Sk (x + 7) 2).getD 0 → S5.2.2 q = Sk.2.2 q := g5.2.2.2.1
  have s9 : S5.2.2 (x + 9) = Sk.2.2 (x + 9) := fx5 _ k9.1 (by omega) (ik_ne k9 z7 (by decide))
  have r9 : grC S5 (x + 9) 2 = grC Sk (x + 9) 2 := by unfold grC; rw [s9]
  have k95 : iK S5 (x + 9) 2 := w5.1.2.2.2.2.2.1
  have cxj5 : ∀ r, r < 40 → c5 (x + r) = x := fun r hr => h5.ci.c0 x h5.k1 r hr
  have cyj5 : ∀ r, r < 40 → c5 (y + r) = y := fun r hr => h5.ci.c0 y (ky.n h5.en) r hr
  obtain ⟨S6, c6, fb6, g6, e6, l6, v6, n6⟩ := ledb_v h5.ci (l := x + 9) (m := y + 9) k95 y5.1.2.2.2.2.2.1 (by omega) (fun e => by
    have c := congrArg c5 e
    rw [h5.ci.c2 _ k95, h5.ci.c2 _ y5.1.2.2.2.2.2.1, cxj5 9 (by omega), cyj5 9 (by omega)] at c
    exact ny c.symm) (by rw [gy9, f2, ← x90]; unfold giC; rw [s9]) (by rw [gy9, gy9, ly9, f2, e1, t5]; omega)
  have h6 := h5.led (Or.inr rfl) g6
  have w6 := h6.ci.wf.w0 h6.k1
  have y6 := h6.ci.wf.w0 (ky.n h6.en)
  have fy6 : ∀ q, q < S1.1 → c1 q = y → S6.2.2 q = S1.2.2 q := fun q a e => h6.fr q a (by rw [e]; exact ny)
  have fx6 : ∀ q, q < S5.1 → q ≠ x + 9 → q ≠ (grC Sk (x + 9) 2).getD 0 → S6.2.2 q = S5.2.2 q := fun q a b c => g6.2.2.2.1 q a b (by rw [r9]; exact c)
  obtain ⟨-, S7, f7, h7, g7, k7e, e7, v7⟩ := y_tBecome h6 (t := x + 11) (u := y + 11) w6.1.2.2.2.2.2.2 (h6.cx 11 (by omega)) (h6.cx 12 (by omega)) y6.1.2.2.2.2.2.2
  have fy7 : ∀ q, q < S1.1 → c1 q = y → S7.2.2 q = S1.2.2 q := fun q a e => h7.fr q a (by rw [e]; exact ny)
  have gy : ∀ k, giC S7 y k = giC S1 y k := fun k => by unfold giC; rw [fy7 y ky.1 (cyj 0 (by omega))]
  have u := (((QU.rf h7).aI 7 (giC S7 y 7)).aI 8 (giC S7 y 8)).aI 9 0
  obtain ⟨X, hX⟩ : ∃ X, X = siC (siC (siC S7 x 7 (giC S7 y 7)) x 8 (giC S7 y 8)) x 9 0 := ⟨_, rfl⟩
  have eB : b_Y0_become_124a ((f_Y3_become Sk (x + 7) (y + 7)).2) x y i = (0, X) := by
    rw [fb5]
    unfold b_Y0_become_124a b_Y0_become_135a b_Y0_become_146a
    simp only
    rw [w5.2.1.2.2.2.2.2.1, y5.2.1.2.2.2.2.2.1, Option.getD_some, Option.getD_some, fb6]
    simp only
    rw [w6.2.1.2.2.2.2.2.2, y6.2.1.2.2.2.2.2.2, Option.getD_some, Option.getD_some, f7]
    simp only
    rw [gi_si, if_neg (fun e => ny e.1), hX]
  have gX : ∀ q k, giC X q k = if q = x ∧ k = 9 then 0 else if q = x ∧ k = 8 then giC S7 y 8 else if q = x ∧ k = 7 then giC S7 y 7 else giC S7 q k := fun q k => by
    rw [hX]
    simp only [gi_si]
  have gXo : ∀ q k, q ≠ x → giC X q k = giC S7 q k := fun q k n => by
    rw [gX, if_neg (fun e => n e.1), if_neg (fun e => n e.1), if_neg (fun e => n e.1)]
  have rX : ∀ q k, grC X q k = grC S7 q k := fun q k => by rw [hX]; simp only [gr_si]
  have lX : ∀ q, lnC X q = lnC S7 q := fun q => by rw [hX]; simp only [ln_si]
  rw [← hX] at u
  have iX : ∀ q c, c ≠ 20 → iK X q c → iK Sk q c := fun q c nc k => by
    rw [hX] at k
    exact n5 q c nc (n6 q c nc (ik_b (ik_si.mp (ik_si.mp (ik_si.mp k))) k7e.n k7e.1.1.symm))
  -- what is neither
  have F8 : ∀ q, q < Sk.1 → kdC Sk q ≠ 4 → q ≠ x + 7 → q ≠ (grC Sk (x + 7) 2).getD 0 → q ≠ x + 9 → q ≠ (grC Sk (x + 9) 2).getD 0 → q ≠ x + 11 → q ≠ x + 12 → q ≠ x → ∀ k, giC X q k = giC Sk q k := fun q a kd h1 h2 h3 h4 h5' h6' h7' k => by
    have a5 : q < S5.1 := Nat.lt_of_lt_of_le a g5.2.1.1.1
    have a6 : q < S6.1 := Nat.lt_of_lt_of_le a5 g6.2.1.1.1
    have kd6 : kdC S6 q ≠ 4 := by rw [(g6.2.1.2 q a5).1, (g5.2.1.2 q a).1]; exact kd
    rw [gXo q k h7', g7.2.1 q a6 kd6 (fun e => e.elim h5' h6') k]
    unfold giC
    rw [fx6 q a5 h3 h4, fx5 q a h1 h2]
  have M8 : ∀ q, iK Sk q 3 → ∀ j, j < 4 → ∀ k, giC X (q + j) k = giC Sk (q + j) k := fun q kq j hj => by
    obtain ⟨m0, m3, m7, m9, m11, m12, mp⟩ := mo_x hk.ci hk.k1 kq hj
    have W := W3k hk.ci.wf kq
    rcases (show j = 0 ∨ j = 1 ∨ j = 2 ∨ j = 3 by omega) with rfl | rfl | rfl | rfl
    · exact F8 _ kq.1 (by show kdC Sk q ≠ 4; rw [kq.2]; decide) m7 (ik_ne kq z7 (by decide)) m9 (ik_ne kq z9 (by decide)) m11 m12 m0
    · exact F8 _ W.1.1 (by rw [W.1.2]; decide) m7 (ik_ne W.1 z7 (by decide)) m9 (ik_ne W.1 z9 (by decide)) m11 m12 m0
    · exact F8 _ W.2.1.1 (by rw [W.2.1.2]; decide) m7 (fun e => o7 _ W.1 e.symm) m9 (fun e => o9 _ W.1 e.symm) m11 m12 m0
    · exact F8 _ W.2.2.1 (by rw [W.2.2.2]; decide) m7 (ik_ne W.2.2 z7 (by decide)) m9 (ik_ne W.2.2 z9 (by decide)) m11 m12 m0
  have k37 : iK Sk (x + 37) 1 := w0.1.1
  have w1 := hk.ci.wf.w1 k37
  have k38 : iK Sk (x + 38) 21 := w1.1.1
  have k39 : iK Sk (x + 39) 20 := w1.1.2.2.1
  have H37 := F8 _ k37.1 (by rw [k37.2]; decide) (by omega) (ik_ne k37 z7 (by decide)) (by omega) (ik_ne k37 z9 (by decide)) (by omega) (by omega) (by omega)
  have H38 := F8 _ k38.1 (by rw [k38.2]; decide) (by omega) (ik_ne k38 z7 (by decide)) (by omega) (ik_ne k38 z9 (by decide)) (by omega) (by omega) (by omega)
  have H39 := F8 _ k39.1 (by rw [k39.2]; decide) (by omega) (fun e => d4 e.symm) (by omega) (fun e => d5 e.symm) (by omega) (by omega) (by omega)
  have SO : ∀ d, pl x d → giC X d 0 = giC Sk d 0 := fun d o => by
    have k := pl.lt hk.ci hk.k1 o
    exact F8 d k.1 (by rw [k.2]; decide) (ik_ne k k7 (by decide)) (ik_ne k z7 (by decide)) (ik_ne k k9 (by decide)) (ik_ne k z9 (by decide)) (ik_ne k k11 (by decide)) (ik_ne k k12 (by decide)) (ik_ne k hk.k1 (by decide)) 0
  have CQ : ∀ g j, g < 10 → j < (T1 (rP y g)).length → cq S1 ((T1 (rP y g)).getD j 0) X ((Tk (rP x g)).getD j 0) := fun g j hg hj => by
    obtain ⟨l, q⟩ := b1 g hg hg
    exact (q j hj).r (M8 _ (hk.ci.tk _ _ (gD_mem (by omega))).1)
  have LE : ∀ g, g < 10 → (Tk (rP x g)).length = (T1 (rP y g)).length := fun g hg => (b1 g hg hg).1
  have LM : ∀ g i, hL H g i → i < (T1 (rP y g)).length := fun g i l => wR.mem rw' l
  have c0 : ∀ g i k, hL H g i → (k ≤ 11 ∨ k = 14) → giC X ((Tk (rP x g)).getD i 0) k = giC S1 ((T1 (rP y g)).getD i 0) k := fun g i k l hk' => (CQ g i l.1 (LM g i l)).1 k hk'
  -- the ledgers' rows
  have zz7 : iK S5 ((grC S5 (x + 7) 2).getD 0) 20 := (h5.ci.wf.w2 w5.1.2.2.2.2.1).2.1.2
  have zz9 : iK S6 ((grC S6 (x + 9) 2).getD 0) 20 := (h6.ci.wf.w2 w6.1.2.2.2.2.2.1).2.1.2
  have le5 : Sk.1 ≤ S5.1 := g5.2.1.1.1
  have le6 : S5.1 ≤ S6.1 := g6.2.1.1.1
  have v57 : (grC S5 (x + 7) 2).getD 0 = (grC Sk (x + 7) 2).getD 0 ∨ Sk.1 ≤ (grC S5 (x + 7) 2).getD 0 := g5.2.2.2.2.1
  have v69 : (grC S6 (x + 9) 2).getD 0 = (grC Sk (x + 9) 2).getD 0 ∨ S5.1 ≤ (grC S6 (x + 9) 2).getD 0 := by rw [← r9]; exact g6.2.2.2.2.1
  have b11 := k11.1
  have b12 := k12.1
  have bz9 := z9.1
  have bz39 := k39.1
  have n79 : (grC S5 (x + 7) 2).getD 0 ≠ (grC Sk (x + 9) 2).getD 0 := fun e => by
    rcases v57 with v | v
    · exact d3 (v.symm.trans e)
    · omega
  have n712 : (grC S5 (x + 7) 2).getD 0 ≠ x + 12 := fun e => by
    rcases v57 with v | v
    · exact o7 _ k11 (v.symm.trans e)
    · omega
  have n912 : (grC S6 (x + 9) 2).getD 0 ≠ x + 12 := fun e => by
    rcases v69 with v | v
    · exact o9 _ k11 (v.symm.trans e)
    · omega
  have k7S5 : iK S5 (x + 7) 2 := w5.1.2.2.2.2.1
  have R7 : grC X (x + 7) 2 = grC S5 (x + 7) 2 := by
    have k76 := k7S5.n g6.2.1
    rw [rX, g7.2.2 _ k76.1 k76.2]
    unfold grC
    rw [fx6 _ k7S5.1 (by omega) (ik_ne k7S5 (z9.n g5.2.1) (by decide))]
  have V7 : ∀ k, giC X (x + 7) k = giC S5 (x + 7) k := fun k => by
    have k76 := k7S5.n g6.2.1
    rw [gXo _ _ (by omega), g7.2.1 _ k76.1 (by rw [k76.2]; decide) (fun e => e.elim (by omega) (by omega))]
    unfold giC
    rw [fx6 _ k7S5.1 (by omega) (ik_ne k7S5 (z9.n g5.2.1) (by decide))]
  have Z7 : ∀ k, giC X ((grC S5 (x + 7) 2).getD 0) k = giC S5 ((grC S5 (x + 7) 2).getD 0) k := fun k => by
    have k76 := zz7.n g6.2.1
    rw [gXo _ _ (ik_ne zz7 h5.k1 (by decide)), g7.2.1 _ k76.1 (by rw [k76.2]; decide) (fun e => e.elim (ik_ne zz7 w5.1.2.2.2.2.2.2 (by decide)) n712)]
    unfold giC
    rw [fx6 _ zz7.1 (ik_ne zz7 k95 (by decide)) n79]
  have k9S6 : iK S6 (x + 9) 2 := w6.1.2.2.2.2.2.1
  have R9 : grC X (x + 9) 2 = grC S6 (x + 9) 2 := by rw [rX, g7.2.2 _ k9S6.1 k9S6.2]
  have V9 : ∀ k, giC X (x + 9) k = giC S6 (x + 9) k := fun k => by
    rw [gXo _ _ (by omega), g7.2.1 _ k9S6.1 (by rw [k9S6.2]; decide) (fun e => e.elim (by omega) (by omega))]
  have Z9 : ∀ k, giC X ((grC S6 (x + 9) 2).getD 0) k = giC S6 ((grC S6 (x + 9) 2).getD 0) k := fun k => by
    rw [gXo _ _ (ik_ne zz9 h6.k1 (by decide)), g7.2.1 _ zz9.1 (by rw [zz9.2]; decide) (fun e => e.elim (ik_ne zz9 w6.1.2.2.2.2.2.2 (by decide)) n912)]
  have L7 : lcl X (x + 7) = lcl S5 (x + 7) := by
    unfold lcl
    rw [R7, lX, (g7.1.2 _ (Nat.lt_of_lt_of_le zz7.1 le6)).2, (g6.2.1.2 _ zz7.1).2]
  have L9 : lcl X (x + 9) = lcl S6 (x + 9) := by
    unfold lcl
    rw [R9, lX, (g7.1.2 _ zz9.1).2]
  have o7' : ∀ q, iK X q 6 → (grC S5 (x + 7) 2).getD 0 ≠ q + 1 := fun q k e => by
    have kq := iX q 6 (by decide) k
    rcases v57 with v | v
    · exact o7 q kq (v.symm.trans e)
    · have := (hk.ci.wf.w6 kq).1.1.1
      omega
  have o9' : ∀ q, iK X q 6 → (grC S6 (x + 9) 2).getD 0 ≠ q + 1 := fun q k e => by
    have kq := iX q 6 (by decide) k
    rcases v69 with v | v
    · exact o9 q kq (v.symm.trans e)
    · have := (hk.ci.wf.w6 kq).1.1.1
      omega
  have n77 : (grC S5 (x + 7) 2).getD 0 ≠ (grC S6 (x + 9) 2).getD 0 := fun e => by
    rcases v69 with v | v
    · exact n79 (e.trans v)
    · have := zz7.1
      omega
  have n739 : (grC S5 (x + 7) 2).getD 0 ≠ x + 39 := fun e => by
    rcases v57 with v | v
    · exact d4 (v.symm.trans e)
    · omega
  have n939 : (grC S6 (x + 9) 2).getD 0 ≠ x + 39 := fun e => by
    rcases v69 with v | v
    · exact d5 (v.symm.trans e)
    · omega
  have E7 : ∀ i : Nat, (i : Int) < 7 * (H.1 7).toInt → giC X ((grC S5 (x + 7) 2).getD 0) i = giC S1 ((grC S1 (y + 7) 2).getD 0) i := fun i hi => by
    rw [Z7, v5 i (by rw [gy7, gy7, a1, f1, t7]; omega), ry7, gz7]
  have E9 : ∀ i : Nat, (i : Int) < 5 * (H.1 8).toInt → giC X ((grC S6 (x + 9) 2).getD 0) i = giC S1 ((grC S1 (y + 9) 2).getD 0) i := fun i hi => by
    rw [Z9, v6 i (by rw [gy9, gy9, e1, f2, t5]; omega), ry9, gz9]
  have s511 : S6.2.2 (y + 11) = S1.2.2 (y + 11) := fy6 _ k11y.1 (cyj 11 (by omega))
  have s512 : S6.2.2 (y + 12) = S1.2.2 (y + 12) := fy6 _ k12y.1 (cyj 12 (by omega))
  have T1x : giC X (x + 11) 1 = giC S1 (y + 11) 1 := by
    rw [gXo _ _ (by omega), e7]
    unfold giC
    rw [s511]
  have X8 : giC X x 8 = giC S1 y 8 := by rw [gX, if_neg (fun e => absurd e.2 (by decide)), if_pos ⟨rfl, rfl⟩, gy]
  obtain ⟨⟨p0, p1, p2, p3, p4, p5⟩, p6, p7, p8⟩ := rh
  refine ⟨X, c6, eB, u.1, ⟨⟨by rw [H37, b3.1 0 (by omega)]; exact p0, by rw [H37, b3.1 2 (by omega)]; exact p1, by rw [H37, b3.1 3 (by omega)]; exact p2, by rw [H37, b3.1 4 (by omega)]; exact p3, by rw [H37, b3.1 5 (by omega)]; exact p4, by rw [H37, b3.1 6 (by omega)]; exact p5⟩, fun s h1 h2 => ?_, fun k hk' => by rw [H39, b3.2.2 k hk']; exact p7 k hk', p8⟩, fun g hg => ⟨by rw [LE g hg]; exact (rw' g hg).1, fun i hi => ((rw' g hg).2 i (by rw [← LE g hg]; exact hi)).cq (CQ g i hg (by rw [← LE g hg]; exact hi))⟩, ⟨by rw [SO _ (Or.inl rfl), so.1]; exact ro.1, fun p hp => by rw [SO _ (Or.inr ⟨p, hp, rfl⟩), so.2 p hp]; exact ro.2.1 p hp, fun g hg l t => by rw [c0 g 0 10 l (Or.inl (by omega))]; exact ro.2.2.1 g hg l t, ro.2.2.2.1, ro.2.2.2.2⟩, ⟨⟨by rw [V7, e5, gy7]; exact a1, ?_, fun i j hi hj => by rw [R7, E7 (7 * i + j) (by omega)]; exact a3 i j hi hj⟩, ⟨by rw [V9, e6, gy9]; exact e1, ?_, fun i j hi hj => by rw [R9, E9 (5 * i + j) (by omega)]; exact e3 i j hi hj⟩, ⟨by rw [V7, g5.2.2.2.2.2.1.1]; exact x70, ?_⟩, fun q k => by rw [R7]; exact o7' q k, fun q k => by rw [R9]; exact o9' q k, by rw [R7, R9]; exact n77, by rw [R7]; exact n739, by rw [R9]; exact n939, fun i hi => by rw [R7, E7 _ (by omega)]; exact d6 i hi⟩, ⟨⟨⟨?_, fun _ => ?_⟩, q9, fun e => ⟨(qa e).1, by rw [T1x]; exact (qa e).2⟩, fun e => by rw [T1x]; exact qb e, fun i hi => ?_⟩, fun q k => ?_, rs.2⟩, ⟨by rw [X8]; exact n1, fun g i l t => by rw [c0 g i 0 l (Or.inl (by omega)), X8]; exact n2 g i l t, fun g i g' i' l t l' t' k0 e => by
      rw [c0 g i 0 l (Or.inl (by omega)), c0 g' i' 0 l' (Or.inl (by omega))] at e
      rw [c0 g i 0 l (Or.inl (by omega))] at k0
      exact n3 g i g' i' l t l' t' k0 e, fun j l t d k => ?_⟩⟩
  · rw [H38, b3.2.1 s h1, p6 s h1 h2]
    rcases p8.2 s h2 with e | e <;> rw [e] <;> rfl
  · rw [L7]
    rw [gy7, gy7, a1, f1, t7] at l5
    omega
  · rw [L9]
    rw [gy9, gy9, e1, f2, t5] at l6
    omega
  · rw [V9, g6.2.2.2.2.2.1.1]
    unfold giC
    rw [s9]
    exact x90
  · rw [gX, if_neg (fun e => absurd e.2 (by decide)), if_neg (fun e => absurd e.2 (by decide)), if_pos ⟨rfl, rfl⟩, gy]
    exact q7
  · rw [gX, if_pos ⟨rfl, rfl⟩, h10]
  · have e9 : H.1 9 ≠ 0 := fun e => by
      have em : (-1 : Int32).toInt = -1 := by decide
      rw [(qa e).1, em] at hi
      omega
    have ew : giC S6 (y + 11) 1 = H.1 39 := by
      have : giC S6 (y + 11) 1 = giC S1 (y + 11) 1 := by
        unfold giC
        rw [s511]
      rw [this]
      exact qb e9
    rw [gXo _ _ (by omega), show giC S7 (x + 12) i = giC S6 (y + 11 + 1) i from v7 i (by rw [ew]; exact hi)]
    have : giC S6 (y + 11 + 1) i = giC S1 (y + 12) i := by
      show giC S6 (y + 12) i = _
      unfold giC
      rw [s512]
    rw [this]
    exact qc i hi
  · have kq := iX q 3 (by decide) k
    rw [vCn_cg (M8 q kq 3 (by omega)), show giC X q 14 = giC Sk q 14 from M8 q kq 0 (by omega) 14]
    exact b4 q kq
  · obtain ⟨m1, m2, m3, m4⟩ := n4 j l t d k
    rw [c0 j 0 1 l (Or.inl (by omega)), X8]
    refine ⟨m1, m2, fun g i l' t' => ?_, m4⟩
    rw [c0 g i 0 l' (Or.inl (by omega))]
    exact m3 g i l' t'
end
end
section
/-! ===== become, whole; another assembly stands ===== -/
section
variable {wF : Prop × (Nat → Int32) × Int32 × (Nat → Int32)} {E : Nat → Prop} {x y : Nat} {S S1 S2 S3 S4 Sk : Cst} {T T1 T2 T3 Tk : Nat → List Nat} {F F1 : List Nat} {col c1 c2 c3 ck : Nat → Nat} {H H2 G R : HS} {N N2 M M2 : Int}
theorem SV.so (s : SV x y S1 8 Sk) (e : ∀ d, pl x d → giC S3 d 0 = giC Sk d 0) : SV x y S1 8 S3 := ⟨(e _ (Or.inl rfl)).trans s.1, fun p hp => (e _ (Or.inr ⟨p, hp, rfl⟩)).trans (s.2 p hp)⟩
theorem bec_l (h0 : CI noE S1 T1 [] c1) (ky : iK S1 y 0) (ny : y ≠ x) : ∀ (n : Nat) (Sk : Cst) (Tk : Nat → List Nat) (ck : Nat → Nat) (i : Int32), Sst noE x S1 T1 [] c1 Sk Tk [] ck → 0 ≤ i.toInt → i.toInt ≤ 8 → 8 - i.toInt < n → BV x y S1 T1 (fun g => g < i.toNatClampNeg + 2) Sk Tk → SV x y S1 i.toNatClampNeg Sk → ∃ S2 T2 c2 j, lp_Y0_become_61 x y n Sk i = b_Y0_become_124a ((f_Y3_become S2 (x + 7) (y + 7)).2) x y j ∧ Sst noE x S1 T1 [] c1 S2 T2 [] c2 ∧ BV x y S1 T1 (fun g => g < 10) S2 T2 ∧ SV x y S1 8 S2 := by
  have e8 : (8 : Int32).toInt = 8 := by decide
  intro n
  induction n with
  | zero => intro Sk Tk ck i hk h1 h2 h3; omega
  | succ n ih =>
    intro Sk Tk ck i hk h1 h2 h3 b so
    have kyk := ky.n hk.en
    have hn := iNat h1
    have w0 := hk.ci.wf.w0 hk.k1
    have y0 := hk.ci.wf.w0 kyk
    rw [lp_Y0_become_61]
    unfold st_Y0_become_61
    by_cases c : i.toInt = 8
    · have c8 : 8 ≤ i := iLe.mpr (by rw [e8]; omega)
      have en : i.toNatClampNeg = 8 := by omega
      rw [if_pos c8, w0.2.1.2.2.2.2.1, y0.2.1.2.2.2.2.1, Option.getD_some, Option.getD_some]
      rw [en] at b so
      exact ⟨Sk, Tk, ck, i, rfl, hk, b, so⟩
    · have c8 : ¬ 8 ≤ i := fun z => by have := iLe.mp z; rw [e8] at this; omega
      rw [if_neg c8]
      have hp : i.toNatClampNeg < 8 := by omega
      have dx := dk_ix hk.ci.wf hk.k1 hp
      have dy := dk_ix hk.ci.wf kyk hp
      rw [dx.1, dy.1]
      simp only [Option.getD_some]
      have o : pl x (x + 13 + 3 * i.toNatClampNeg) := Or.inr ⟨_, hp, rfl⟩
      have h2' := hk.sort o (giC Sk (y + 13 + 3 * i.toNatClampNeg) 0)
      have bm := b.so hk o (giC Sk (y + 13 + 3 * i.toNatClampNeg) 0)
      have ek : eK Sk (siC Sk (x + 13 + 3 * i.toNatClampNeg) 0 (giC Sk (y + 13 + 3 * i.toNatClampNeg) 0)) := eK.si ..
      have hS : ∀ q k, q ≠ x + 13 + 3 * i.toNatClampNeg → giC (siC Sk (x + 13 + 3 * i.toNatClampNeg) 0 (giC Sk (y + 13 + 3 * i.toNatClampNeg) 0)) q k = giC Sk q k := fun q k z => by rw [gi_si, if_neg (fun w => z w.1)]
      have hv : giC (siC Sk (x + 13 + 3 * i.toNatClampNeg) 0 (giC Sk (y + 13 + 3 * i.toNatClampNeg) 0)) (x + 13 + 3 * i.toNatClampNeg) 0 = giC Sk (y + 13 + 3 * i.toNatClampNeg) 0 := by rw [gi_si, if_pos ⟨rfl, rfl⟩]
      generalize siC Sk (x + 13 + 3 * i.toNatClampNeg) 0 (giC Sk (y + 13 + 3 * i.toNatClampNeg) 0) = Sm at h2' bm ek hS hv ⊢
      have kym := kyk.e ek
      have dx2 := dk_ix h2'.ci.wf h2'.k1 hp
      have dy2 := dk_ix h2'.ci.wf kym hp
      rw [dx2.1, dy2.1]
      simp only [Option.getD_some]
      have wx := h2'.ci.wf.w5 dx2.2
      have wy := h2'.ci.wf.w5 dy2.2
      rw [wx.2, wy.2]
      obtain ⟨S3, T3, c3, f, g1, b3, s3⟩ := bm.cp h2' h0 ky ny (g0 := i.toNatClampNeg + 2) (by omega) (by omega)
      have f : f_Y0_copy Sm x (y + 13 + 3 * i.toNatClampNeg + 1) (x + 13 + 3 * i.toNatClampNeg + 1) = (0, S3) := f
      unfold b_Y0_become_104a b_Y0_become_107a
      simp only [Option.getD_some]
      rw [f]
      have e1 := iAdd (x := i) (y := 1) (by rw [i1]; omega) (by rw [i1]; omega)
      rw [i1] at e1
      have hn1 := iNat (x := i + 1) (by omega)
      have es : (i + 1).toNatClampNeg = i.toNatClampNeg + 1 := by omega
      have kyp : iK S1 (y + 13 + 3 * i.toNatClampNeg) 5 := (dk_ix h0.wf ky hp).2
      have sy : giC Sk (y + 13 + 3 * i.toNatClampNeg) 0 = giC S1 (y + 13 + 3 * i.toNatClampNeg) 0 := by
        unfold giC
        rw [hk.fr _ kyp.1 (by rw [show y + 13 + 3 * i.toNatClampNeg = y + (13 + 3 * i.toNatClampNeg) by omega, h0.c0 y ky _ (by omega)]; exact ny)]
      exact ih S3 T3 c3 (i + 1) g1 (by omega) (by omega) (by omega) (b3.mo (fun g hg => by rw [es]; omega)) ⟨by rw [s3 _ (Or.inl rfl), hS _ _ (by omega)]; exact so.1, fun p hp' => by
        rw [s3 _ (Or.inr ⟨p, by omega, rfl⟩)]
        by_cases e : p = i.toNatClampNeg
        · rw [e, hv, sy]
        · rw [hS _ _ (by omega)]
          exact so.2 p (by omega)⟩
theorem become_sim (h : Sst noE x S T [] col S1 T1 [] c1) (ky : iK S1 y 0) (ny : y ≠ x) (hy : PI S1 T1 y) (sv : sV S1) (jx : jS S1 x) {z : (Nat → Int32) × Int32 × (Nat → Int32)} (r : RR (False, z) N S1 T1 y H) (h10 : H.1 10 = 0) : ∃ S2 T2 c2, f_Y0_become S1 x y = (0, S2) ∧ AS x S T col S2 T2 c2 ∧ RR (True, z) N S2 T2 x H := by
  have h1 : Sst noE x S1 T1 [] c1 S1 T1 [] c1 := Sst.rf h.ci h.k1 (fun q m => by cases m)
  have o3 : pl x (x + 3) := Or.inl rfl
  have cyj : ∀ r, r < 40 → c1 (y + r) = y := fun r hr => h.ci.c0 y ky r hr
  have cyn : ∀ r, r < 40 → c1 (y + r) ≠ x := fun r hr => by rw [cyj r hr]; exact ny
  obtain ⟨-, S2, T2, f1, f2, f3, f4⟩ := y_clear noE_n h1
  have n1 : S2.1 = S1.1 := by
    have := n1_clear h1
    rw [f1] at this
    exact this
  have w2 := f2.ci.wf.w0 f2.k1
  have ky2 := ky.n f2.en
  have y2 := f2.ci.wf.w0 ky2
  obtain ⟨-, v, S3, g1, u3⟩ := y_hbecome f2 ky2
  obtain ⟨S3', g1', hc, he⟩ := hbec_v f2.ci.wf f2.k1 ky2 (fun e => ny e.symm)
  obtain ⟨-, rfl⟩ := Prod.mk.inj (g1.symm.trans g1')
  have h3 := u3.1
  have w3 := u3.w0
  have y3 := h3.ci.wf.w0 (ky.n h3.en)
  have yy := h.ci.wf.w0 ky
  have yk37 : iK S1 (y + 37) 1 := yy.1.1
  have yw1 := h.ci.wf.w1 yk37
  have fyc : ∀ q, q < S1.1 → c1 q ≠ x → S2.2.2 q = S1.2.2 q := f2.fr
  have k7 : iK S1 (x + 7) 2 := (h.ci.wf.w0 h.k1).1.2.2.2.2.1
  have k9 : iK S1 (x + 9) 2 := (h.ci.wf.w0 h.k1).1.2.2.2.2.2.1
  have sv2 : sV S2 := sv.gx f3 h.ci.wf (fun q kq j hj => by
    have W := W3k h.ci.wf kq
    show ¬ kdC S1 (q + j) = 5
    rcases (show j = 0 ∨ j = 1 ∨ j = 2 ∨ j = 3 by omega) with rfl | rfl | rfl | rfl
    · exact fun e => absurd (kq.2.symm.trans e) (by decide)
    · exact fun e => absurd (W.1.2.symm.trans e) (by decide)
    · exact fun e => absurd (W.2.1.2.symm.trans e) (by decide)
    · exact fun e => absurd (W.2.2.2.symm.trans e) (by decide)) (fun q k => ik_b k f3.1 n1)
  have j2 : jS S2 x := jx.gx h.ci h.k1 f3 (fun e => absurd (k7.2.symm.trans e) (by decide)) (fun e => absurd (k9.2.symm.trans e) (by decide))
  have m3 : ∀ q, iK S2 q 3 → ∀ j, j < 4 → ∀ k, giC S3 (q + j) k = giC S2 (q + j) k := fun q kq j hj k => by
    obtain ⟨a, b, c⟩ := mo_h f2.ci f2.k1 kq hj
    exact hc.1 _ k a b c
  have sv3 : sV S3 := fun q k => by
    have kq := hc.2.2.2 q 3 k
    rw [vCn_cg (m3 q kq 3 (by omega)), show giC S3 q 14 = giC S2 q 14 from m3 q kq 0 (by omega) 14]
    exact sv2 q kq
  have j3 : jS S3 x := by
    obtain ⟨⟨a, b⟩, c, d, e, f, g⟩ := j2
    have r7 : grC S3 (x + 7) 2 = grC S2 (x + 7) 2 := hc.2.1 _ _
    have r9 : grC S3 (x + 9) 2 = grC S2 (x + 9) 2 := hc.2.1 _ _
    refine ⟨⟨(hc.1 _ 0 (by omega) (by omega) (by omega)).trans a, (hc.1 _ 0 (by omega) (by omega) (by omega)).trans b⟩, fun q k => ?_, fun q k => ?_, by rw [r7, r9]; exact e, by rw [r7]; exact f, by rw [r9]; exact g⟩
    · rw [r7]
      exact c q (hc.2.2.2 q 6 k)
    · rw [r9]
      exact d q (hc.2.2.2 q 6 k)
  have he1 : hE S1 y S3 x := by
    obtain ⟨a, b, c⟩ := he
    have e37 : S2.2.2 (y + 37) = S1.2.2 (y + 37) := fyc _ yk37.1 (cyn 37 (by omega))
    have e38 : S2.2.2 (y + 38) = S1.2.2 (y + 38) := fyc _ yw1.1.1.1 (cyn 38 (by omega))
    have e39 : S2.2.2 (y + 39) = S1.2.2 (y + 39) := fyc _ yw1.1.2.2.1.1 (cyn 39 (by omega))
    refine ⟨fun k hk => ?_, fun s hs => ?_, fun k hk => ?_⟩
    · rw [a k hk]
      unfold giC
      rw [e37]
    · rw [b s hs]
      unfold giC
      rw [e38]
    · rw [c k hk]
      unfold giC
      rw [e39]
  have T0 : ∀ g, g < 10 → T2 (rP x g) = [] := fun g hg => by
    match g, hg with
    | 0, _ => exact f4.1
    | 1, _ => exact f4.2.1
    | p + 2, hg =>
      have := (f4.2.2.2 p (by omega)).2
      rw [rP_p, show x + 13 + 3 * p + 1 = x + 14 + 3 * p by omega]
      exact this
  have B0 : BV x y S1 T1 (fun _ => False) S3 T2 := ⟨fun _ _ d => d.elim, fun g hg _ => T0 g hg, he1, sv3, j3⟩
  obtain ⟨S4, T4, c4, g4, k4, B4, s4⟩ := B0.cp h3 h.ci ky ny (g0 := 0) (by omega) not_false
  have g4 : f_Y0_copy S3 x (y + 1) (x + 1) = (0, S4) := g4
  have w4 := k4.ci.wf.w0 k4.k1
  have y4 := k4.ci.wf.w0 (ky.n k4.en)
  have h5 := k4.sort o3 (giC S4 (y + 3) 0)
  have B5 := B4.so k4 o3 (giC S4 (y + 3) 0)
  have hv5 : giC (siC S4 (x + 3) 0 (giC S4 (y + 3) 0)) (x + 3) 0 = giC S4 (y + 3) 0 := by rw [gi_si, if_pos ⟨rfl, rfl⟩]
  have sy : giC S4 (y + 3) 0 = giC S1 (y + 3) 0 := by
    unfold giC
    rw [k4.fr _ yy.1.2.2.1.1 (cyn 3 (by omega))]
  have w5 := h5.ci.wf.w0 h5.k1
  have y5 := h5.ci.wf.w0 (ky.n h5.en)
  have wx5 := h5.ci.wf.w5 w5.1.2.2.1
  have wy5 := h5.ci.wf.w5 y5.1.2.2.1
  obtain ⟨S6, T6, c6, g6, k6, B6, s6⟩ := B5.cp h5 h.ci ky ny (g0 := 1) (by omega) (by simp)
  have g6 : f_Y0_copy (siC S4 (x + 3) 0 (giC S4 (y + 3) 0)) x (y + 3 + 1) (x + 3 + 1) = (0, S6) := g6
  obtain ⟨S7, T7, c7, j7, g7, k7', B7, s7⟩ := bec_l h.ci ky ny 100000 S6 T6 c6 0 k6 (by rw [i0]; omega) (by rw [i0]; omega) (by rw [i0]; omega) (B6.mo (fun g hg => by rw [zn0]; simp; omega)) ⟨by rw [s6 _ (Or.inl rfl), hv5, sy], fun p hp => by rw [zn0] at hp; omega⟩
  obtain ⟨S8, c8, g8, k8, r8⟩ := abec_v k7' B7 s7 h.ci ky ny r h10 j7
  have eF : f_Y0_become S1 x y = (0, S8) := by
    unfold f_Y0_become b_Y0_become_4a
    rw [f1]
    simp only
    rw [w2.2.1.1, y2.2.1.1]
    simp only [Option.getD_some]
    rw [g1]
    unfold b_Y0_become_15a
    simp only
    rw [w3.2.1.2.1, y3.2.1.2.1]
    simp only [Option.getD_some]
    rw [g4]
    unfold b_Y0_become_27a
    simp only
    rw [w4.2.1.2.2.1, y4.2.1.2.2.1]
    simp only [Option.getD_some]
    rw [w5.2.1.2.2.1, y5.2.1.2.2.1]
    simp only [Option.getD_some]
    rw [wx5.2, wy5.2]
    unfold b_Y0_become_56a
    simp only [Option.getD_some]
    rw [g6]
    unfold b_Y0_become_59a
    exact g7.trans g8
  obtain ⟨v', S9, T9, c9, f9, -, a9, -⟩ := y_abecome h ky ny hy
  obtain ⟨-, rfl⟩ := Prod.mk.inj (eF.symm.trans f9)
  exact ⟨S8, T9, c9, eF, a9, RR.tP r8 (fun g hg => T_eq a9.ci k8.ci (rP_k a9.ci.wf a9.k1 hg))⟩
/-- another assembly stands -/
theorem RR.og (r : RR wF N S T y H) (ci : CI noE S T [] col) (ky : iK S y 0) (en : eN S S2) (wf2 : wfS S2) (fr : ∀ q, q < S.1 → col q = y → S2.2.2 q = S.2.2 q) (ft : ∀ c, c < S.1 → col c = y → T2 c = T c) (sv2 : sV S2) : RR wF N S2 T2 y H := by
  have w0 := ci.wf.w0 ky
  have cy : ∀ r, r < 40 → col (y + r) = y := fun r hr => ci.c0 y ky r hr
  have gi : ∀ j k, j < 40 → (∃ c, iK S (y + j) c) → giC S2 (y + j) k = giC S (y + j) k := fun j k hj ⟨c, kk⟩ => by
    unfold giC
    rw [fr _ kk.1 (cy j hj)]
  have w1 := ci.wf.w1 w0.1.1
  have k12 : iK S (y + 12) 20 := (ci.wf.w6 w0.1.2.2.2.2.2.2).1.1
  have te : ∀ g, g < 10 → T2 (rP y g) = T (rP y g) := fun g hg => by
    obtain ⟨j, hj, e⟩ := (rP_own (x := y) hg).1.lt
    exact ft _ (rP_k ci.wf ky hg).1 (by rw [e]; exact cy j hj)
  have cg : ∀ g, g < 10 → col (rP y g) = y := fun g hg => by
    obtain ⟨j, hj, e⟩ := (rP_own (x := y) hg).1.lt
    rw [e]
    exact cy j hj
  have hQ : mQ T y S S2 := fun g hg q m j hj k => by
    have kq := ci.tk _ q m
    have W := W3k ci.wf kq.1
    have b : q + j < S.1 := by
      rcases (show j = 0 ∨ j = 1 ∨ j = 2 ∨ j = 3 by omega) with rfl | rfl | rfl | rfl
      · exact kq.1.1
      · exact W.1.1
      · exact W.2.1.1
      · exact W.2.2.1
    unfold giC
    rw [fr _ b (by rw [ci.c3 q kq.1 j hj, kq.2, cg g hg])]
  have so : ∀ d, pl y d → giC S2 d 0 = giC S d 0 := fun d o => by
    have k := pl.lt ci ky o
    obtain ⟨j, hj, e⟩ := o.o.2.2
    unfold giC
    rw [fr _ k.1 (by rw [e]; exact cy j hj)]
  have s := sH.rf H
  obtain ⟨rh, rw', ro, ⟨⟨a1, a2, a3⟩, ⟨e1, e2, e3⟩, ⟨f1, f2⟩, o7, o9, d3, d4, d5, d6⟩, ⟨⟨⟨q7, q8⟩, q9, qa, qb, qc⟩, rs⟩, rn⟩ := r
  have k7 : iK S (y + 7) 2 := w0.1.2.2.2.2.1
  have k9 : iK S (y + 9) 2 := w0.1.2.2.2.2.2.1
  have z7 := (ci.wf.w2 k7).2.1.2
  have z9 := (ci.wf.w2 k9).2.1.2
  have g7 := fun k => gi 7 k (by omega) ⟨_, k7⟩
  have g9 := fun k => gi 9 k (by omega) ⟨_, k9⟩
  have r7 : grC S2 (y + 7) 2 = grC S (y + 7) 2 := by unfold grC; rw [fr _ k7.1 (cy 7 (by omega))]
  have r9 : grC S2 (y + 9) 2 = grC S (y + 9) 2 := by unfold grC; rw [fr _ k9.1 (cy 9 (by omega))]
  have gz7 : ∀ k, giC S2 ((grC S (y + 7) 2).getD 0) k = giC S ((grC S (y + 7) 2).getD 0) k := fun k => by unfold giC; rw [fr _ z7.1 ((ci.c2 _ k7).trans (cy 7 (by omega)))]
  have gz9 : ∀ k, giC S2 ((grC S (y + 9) 2).getD 0) k = giC S ((grC S (y + 9) 2).getD 0) k := fun k => by unfold giC; rw [fr _ z9.1 ((ci.c2 _ k9).trans (cy 9 (by omega)))]
  have l7 : lcl S2 (y + 7) = lcl S (y + 7) := by unfold lcl; rw [r7]; exact (en.2 _ z7.1).2
  have l9 : lcl S2 (y + 9) = lcl S (y + 9) := by unfold lcl; rw [r9]; exact (en.2 _ z9.1).2
  have oz' : ∀ l, l = y + 7 ∨ l = y + 9 → grC S2 l 2 = grC S l 2 → (grC S l 2).getD 0 < S.1 → oz S l → oz S2 l := fun l _ e b o q k => by
    rw [e]
    by_cases y : q < S.1
    · exact o q ⟨y, by rw [← (en.2 q y).1]; exact k.2⟩
    · omega
  have g0 := fun k => gi 0 k (by omega) ⟨_, ky⟩
  have g11 := fun k => gi 11 k (by omega) ⟨_, w0.1.2.2.2.2.2.2⟩
  have g12 := fun k => gi 12 k (by omega) ⟨_, k12⟩
  have g37 := fun k => gi 37 k (by omega) ⟨_, w0.1.1⟩
  have g38 := fun k => gi 38 k (by omega) ⟨_, w1.1.1⟩
  have g39 := fun k => gi 39 k (by omega) ⟨_, w1.1.2.2.1⟩
  have g0 : ∀ k, giC S2 y k = giC S y k := g0
  obtain ⟨⟨p0, p1, p2, p3, p4, p5⟩, p6, p7, p8⟩ := rh
  have big : RR wF N S2 T y H := ⟨⟨⟨(g37 0).trans p0, (g37 2).trans p1, (g37 3).trans p2, (g37 4).trans p3, (g37 5).trans p4, (g37 6).trans p5⟩, fun s h1 h2 => (g38 s).trans (p6 s h1 h2), fun k hk => (g39 k).trans (p7 k hk), p8⟩, rw'.cg s (fun _ _ => rfl) hQ, ro.cg rw' s (fun _ _ => rfl) hQ (so _ (Or.inl rfl)) (fun p hp => so _ (Or.inr ⟨p, hp, rfl⟩)), ⟨⟨(g7 3).trans a1, by rw [l7]; exact a2, fun i j hi hj => by rw [r7, gz7]; exact a3 i j hi hj⟩, ⟨(g9 3).trans e1, by rw [l9]; exact e2, fun i j hi hj => by rw [r9, gz9]; exact e3 i j hi hj⟩, ⟨(g7 0).trans f1, (g9 0).trans f2⟩, oz' _ (Or.inl rfl) r7 z7.1 o7, oz' _ (Or.inr rfl) r9 z9.1 o9, by rw [r7, r9]; exact d3, by rw [r7]; exact d4, by rw [r9]; exact d5, fun i hi => by rw [r7, gz7]; exact d6 i hi⟩, ⟨⟨⟨(g0 7).trans q7, fun w => (g0 9).trans (q8 w)⟩, q9, fun e => ⟨(qa e).1, (g11 1).trans (qa e).2⟩, fun e => (g11 1).trans (qb e), fun i hi => (g12 i).trans (qc i hi)⟩, sv2, rs.2⟩, rn.cg rw' s (fun _ _ => rfl) hQ (g0 8)⟩
  exact big.tP te
theorem RR.oth (r : RR wF N S T y H) (ci : CI noE S T [] col) (ky : iK S y 0) (ny : y ≠ x) (g : Sst noE x S T [] col S2 T2 [] c2) (sv2 : sV S2) : RR wF N S2 T2 y H := r.og ci ky g.en g.ci.wf (fun q a e => g.fr q a (by rw [e]; exact ny)) (fun c a e => g.ft c a (by rw [e]; exact ny)) sv2
theorem jS.og (j : jS S y) (ci : CI noE S T [] col) (ky : iK S y 0) (en : eN S S2) (fr : ∀ q, q < S.1 → col q = y → S2.2.2 q = S.2.2 q) : jS S2 y := by
  have w0 := ci.wf.w0 ky
  have cy : ∀ r, r < 40 → col (y + r) = y := fun r hr => ci.c0 y ky r hr
  have k7 : iK S (y + 7) 2 := w0.1.2.2.2.2.1
  have k9 : iK S (y + 9) 2 := w0.1.2.2.2.2.2.1
  have z7 := (ci.wf.w2 k7).2.1.2
  have z9 := (ci.wf.w2 k9).2.1.2
  obtain ⟨⟨f1, f2⟩, o7, o9, d3, d4, d5⟩ := j
  have e7 := fr _ k7.1 (cy 7 (by omega))
  have e9 := fr _ k9.1 (cy 9 (by omega))
  have r7 : grC S2 (y + 7) 2 = grC S (y + 7) 2 := by unfold grC; rw [e7]
  have r9 : grC S2 (y + 9) 2 = grC S (y + 9) 2 := by unfold grC; rw [e9]
  have oz' : ∀ l, grC S2 l 2 = grC S l 2 → (grC S l 2).getD 0 < S.1 → oz S l → oz S2 l := fun l e b o q k => by
    rw [e]
    by_cases y : q < S.1
    · exact o q ⟨y, by rw [← (en.2 q y).1]; exact k.2⟩
    · omega
  refine ⟨⟨?_, ?_⟩, oz' _ r7 z7.1 o7, oz' _ r9 z9.1 o9, by rw [r7, r9]; exact d3, by rw [r7]; exact d4, by rw [r9]; exact d5⟩
  · unfold giC
    rw [e7]
    exact f1
  · unfold giC
    rw [e9]
    exact f2
end
end
section
/-! ===== what was done is done again: minutes and the state they lead to ===== -/
section
variable {wF : Prop × (Nat → Int32) × Int32 × (Nat → Int32)} {E : Nat → Prop} {x y : Nat} {S S1 S2 S3 S4 Sk : Cst} {T T1 T2 T3 Tk : Nat → List Nat} {F F1 : List Nat} {col c1 c2 c3 ck : Nat → Nat} {H H2 G R : HS} {N N2 M M2 : Int} {P Q : Nat → Int32}
/-- a row's acts, done one after another -/
def fol (P : Nat → Int32) (G : HS) : Nat → HS
  | 0 => G
  | k + 1 => (f_X11_act (fol P G k) (P (6 * k)) (P (6 * k + 1)) (P (6 * k + 2)) (P (6 * k + 3)) (P (6 * k + 4))).2
/-- the entries are acts, with their numbers and no more -/
def EN (P : Nat → Int32) (e : Nat) : Prop := ∀ k, k < e → (1 ≤ (P (6 * k)).toInt ∧ (P (6 * k)).toInt ≤ 22) ∧ nz (P (6 * k)) (P (6 * k + 1)) (P (6 * k + 2)) (P (6 * k + 3)) (P (6 * k + 4))
theorem fol_cg {k : Nat} (h : ∀ i, i < 6 * k → P i = Q i) : ∀ j, j ≤ k → fol P G j = fol Q G j := by
  intro j
  induction j with
  | zero => intro _; rfl
  | succ j ih =>
    intro hj
    rw [fol, fol, ih (by omega), h _ (by omega), h _ (by omega), h _ (by omega), h _ (by omega), h _ (by omega)]
theorem fol_ha {n : Int32} (hn : 1 ≤ n.toInt ∧ n.toInt ≤ 200) (hb : HB G) : ∀ k, HA (fol P (f_X11_begin G n).2 k) := by
  intro k
  induction k with
  | zero => exact (begin_i hb hn).2.1
  | succ k ih => exact (act_i ih _ _ _ _ _).2
/-- minutes of a class's assembly, from n seats on -/
def JX (S : Cst) (T : Nat → List Nat) (x : Nat) (n : Int32) (e : Nat) (P z : Nat → Int32) : Prop :=
  ((1 ≤ n.toInt ∧ n.toInt ≤ 200) ∧ e ≤ 600 ∧ EN P e) ∧ ((giC S (x + 7) 3).toInt = e ∧ (∀ i j, i < e → j < 6 → giC S ((grC S (x + 7) 2).getD 0) (7 * i + j) = P (6 * i + j)) ∧ ∀ i, i < e → giC S ((grC S (x + 7) 2).getD 0) (7 * i + 6) = z i) ∧
  ∀ H0, HB H0 → (∀ k, k < e → (f_X11_act (fol P (f_X11_begin H0 n).2 k) (P (6 * k)) (P (6 * k + 1)) (P (6 * k + 2)) (P (6 * k + 3)) (P (6 * k + 4))).1 = P (6 * k + 5) ∧ (fol P (f_X11_begin H0 n).2 (k + 1)).1 6 = z k) ∧ RR (False, z, n, (fol P (f_X11_begin H0 n).2 e).2 40) e S T x (fol P (f_X11_begin H0 n).2 e)
theorem JX.cg {n : Int32} {e : Nat} {z : Nat → Int32} (h : JX S T x n e P z) (c : ∀ i, i < 6 * e → Q i = P i) : JX S T x n e Q z := by
  obtain ⟨⟨a1, a2, a3⟩, ⟨b1, b2, b3⟩, b⟩ := h
  refine ⟨⟨a1, a2, fun k hk => ?_⟩, ⟨b1, fun i j hi hj => by rw [c _ (by omega)]; exact b2 i j hi hj, b3⟩, fun H0 hb => ?_⟩
  · rw [c _ (by omega), c _ (by omega), c _ (by omega), c _ (by omega), c _ (by omega)]
    exact a3 k hk
  · have f := fun j hj => fol_cg (k := e) (P := Q) (Q := P) (G := (f_X11_begin H0 n).2) c j hj
    obtain ⟨p1, p2⟩ := b H0 hb
    refine ⟨fun k hk => ?_, ?_⟩
    · rw [f k (by omega), f (k + 1) (by omega), c _ (by omega), c _ (by omega), c _ (by omega), c _ (by omega), c _ (by omega), c _ (by omega)]
      exact p1 k hk
    · rw [f e (Nat.le_refl _)]
      exact p2
/-- it stands when another one moves -/
theorem JX.og {n : Int32} {e : Nat} {z : Nat → Int32} (h : JX S T y n e P z) (ci : CI noE S T [] col) (ky : iK S y 0) (en : eN S S2) (wf2 : wfS S2) (fr : ∀ q, q < S.1 → col q = y → S2.2.2 q = S.2.2 q) (ft : ∀ c, c < S.1 → col c = y → T2 c = T c) (sv2 : sV S2) : JX S2 T2 y n e P z := by
  obtain ⟨a, ⟨b1, b2, b3⟩, b⟩ := h
  have w0 := ci.wf.w0 ky
  have k7 : iK S (y + 7) 2 := w0.1.2.2.2.2.1
  have z7 := (ci.wf.w2 k7).2.1.2
  have c7 : col (y + 7) = y := ci.c0 y ky 7 (by omega)
  have e7 := fr _ k7.1 c7
  have ez := fr _ z7.1 ((ci.c2 _ k7).trans c7)
  have r7 : grC S2 (y + 7) 2 = grC S (y + 7) 2 := by unfold grC; rw [e7]
  have gz : ∀ k, giC S2 ((grC S (y + 7) 2).getD 0) k = giC S ((grC S (y + 7) 2).getD 0) k := fun k => by unfold giC; rw [ez]
  refine ⟨a, ⟨?_, fun i j hi hj => by rw [r7, gz]; exact b2 i j hi hj, fun i hi => by rw [r7, gz]; exact b3 i hi⟩, fun H0 hb => ⟨(b H0 hb).1, (b H0 hb).2.og ci ky en wf2 fr ft sv2⟩⟩
  unfold giC
  rw [e7]
  exact b1
theorem JX.tP {n : Int32} {e : Nat} {z : Nat → Int32} (h : JX S T y n e P z) (eT : ∀ g, g < 10 → T2 (rP y g) = T (rP y g)) : JX S T2 y n e P z :=
  ⟨h.1, h.2.1, fun H0 hb => ⟨(h.2.2 H0 hb).1, (h.2.2 H0 hb).2.tP eT⟩⟩
/-- the reason kept is nothing to it -/
theorem JX.w9 (a : AS x S T col S1 T1 c1) {n : Int32} {e : Nat} {z : Nat → Int32} (h : JX S1 T1 x n e P z) (v : Int32) : JX (siC S1 x 9 v) T1 x n e P z := by
  obtain ⟨p, ⟨b1, b2, b3⟩, b⟩ := h
  have k7 := a.w0.1.2.2.2.2.1
  have z7 := (a.ci.wf.w2 k7).2.1.2
  have nx : (grC S1 (x + 7) 2).getD 0 ≠ x := ik_ne z7 a.k1 (by decide)
  refine ⟨p, ⟨by rw [gi_si, if_neg (fun y => by omega)]; exact b1, fun i j hi hj => by rw [gr_si, gi_si, if_neg (fun y => nx y.1)]; exact b2 i j hi hj, fun i hi => by rw [gr_si, gi_si, if_neg (fun y => nx y.1)]; exact b3 i hi⟩, fun H0 hb => ⟨(b H0 hb).1, ?_⟩⟩
  have r := ((b H0 hb).2.w9 a v).2.lo ((fol P (f_X11_begin H0 n).2 e).1 10)
  rw [sI_bk] at r
  exact r
/-- an act more -/
theorem JX.act (a : AS x S T col S1 T1 c1) {n : Int32} {e : Nat} {z : Nat → Int32} (h : JX S1 T1 x n e (H.2 40) z) (r : RR (True, z, n, H.2 40) e S1 T1 x H) (hh : HA H) (e7 : (H.1 7).toInt = e) {act i b c d : Int32} (h1 : 1 ≤ act.toInt) (h2 : act.toInt ≤ 22) (hz : nz act i b c d) : ∃ S3 T3 c3, f_Y0_enact S1 x act i b c d = ((f_X11_act H act i b c d).1, S3) ∧ AS x S T col S3 T3 c3 ∧ ∃ e' z', (((f_X11_act H act i b c d).2.1 7).toInt = (e' : Nat)) ∧ (f_X11_act H act i b c d).2.1 0 = H.1 0 ∧ RR (True, z', n, (f_X11_act H act i b c d).2.2 40) e' S3 T3 x (f_X11_act H act i b c d).2 ∧ JX S3 T3 x n e' ((f_X11_act H act i b c d).2.2 40) z' := by
  obtain ⟨S3, T3, c3, f, a3, q0, q1⟩ := act_sim a r hh e7.symm h1 h2 hz
  refine ⟨S3, T3, c3, f, a3, ?_⟩
  by_cases q : rz H act i b c d = 0
  · obtain ⟨v, D, ea, ⟨D7, l6, D0, D40⟩, r3⟩ := q1 q
    have r3 : RR (True, upd z (H.1 7).toNatClampNeg (D.1 6), n, (miH D act i b c d v).2 40) ((e : Int) + 1) S3 T3 x (miH D act i b c d v) := r3
    have ne : (H.1 7).toNatClampNeg = e := by have := iNat (x := H.1 7) (by omega); omega
    have nD : (D.1 7).toNatClampNeg = e := by rw [D7]; exact ne
    rw [ne] at r3
    rw [ea] at f ⊢
    have em : (miH D act i b c d v).1 7 = D.1 7 + 1 := rfl
    have e1 := iAdd (x := D.1 7) (y := 1) (by rw [i1, D7]; omega) (by rw [i1, D7]; omega)
    rw [i1, D7] at e1
    have m0 : (miH D act i b c d v).1 0 = D.1 0 := rfl
    have mr : ∀ k, (miH D act i b c d v).2 40 k = if k = 6 * e + 5 then v else if k = 6 * e + 4 then d else if k = 6 * e + 3 then c else if k = 6 * e + 2 then b else if k = 6 * e + 1 then i else if k = 6 * e then act else H.2 40 k := fun k => by
      rw [miH_r, nD, D40]
    have old : ∀ k, k < 6 * e → (miH D act i b c d v).2 40 k = H.2 40 k := fun k hk => by
      rw [mr, if_neg (by omega), if_neg (by omega), if_neg (by omega), if_neg (by omega), if_neg (by omega), if_neg (by omega)]
    have w0 : (miH D act i b c d v).2 40 (6 * e) = act := by rw [mr, if_neg (by omega), if_neg (by omega), if_neg (by omega), if_neg (by omega), if_neg (by omega), if_pos rfl]
    have w1 : (miH D act i b c d v).2 40 (6 * e + 1) = i := by rw [mr, if_neg (by omega), if_neg (by omega), if_neg (by omega), if_neg (by omega), if_pos rfl]
    have w2 : (miH D act i b c d v).2 40 (6 * e + 2) = b := by rw [mr, if_neg (by omega), if_neg (by omega), if_neg (by omega), if_pos rfl]
    have w3 : (miH D act i b c d v).2 40 (6 * e + 3) = c := by rw [mr, if_neg (by omega), if_neg (by omega), if_pos rfl]
    have w4 : (miH D act i b c d v).2 40 (6 * e + 4) = d := by rw [mr, if_neg (by omega), if_pos rfl]
    have w5 : (miH D act i b c d v).2 40 (6 * e + 5) = v := by rw [mr, if_pos rfl]
    obtain ⟨⟨p1, p2, p3⟩, ⟨b1, b2, b3⟩, hb'⟩ := h
    have j := r3.2.2.2.1
    have r3' : RR (True, upd z e (D.1 6), n, (miH D act i b c d v).2 40) ((e + 1 : Nat) : Int) S3 T3 x (miH D act i b c d v) := r3
    refine ⟨e + 1, upd z e (D.1 6), by rw [em, D7, e1, e7]; omega, by rw [m0, D0], r3', ⟨p1, by omega, fun k hk => ?_⟩, ⟨?_, fun i' j' hi' hj' => ?_, fun i' hi' => ?_⟩, fun H0 hB => ?_⟩
    · by_cases y : k = e
      · rw [y, w0, w1, w2, w3, w4]
        exact ⟨⟨h1, h2⟩, hz⟩
      · rw [old _ (by omega), old _ (by omega), old _ (by omega), old _ (by omega), old _ (by omega)]
        exact p3 k (by omega)
    · rw [j.1.1, em, D7, e1, e7]
      omega
    · exact j.1.2.2 i' j' (by rw [em, D7, e1, e7]; omega) hj'
    · exact j.2.2.2.2.2.2.2.2 i' (by rw [em, D7, e1, e7]; omega)
    · obtain ⟨k1, k2⟩ := hb' H0 hB
      have fo := fun t ht => fol_cg (k := e) (P := (miH D act i b c d v).2 40) (Q := H.2 40) (G := (f_X11_begin H0 n).2) old t ht
      have hK := fol_ha (P := H.2 40) p1 hB e
      have g7 : ((fol (H.2 40) (f_X11_begin H0 n).2 e).1 7).toInt = e := by
        have t := k2.2.2.2.1.1.1
        rw [← t]
        exact b1
      obtain ⟨S3', T3', c3', f', a3', -, q1'⟩ := act_sim a k2 hK g7.symm h1 h2 hz
      have zr : rz (fol (H.2 40) (f_X11_begin H0 n).2 e) act i b c d = 0 := by
        rw [← rs_all a k2 hK act i b c d h1 h2, rs_all a r hh act i b c d h1 h2]
        exact q
      obtain ⟨v', D', ea', ⟨D7', -, D0', D40'⟩, r4⟩ := q1' zr
      rw [ea'] at f'
      obtain ⟨ev, rfl⟩ := Prod.mk.inj (f.symm.trans f')
      have ev : v = v' := ev
      have fe : fol ((miH D act i b c d v).2 40) (f_X11_begin H0 n).2 (e + 1) = miH D' act i b c d v' := by
        rw [fol, fo e (Nat.le_refl _), w0, w1, w2, w3, w4, ea']
      have n7' : (fol (H.2 40) (f_X11_begin H0 n).2 e).1 7 = D'.1 7 := D7'.symm
      have ne' : ((fol (H.2 40) (f_X11_begin H0 n).2 e).1 7).toNatClampNeg = e := by have := iNat (x := (fol (H.2 40) (f_X11_begin H0 n).2 e).1 7) (by omega); omega
      rw [ne'] at r4
      have em' : (miH D' act i b c d v').1 7 = D'.1 7 + 1 := rfl
      have e1' := iAdd (x := D'.1 7) (y := 1) (by rw [i1, D7']; omega) (by rw [i1, D7']; omega)
      rw [i1, D7', g7] at e1'
      have cell : D'.1 6 = D.1 6 := by
        have t1 := j.2.2.2.2.2.2.2.2 e (by rw [em, D7, e1, e7]; omega)
        have t2 := r4.2.2.2.1.2.2.2.2.2.2.2.2 e (by rw [em', D7', e1']; omega)
        have t1 : giC S3 ((grC S3 (x + 7) 2).getD 0) (7 * e + 6) = upd z e (D.1 6) e := t1
        have t2 : giC S3 ((grC S3 (x + 7) 2).getD 0) (7 * e + 6) = upd z e (D'.1 6) e := t2
        rw [upd_eq] at t1 t2
        exact t2.symm.trans t1
      refine ⟨fun k hk => ?_, ?_⟩
      · by_cases y : k = e
        · rw [y, fe, upd_eq, w0, w1, w2, w3, w4, w5, fo e (Nat.le_refl _), ea']
          exact ⟨ev.symm, cell⟩
        · rw [fo k (by omega), fo (k + 1) (by omega), upd_ne y, old _ (by omega), old _ (by omega), old _ (by omega), old _ (by omega), old _ (by omega), old _ (by omega)]
          exact k1 k (by omega)
      · rw [fe]
        have r5 := RR.tP (T2 := T3) r4.lo0 (fun g hg => (T_eq a3.ci a3'.ci (rP_k a3.ci.wf a3.k1 hg)))
        rw [cell] at r5
        exact r5
  · obtain ⟨ea, eS, eT, r3⟩ := q0 q
    rw [ea]
    subst eS
    subst eT
    exact ⟨e, z, e7, rfl, r3, h.w9 a _⟩
end
end
section
/-! ===== both sides, whole ===== -/
section
variable {wF : Prop × (Nat → Int32) × Int32 × (Nat → Int32)} {x y a b l : Nat} {r2 r3 : Option Nat} {S S1 S2 S3 S4 Sk : Cst} {T T1 T2 T3 Tk : Nat → List Nat} {F F1 : List Nat} {col c1 c2 c3 ck : Nat → Nat} {H H2 G R O : HS} {M M2 : MS}
/-- an image kept -/
def IM (S : Cst) (T : Nat → List Nat) (r : Option Nat) (k : Nat) (O : HS) : Prop := (r = none → O.2 3 k = -1) ∧ ∀ c, r = some c → O.2 3 k ≠ -1 ∧ 0 ≤ (O.2 3 k).toInt ∧ jS S c ∧ ∃ z, JX S T c (O.2 2 k) (O.2 3 k).toNatClampNeg (fun i => O.2 4 (3600 * k + i)) z
/-- the told entries -/
def TE (S : Cst) (l : Nat) (O : HS) : Prop := giC S l 0 = 6 ∧ giC S l 3 = O.1 6 ∧ 6 * (O.1 6).toInt ≤ lcl S l ∧ oz S l ∧ ∀ i j : Nat, (i : Int) < (O.1 6).toInt → j < 6 → giC S ((grC S l 2).getD 0) (6 * i + j) = O.2 5 (6 * i + j)
def CT (S : Cst) (M : MS) (a b : Nat) (r2 r3 : Option Nat) (l : Nat) (T : Nat → List Nat) : Prop := (∃ z, RR (True, z, M.2.1.1 0, M.2.1.2 40) (M.2.1.1 7).toInt S T a M.2.1 ∧ JX S T a (M.2.1.1 0) (M.2.1.1 7).toNatClampNeg (M.2.1.2 40) z) ∧ jS S b ∧ (IM S T r2 0 M.1 ∧ IM S T r3 1 M.1) ∧ TE S l M.1
def RQ (S : Cst) (M : MS) : Prop := ∃ a b r2 r3 l T col, KJ 82 a b r2 r3 l S T col ∧ CT S M a b r2 r3 l T
theorem KJ.m2 {c : Nat} (_ : KJ 82 a b (some c) r3 l S T col) : c ∈ kA a b (some c) r3 := by
  unfold kA
  simp
theorem KJ.m3 {c : Nat} (_ : KJ 82 a b r2 (some c) l S T col) : c ∈ kA a b r2 (some c) := by
  unfold kA
  simp
theorem IM.tP {k : Nat} {r : Option Nat} (h : IM S T r k O) (e : ∀ c, r = some c → ∀ g, g < 10 → T2 (rP c g) = T (rP c g)) : IM S T2 r k O :=
  ⟨h.1, fun c hc => by
    obtain ⟨p1, p2, p3, z, p4⟩ := h.2 c hc
    exact ⟨p1, p2, p3, z, p4.tP (e c hc)⟩⟩
theorem RQ.mk (k : KI S 82) (g0 : grC S 82 0 = some a) (g1 : grC S 82 1 = some b) (g2 : grC S 82 2 = r2) (g3 : grC S 82 3 = r3) (g4 : grC S 82 4 = some l) (ci : CI noE S T [] col) (c : CT S M a b r2 r3 l T) : RQ S M := by
  obtain ⟨a', b', r2', r3', l', T', col', h⟩ := k
  obtain ⟨e0, e1, e2, e3, e4⟩ := h.2.2.1
  obtain rfl : a' = a := Option.some.inj (e0.symm.trans g0)
  obtain rfl : b' = b := Option.some.inj (e1.symm.trans g1)
  obtain rfl : r2' = r2 := e2.symm.trans g2
  obtain rfl : r3' = r3 := e3.symm.trans g3
  obtain rfl : l' = l := Option.some.inj (e4.symm.trans g4)
  have t : ∀ c, c ∈ kA a' b' r2' r3' → ∀ g, g < 10 → T' (rP c g) = T (rP c g) := fun c m g hg => T_eq h.ci ci (rP_k h.ci.wf (h.2.2.2.2.1 c m).1 hg)
  obtain ⟨⟨z, q1, q2⟩, q3, ⟨q4, q5⟩, q6⟩ := c
  refine ⟨a', b', r2', r3', l', T', col', h, ⟨z, q1.tP (t a' (KJ.ma h)), q2.tP (t a' (KJ.ma h))⟩, q3, ⟨q4.tP (fun c e => ?_), q5.tP (fun c e => ?_)⟩, q6⟩
  · subst e
    exact t c (KJ.m2 h)
  · subst e
    exact t c (KJ.m3 h)
/-- what stands when x moves -/
theorem IM.og (h : KJ 82 a b r2 r3 l S T col) {k : Nat} {r : Option Nat} (im : IM S T r k O) (hc : ∀ c, r = some c → iK S c 0) (en : eN S S2) (wf2 : wfS S2) (fr : ∀ c, r = some c → ∀ q, q < S.1 → col q = c → S2.2.2 q = S.2.2 q) (ft : ∀ c, r = some c → ∀ d, d < S.1 → col d = c → T2 d = T d) (sv2 : sV S2) : IM S2 T2 r k O :=
  ⟨im.1, fun c e => by
    obtain ⟨p1, p2, p3, z, p4⟩ := im.2 c e
    exact ⟨p1, p2, p3.og h.ci (hc c e) en (fr c e), z, p4.og h.ci (hc c e) en wf2 (fr c e) (ft c e) sv2⟩⟩
theorem TE.og (t : TE S l O) (kl : iK S l 2) (wf : wfS S) (en : eN S S2) (el : S2.2.2 l = S.2.2 l) (ez : S2.2.2 ((grC S l 2).getD 0) = S.2.2 ((grC S l 2).getD 0)) : TE S2 l O := by
  obtain ⟨t0, t1, t2, to, t3⟩ := t
  have z := (wf.w2 kl).2.1.2
  have r : grC S2 l 2 = grC S l 2 := by unfold grC; rw [el]
  refine ⟨?_, ?_, ?_, fun q k => ?_, fun i j hi hj => ?_⟩
  · unfold giC
    rw [el]
    exact t0
  · unfold giC
    rw [el]
    exact t1
  · unfold lcl
    rw [r, (en.2 _ z.1).2]
    exact t2
  · rw [r]
    by_cases y : q < S.1
    · exact to q ⟨y, by rw [← (en.2 q y).1]; exact k.2⟩
    · have := z.1
      omega
  · rw [r]
    unfold giC
    rw [ez]
    exact t3 i j hi hj
/-- all but x's own -/
theorem CT.oth (h : KJ 82 a b r2 r3 l S T col) (hx : x ∈ kA a b r2 r3) (g : Sst noE x S T [] col S2 T2 [] c2) (sv2 : sV S2) : (∀ r k, (r = r2 ∨ r = r3) → (∀ c, r = some c → c ≠ x) → IM S T r k O → IM S2 T2 r k O) ∧ (TE S l O → TE S2 l O) ∧ (∀ c, c ∈ kA a b r2 r3 → c ≠ x → (jS S c → jS S2 c) ∧ ∀ n e P z, JX S T c n e P z → JX S2 T2 c n e P z) := by
  have hX := h.2.2.2.2.1 x hx
  have mem : ∀ r, (r = r2 ∨ r = r3) → ∀ c, r = some c → c ∈ kA a b r2 r3 := fun r hr c e => by
    subst e
    unfold kA
    rcases hr with e | e
    · rw [← e]
      simp
    · rw [← e]
      simp
  refine ⟨fun r k hr nc im => im.og h (fun c e => (h.2.2.2.2.1 c (mem r hr c e)).1) g.en g.ci.wf (fun c e q a w => g.fr q a (by rw [w]; exact nc c e)) (fun c e d a w => g.ft d a (by rw [w]; exact nc c e)) sv2, fun t => ?_, fun c m nc => ⟨fun j => j.og h.ci (h.2.2.2.2.1 c m).1 g.en (fun q a w => g.fr q a (by rw [w]; exact nc)), fun n e P z j => j.og h.ci (h.2.2.2.2.1 c m).1 g.en g.ci.wf (fun q a w => g.fr q a (by rw [w]; exact nc)) (fun d a w => g.ft d a (by rw [w]; exact nc)) sv2⟩⟩
  have z := (h.ci.wf.w2 h.kl).2.1.2
  exact t.og h.kl h.ci.wf g.en (g.fr l h.kl.1 hX.2.2.2.2) (g.fr _ z.1 (by rw [h.ci.c2 l h.kl]; exact hX.2.2.2.2))
/-- refs of the object stand -/
theorem KJ.refs (h : KJ 82 a b r2 r3 l S T col) (hx : x ∈ kA a b r2 r3) (g : Sst noE x S T [] col S2 T2 [] c2) : grC S2 82 0 = some a ∧ grC S2 82 1 = some b ∧ grC S2 82 2 = r2 ∧ grC S2 82 3 = r3 ∧ grC S2 82 4 = some l := by
  have em : S2.2.2 82 = S.2.2 82 := g.fr 82 h.km.1 (h.2.2.2.2.1 x hx).2.2.2.1
  have gm : ∀ k, grC S2 82 k = grC S 82 k := fun k => by unfold grC; rw [em]
  simp only [gm]
  exact h.2.2.1
theorem KJ.n2 {c : Nat} (h : KJ 82 a b (some c) r3 l S T col) : c ≠ a ∧ c ≠ b := by
  have hn := h.2.2.2.1
  unfold kA at hn
  simp at hn
  exact ⟨fun e => hn.1.2.1 e.symm, fun e => hn.2.1.1 e.symm⟩
theorem KJ.n3 {c : Nat} (h : KJ 82 a b r2 (some c) l S T col) : c ≠ a ∧ c ≠ b := by
  have hn := h.2.2.2.1
  unfold kA at hn
  cases r2 with
  | none =>
    simp at hn
    exact ⟨fun e => hn.1.2 e.symm, fun e => hn.2 e.symm⟩
  | some d =>
    simp at hn
    exact ⟨fun e => hn.1.2.2 e.symm, fun e => hn.2.1.2 e.symm⟩
/-- an act -/
theorem rq_act (q : RQ S M) (mi : MI M) {act i b' c d : Int32} (h1 : 1 ≤ act.toInt) (h2 : act.toInt ≤ 22) (hz : nz act i b' c d) {v : Int32} (e : f_Y0_enact S ((grC S 82 0).getD 0) act i b' c d = (v, S2)) : v = (f_X11_act M.2.1 act i b' c d).1 ∧ RQ S2 (mH M (f_X11_act M.2.1 act i b' c d).2) := by
  obtain ⟨a, b, r2, r3, l, T, col, h, ⟨z, q1, q2⟩, q3, ⟨q4, q5⟩, q6⟩ := q
  rw [h.g0, Option.getD_some] at e
  have h7 := mi.1.2.1
  have k7 := iNat (x := M.2.1.1 7) h7.1
  have en : (M.2.1.1 7).toInt = (((M.2.1.1 7).toNatClampNeg : Nat) : Int) := k7.symm
  obtain ⟨S3, T3, c3, f, as, e', z', p1, p2, p3, p4⟩ := q2.act (h.as (KJ.ma h)) (by rw [← en]; exact q1) mi.1 en h1 h2 hz
  obtain ⟨ev, rfl⟩ := Prod.mk.inj (e.symm.trans f)
  have k2 := h.step (KJ.ma h) as.1 as.2
  have sv2 : sV S2 := p3.2.2.2.2.1.2.1
  obtain ⟨o1, o2, o3⟩ := CT.oth (O := M.1) h (KJ.ma h) as.1 sv2
  have k8 : ((f_X11_act M.2.1 act i b' c d).2.1 7).toNatClampNeg = e' := by
    have := iNat (x := (f_X11_act M.2.1 act i b' c d).2.1 7) (by omega)
    omega
  refine ⟨ev, a, b, r2, r3, l, T3, c3, k2, ⟨z', ?_, ?_⟩, (o3 b (KJ.mb h) (fun e => KJ.nab h e.symm)).1 q3, ⟨o1 r2 0 (Or.inl rfl) (fun c e => ?_) q4, o1 r3 1 (Or.inr rfl) (fun c e => ?_) q5⟩, o2 q6⟩
  · show RR (True, z', (f_X11_act M.2.1 act i b' c d).2.1 0, (f_X11_act M.2.1 act i b' c d).2.2 40) ((f_X11_act M.2.1 act i b' c d).2.1 7).toInt S2 T3 a (f_X11_act M.2.1 act i b' c d).2
    rw [p2, p1]
    exact p3
  · show JX S2 T3 a ((f_X11_act M.2.1 act i b' c d).2.1 0) ((f_X11_act M.2.1 act i b' c d).2.1 7).toNatClampNeg ((f_X11_act M.2.1 act i b' c d).2.2 40) z'
    rw [p2, k8]
    exact p4
  · subst e
    exact (KJ.n2 h).1
  · subst e
    exact (KJ.n3 h).1
end
end
section
/-! ===== the calls that are acts, in both ===== -/
section
variable {S S2 : Cst} {M : MS} {v : Int32}
theorem pr_e {α β : Type} (p : α × β) {q : α × β} (e : (p.1, p.2) = q) : p = q := e
theorem ac_there (q : RQ S M) (mi : MI M) (i1 : Int32) (e : f_Y10_there S 82 i1 = (v, S2)) : v = (f_X12_there M i1).1 ∧ RQ S2 (f_X12_there M i1).2 := by
  unfold f_Y10_there b_Y10_there_12a at e
  unfold f_X12_there b_X12_there_a12
  exact rq_act q mi (act := 1) (i := i1) (b' := 0) (c := 0) (d := 0) (by decide) (by decide) ⟨fun h => absurd h (by decide), fun _ => rfl, fun _ => rfl, fun _ => rfl⟩ (pr_e _ e)
theorem ac_gone (q : RQ S M) (mi : MI M) (i1 : Int32) (e : f_Y10_gone S 82 i1 = (v, S2)) : v = (f_X12_gone M i1).1 ∧ RQ S2 (f_X12_gone M i1).2 := by
  unfold f_Y10_gone b_Y10_gone_12a at e
  unfold f_X12_gone b_X12_gone_a12
  exact rq_act q mi (act := 2) (i := i1) (b' := 0) (c := 0) (d := 0) (by decide) (by decide) ⟨fun h => absurd h (by decide), fun _ => rfl, fun _ => rfl, fun _ => rfl⟩ (pr_e _ e)
theorem ac_quorum (q : RQ S M) (mi : MI M) (i1 : Int32) (e : f_Y10_quorum S 82 i1 = (v, S2)) : v = (f_X12_quorum M i1).1 ∧ RQ S2 (f_X12_quorum M i1).2 := by
  unfold f_Y10_quorum b_Y10_quorum_12a at e
  unfold f_X12_quorum b_X12_quorum_a12
  exact rq_act q mi (act := 3) (i := i1) (b' := 0) (c := 0) (d := 0) (by decide) (by decide) ⟨fun h => absurd h (by decide), fun _ => rfl, fun _ => rfl, fun _ => rfl⟩ (pr_e _ e)
theorem ac_chair (q : RQ S M) (mi : MI M) (i1 : Int32) (e : f_Y10_chair S 82 i1 = (v, S2)) : v = (f_X12_chair M i1).1 ∧ RQ S2 (f_X12_chair M i1).2 := by
  unfold f_Y10_chair b_Y10_chair_12a at e
  unfold f_X12_chair b_X12_chair_a12
  exact rq_act q mi (act := 4) (i := i1) (b' := 0) (c := 0) (d := 0) (by decide) (by decide) ⟨fun h => absurd h (by decide), fun _ => rfl, fun _ => rfl, fun _ => rfl⟩ (pr_e _ e)
theorem ac_majority (q : RQ S M) (mi : MI M) (i1 i2 : Int32) (e : f_Y10_majority S 82 i1 i2 = (v, S2)) : v = (f_X12_majority M i1 i2).1 ∧ RQ S2 (f_X12_majority M i1 i2).2 := by
  unfold f_Y10_majority b_Y10_majority_12a at e
  unfold f_X12_majority b_X12_majority_a12
  exact rq_act q mi (act := 5) (i := i1) (b' := i2) (c := 0) (d := 0) (by decide) (by decide) ⟨fun h => absurd h (by decide), fun h => absurd h (by decide), fun _ => rfl, fun _ => rfl⟩ (pr_e _ e)
theorem ac_limit (q : RQ S M) (mi : MI M) (i1 : Int32) (e : f_Y10_limit S 82 i1 = (v, S2)) : v = (f_X12_limit M i1).1 ∧ RQ S2 (f_X12_limit M i1).2 := by
  unfold f_Y10_limit b_Y10_limit_13a at e
  unfold f_X12_limit b_X12_limit_a13
  exact rq_act q mi (act := 6) (i := i1) (b' := 0) (c := 0) (d := 0) (by decide) (by decide) ⟨fun h => absurd h (by decide), fun _ => rfl, fun _ => rfl, fun _ => rfl⟩ (pr_e _ e)
theorem ac_floor (q : RQ S M) (mi : MI M) (i1 : Int32) (e : f_Y10_floor S 82 i1 = (v, S2)) : v = (f_X12_floor M i1).1 ∧ RQ S2 (f_X12_floor M i1).2 := by
  unfold f_Y10_floor b_Y10_floor_13a at e
  unfold f_X12_floor b_X12_floor_a13
  exact rq_act q mi (act := 7) (i := i1) (b' := 0) (c := 0) (d := 0) (by decide) (by decide) ⟨fun h => absurd h (by decide), fun _ => rfl, fun _ => rfl, fun _ => rfl⟩ (pr_e _ e)
theorem ac_cede (q : RQ S M) (mi : MI M) (e : f_Y10_cede S 82 = (v, S2)) : v = (f_X12_cede M).1 ∧ RQ S2 (f_X12_cede M).2 := by
  unfold f_Y10_cede b_Y10_cede_13a at e
  unfold f_X12_cede b_X12_cede_a13
  exact rq_act q mi (act := 8) (i := 0) (b' := 0) (c := 0) (d := 0) (by decide) (by decide) ⟨fun _ => rfl, fun _ => rfl, fun _ => rfl, fun _ => rfl⟩ (pr_e _ e)
theorem ac_debate (q : RQ S M) (mi : MI M) (i1 : Int32) (e : f_Y10_debate S 82 i1 = (v, S2)) : v = (f_X12_debate M i1).1 ∧ RQ S2 (f_X12_debate M i1).2 := by
  unfold f_Y10_debate b_Y10_debate_13a at e
  unfold f_X12_debate b_X12_debate_a13
  exact rq_act q mi (act := 9) (i := i1) (b' := 0) (c := 0) (d := 0) (by decide) (by decide) ⟨fun h => absurd h (by decide), fun _ => rfl, fun _ => rfl, fun _ => rfl⟩ (pr_e _ e)
theorem ac_draft (q : RQ S M) (mi : MI M) (i1 : Int32) (e : f_Y10_draft S 82 i1 = (v, S2)) : v = (f_X12_draft M i1).1 ∧ RQ S2 (f_X12_draft M i1).2 := by
  unfold f_Y10_draft b_Y10_draft_13a at e
  unfold f_X12_draft b_X12_draft_a13
  exact rq_act q mi (act := 10) (i := i1) (b' := 0) (c := 0) (d := 0) (by decide) (by decide) ⟨fun h => absurd h (by decide), fun _ => rfl, fun _ => rfl, fun _ => rfl⟩ (pr_e _ e)
theorem ac_span (q : RQ S M) (mi : MI M) (i1 i2 : Int32) (e : f_Y10_span S 82 i1 i2 = (v, S2)) : v = (f_X12_span M i1 i2).1 ∧ RQ S2 (f_X12_span M i1 i2).2 := by
  unfold f_Y10_span b_Y10_span_13a at e
  unfold f_X12_span b_X12_span_a13
  exact rq_act q mi (act := 11) (i := i1) (b' := i2) (c := 0) (d := 0) (by decide) (by decide) ⟨fun h => absurd h (by decide), fun h => absurd h (by decide), fun _ => rfl, fun _ => rfl⟩ (pr_e _ e)
theorem ac_word (q : RQ S M) (mi : MI M) (i1 i2 i3 i4 : Int32) (e : f_Y10_word S 82 i1 i2 i3 i4 = (v, S2)) : v = (f_X12_word M i1 i2 i3 i4).1 ∧ RQ S2 (f_X12_word M i1 i2 i3 i4).2 := by
  unfold f_Y10_word b_Y10_word_14a at e
  unfold f_X12_word b_X12_word_a14
  exact rq_act q mi (act := 12) (i := i1) (b' := i2) (c := i3) (d := i4) (by decide) (by decide) ⟨fun h => absurd h (by decide), fun h => absurd h (by decide), fun h => absurd h (by decide), fun h => absurd h (by decide)⟩ (pr_e _ e)
theorem ac_lay (q : RQ S M) (mi : MI M) (i1 : Int32) (e : f_Y10_lay S 82 i1 = (v, S2)) : v = (f_X12_lay M i1).1 ∧ RQ S2 (f_X12_lay M i1).2 := by
  unfold f_Y10_lay b_Y10_lay_13a at e
  unfold f_X12_lay b_X12_lay_a13
  exact rq_act q mi (act := 13) (i := i1) (b' := 0) (c := 0) (d := 0) (by decide) (by decide) ⟨fun h => absurd h (by decide), fun _ => rfl, fun _ => rfl, fun _ => rfl⟩ (pr_e _ e)
theorem ac_take (q : RQ S M) (mi : MI M) (i1 : Int32) (e : f_Y10_take S 82 i1 = (v, S2)) : v = (f_X12_take M i1).1 ∧ RQ S2 (f_X12_take M i1).2 := by
  unfold f_Y10_take b_Y10_take_13a at e
  unfold f_X12_take b_X12_take_a13
  exact rq_act q mi (act := 14) (i := i1) (b' := 0) (c := 0) (d := 0) (by decide) (by decide) ⟨fun h => absurd h (by decide), fun _ => rfl, fun _ => rfl, fun _ => rfl⟩ (pr_e _ e)
theorem ac_move (q : RQ S M) (mi : MI M) (i1 : Int32) (e : f_Y10_move S 82 i1 = (v, S2)) : v = (f_X12_move M i1).1 ∧ RQ S2 (f_X12_move M i1).2 := by
  unfold f_Y10_move b_Y10_move_13a at e
  unfold f_X12_move b_X12_move_a13
  exact rq_act q mi (act := 15) (i := i1) (b' := 0) (c := 0) (d := 0) (by decide) (by decide) ⟨fun h => absurd h (by decide), fun _ => rfl, fun _ => rfl, fun _ => rfl⟩ (pr_e _ e)
theorem ac_second (q : RQ S M) (mi : MI M) (i1 : Int32) (e : f_Y10_second S 82 i1 = (v, S2)) : v = (f_X12_second M i1).1 ∧ RQ S2 (f_X12_second M i1).2 := by
  unfold f_Y10_second b_Y10_second_13a at e
  unfold f_X12_second b_X12_second_a13
  exact rq_act q mi (act := 16) (i := i1) (b' := 0) (c := 0) (d := 0) (by decide) (by decide) ⟨fun h => absurd h (by decide), fun _ => rfl, fun _ => rfl, fun _ => rfl⟩ (pr_e _ e)
theorem ac_vote (q : RQ S M) (mi : MI M) (i1 i2 : Int32) (e : f_Y10_vote S 82 i1 i2 = (v, S2)) : v = (f_X12_vote M i1 i2).1 ∧ RQ S2 (f_X12_vote M i1 i2).2 := by
  unfold f_Y10_vote b_Y10_vote_13a at e
  unfold f_X12_vote b_X12_vote_a13
  exact rq_act q mi (act := 17) (i := i1) (b' := i2) (c := 0) (d := 0) (by decide) (by decide) ⟨fun h => absurd h (by decide), fun h => absurd h (by decide), fun _ => rfl, fun _ => rfl⟩ (pr_e _ e)
theorem ac_withdraw (q : RQ S M) (mi : MI M) (i1 : Int32) (e : f_Y10_withdraw S 82 i1 = (v, S2)) : v = (f_X12_withdraw M i1).1 ∧ RQ S2 (f_X12_withdraw M i1).2 := by
  unfold f_Y10_withdraw b_Y10_withdraw_13a at e
  unfold f_X12_withdraw b_X12_withdraw_a13
  exact rq_act q mi (act := 18) (i := i1) (b' := 0) (c := 0) (d := 0) (by decide) (by decide) ⟨fun h => absurd h (by decide), fun _ => rfl, fun _ => rfl, fun _ => rfl⟩ (pr_e _ e)
theorem ac_rule (q : RQ S M) (mi : MI M) (e : f_Y10_rule S 82 = (v, S2)) : v = (f_X12_rule M).1 ∧ RQ S2 (f_X12_rule M).2 := by
  unfold f_Y10_rule b_Y10_rule_13a at e
  unfold f_X12_rule b_X12_rule_a13
  exact rq_act q mi (act := 19) (i := 0) (b' := 0) (c := 0) (d := 0) (by decide) (by decide) ⟨fun _ => rfl, fun _ => rfl, fun _ => rfl, fun _ => rfl⟩ (pr_e _ e)
theorem ac_appeal (q : RQ S M) (mi : MI M) (i1 : Int32) (e : f_Y10_appeal S 82 i1 = (v, S2)) : v = (f_X12_appeal M i1).1 ∧ RQ S2 (f_X12_appeal M i1).2 := by
  unfold f_Y10_appeal b_Y10_appeal_13a at e
  unfold f_X12_appeal b_X12_appeal_a13
  exact rq_act q mi (act := 20) (i := i1) (b' := 0) (c := 0) (d := 0) (by decide) (by decide) ⟨fun h => absurd h (by decide), fun _ => rfl, fun _ => rfl, fun _ => rfl⟩ (pr_e _ e)
theorem ac_told (q : RQ S M) (mi : MI M) (e : f_Y10_told S 82 = (v, S2)) : v = (f_X12_told M).1 ∧ RQ S2 (f_X12_told M).2 := by
  unfold f_Y10_told b_Y10_told_13a at e
  unfold f_X12_told b_X12_told_a13
  exact rq_act q mi (act := 21) (i := 0) (b' := 0) (c := 0) (d := 0) (by decide) (by decide) ⟨fun _ => rfl, fun _ => rfl, fun _ => rfl, fun _ => rfl⟩ (pr_e _ e)
theorem ac_adjourn (q : RQ S M) (mi : MI M) (e : f_Y10_adjourn S 82 = (v, S2)) : v = (f_X12_adjourn M).1 ∧ RQ S2 (f_X12_adjourn M).2 := by
  unfold f_Y10_adjourn b_Y10_adjourn_13a at e
  unfold f_X12_adjourn b_X12_adjourn_a13
  exact rq_act q mi (act := 22) (i := 0) (b' := 0) (c := 0) (d := 0) (by decide) (by decide) ⟨fun _ => rfl, fun _ => rfl, fun _ => rfl, fun _ => rfl⟩ (pr_e _ e)
end
end
section
/-! ===== seats, order, readers ===== -/
section
variable {x y a b l : Nat} {r2 r3 : Option Nat} {S S1 S2 S3 S4 Sk : Cst} {T T1 T2 T3 Tk : Nat → List Nat} {col c1 c2 c3 ck : Nat → Nat} {H H2 G R O : HS} {M M2 : MS} {v : Int32}
theorem RR.j7 {wF : Prop × (Nat → Int32) × Int32 × (Nat → Int32)} {N : Int} (r : RR wF N S T x H) : giC S (x + 7) 3 = H.1 7 := r.2.2.2.1.1.1
theorem RR.sv {wF : Prop × (Nat → Int32) × Int32 × (Nat → Int32)} {N : Int} (r : RR wF N S T x H) : sV S := r.2.2.2.2.1.2.1
def M00x : HS := ((fun _ => 0), fun _ _ => 0)
theorem beg_jx (h : Sst noE x S T [] col S1 T1 [] c1) (j : jS S1 x) (sv : sV S1) {n : Int32} (hn : 1 ≤ n.toInt ∧ n.toInt ≤ 200) (P z : Nat → Int32) : ∃ S2 T2, f_Y0_begin S1 x n = (0, S2) ∧ AS x S T col S2 T2 c1 ∧ (∀ H : HS, RR (True, z, n, H.2 40) 0 S2 T2 x (f_X11_begin H n).2) ∧ JX S2 T2 x n 0 P z := by
  obtain ⟨S2, T2, f, as, rr⟩ := begin_sim h j sv (n := n) (by omega)
  refine ⟨S2, T2, f, as, fun H => rr H z, ⟨hn, by omega, fun k hk => absurd hk (Nat.not_lt_zero _)⟩, ⟨?_, fun i j hi => absurd hi (Nat.not_lt_zero _), fun i hi => absurd hi (Nat.not_lt_zero _)⟩, fun H0 hb => ⟨fun k hk => absurd hk (Nat.not_lt_zero _), ?_⟩⟩
  · have r := rr M00x z
    obtain ⟨R, eR, -, ⟨-, v7, -⟩, -⟩ := beg_v M00x n
    rw [r.j7, eR, v7]
    rfl
  · obtain ⟨R, eR, -, -, -, -, -, -, v40⟩ := beg_v H0 n
    have r0 := (rr H0 z).lo0
    have z0 : ((0 : Nat) : Int) = 0 := rfl
    rw [eR] at r0
    rw [fol, eR, v40, z0]
    exact r0
theorem ac_seats (q : RQ S M) (mi : MI M) (n : Int32) (e : f_Y10_seats S 82 n = (v, S2)) : v = (f_X12_seats M n).1 ∧ RQ S2 (f_X12_seats M n).2 := by
  have k1 : (1 : Int32).toInt = 1 := by decide
  have k2 : (200 : Int32).toInt = 200 := by decide
  unfold f_Y10_seats b_Y10_seats_12 b_Y10_seats_23a at e
  unfold f_X12_seats b_X12_seats_a22
  by_cases c1 : n < 1
  · have hi : f_X12_in n 1 200 = 0 := by rw [in_f, if_neg (fun z => by have := iLt.mp c1; omega)]
    rw [if_pos c1] at e
    rw [if_pos hi]
    obtain ⟨rfl, rfl⟩ := Prod.mk.inj e
    exact ⟨rfl, q⟩
  · rw [if_neg c1] at e
    have d1 := mt iLt.mpr c1
    by_cases c2 : n ≤ 200
    · have d2 := iLe.mp c2
      rw [k1] at d1
      rw [k2] at d2
      have hi : f_X12_in n 1 200 = 1 := by rw [in_f, if_pos ⟨by rw [k1]; omega, by rw [k2]; omega⟩]
      rw [if_pos c2] at e
      rw [if_neg (by rw [hi]; decide)]
      obtain ⟨a, b, r2, r3, l, T, col, h, ⟨z, q1, q2⟩, q3, ⟨q4, q5⟩, q6⟩ := q
      rw [h.g0, Option.getD_some] at e
      obtain ⟨R, eR, ⟨v0, -⟩, ⟨-, v7, -⟩, -, -, -, -, v40⟩ := beg_v M.2.1 n
      rw [eR]
      obtain ⟨S3, T3, f, as, rr, jx⟩ := beg_jx (h.as (KJ.ma h)).1 q1.jS q1.sv (n := n) ⟨by omega, d2⟩ (R.2 40) (fun _ => 0)
      rw [f] at e
      obtain ⟨rfl, rfl⟩ := Prod.mk.inj e
      have k3 := h.step (KJ.ma h) as.1 as.2
      have r1 := rr M.2.1
      rw [eR] at r1
      obtain ⟨o1, o2, o3⟩ := CT.oth (O := M.1) h (KJ.ma h) as.1 r1.sv
      refine ⟨rfl, a, b, r2, r3, l, T3, col, k3, ⟨fun _ => 0, ?_, ?_⟩, (o3 b (KJ.mb h) (fun e => KJ.nab h e.symm)).1 q3, ⟨o1 r2 0 (Or.inl rfl) (fun c e => ?_) q4, o1 r3 1 (Or.inr rfl) (fun c e => ?_) q5⟩, o2 q6⟩
      · show RR (True, fun _ => 0, R.1 0, R.2 40) (R.1 7).toInt _ T3 a R
        rw [v0, v7, v40, i0]
        exact r1
      · show JX _ T3 a (R.1 0) (R.1 7).toNatClampNeg (R.2 40) (fun _ => 0)
        rw [v0, v7, zn0]
        exact jx
      · subst e
        exact (KJ.n2 h).1
      · subst e
        exact (KJ.n3 h).1
    · rw [if_neg c2] at e
      have hi : f_X12_in n 1 200 = 0 := by rw [in_f, if_neg (fun z => c2 (iLe.mpr z.2))]
      rw [if_pos hi]
      obtain ⟨rfl, rfl⟩ := Prod.mk.inj e
      exact ⟨rfl, q⟩
theorem ac_order (q : RQ S M) (mi : MI M) (i : Int32) (e : f_Y10_order S 82 i = (v, S2)) : v = (f_X12_order M i).1 ∧ RQ S2 (f_X12_order M i).2 := by
  obtain ⟨a, b, r2, r3, l, T, col, h, ⟨z, q1, q2⟩, q3, ⟨q4, q5⟩, q6⟩ := q
  have as := h.as (KJ.ma h)
  have e15 : (15 : Int32).toInt = 15 := by decide
  have rs := rs_all as q1 mi.1 15 i 0 0 0 (by rw [e15]; omega) (by rw [e15]; omega)
  obtain ⟨a2, r9⟩ := q1.w9 as (rz M.2.1 15 i 0 0 0)
  have j9 := q2.w9 as (rz M.2.1 15 i 0 0 0)
  unfold f_Y10_order b_Y10_order_17a b_Y10_order_35 at e
  rw [h.g0, Option.getD_some, rs] at e
  have k3 := h.step (KJ.ma h) a2.1 a2.2
  have e9 : giC (siC S a 9 (rz M.2.1 15 i 0 0 0)) a 9 = rz M.2.1 15 i 0 0 0 := by rw [gi_si, if_pos ⟨rfl, rfl⟩]
  rw [k3.g0, Option.getD_some, e9] at e
  have eX : f_X12_order M i = b_X12_order_36 M i (f_X11_reasonOfMove M.2.1 i).1 (rz M.2.1 15 i 0 0 0) := by
    have er : (f_X11_reason M.2.1 15 i 0 0 0).1 = (f_X11_reasonOfMove M.2.1 i).1 := by
      unfold f_X11_reason b_X11_reason_a577
      rw [if_neg (by decide), if_neg (by decide), if_neg (by decide), if_neg (by decide), if_neg (by decide), if_neg (by decide), if_neg (by decide), if_neg (by decide), if_neg (by decide), if_neg (by decide), if_neg (by decide), if_neg (by decide), if_neg (by decide), if_neg (by decide), if_pos rfl]
    have eM : mH M (f_X11_reasonOfMove M.2.1 i).2 = M := by
      rw [sf_X11_reasonOfMove]
      rfl
    unfold f_X12_order b_X12_order_a8 b_X12_order_35 rz
    rw [eM, er]
    by_cases z : (f_X11_reasonOfMove M.2.1 i).1 = 0
    · rw [if_pos z, if_pos z]
      by_cases w : M.2.1.1 7 = 600
      · rw [if_pos w, if_pos w]
      · rw [if_neg w, if_neg w, z]
    · rw [if_neg z, if_neg z]
  rw [eX]
  unfold b_X12_order_36 b_X12_order_54
  have m10 : (mH M (sI M.2.1 10 (rz M.2.1 15 i 0 0 0))).2.1.1 10 = rz M.2.1 15 i 0 0 0 := rfl
  rw [m10]
  have sv2 : sV (siC S a 9 (rz M.2.1 15 i 0 0 0)) := r9.sv
  obtain ⟨o1, o2, o3⟩ := CT.oth (O := M.1) h (KJ.ma h) a2.1 sv2
  have rq : RQ (siC S a 9 (rz M.2.1 15 i 0 0 0)) (mH M (sI M.2.1 10 (rz M.2.1 15 i 0 0 0))) := by
    refine ⟨a, b, r2, r3, l, T, col, k3, ⟨z, r9, j9⟩, (o3 b (KJ.mb h) (fun e => KJ.nab h e.symm)).1 q3, ⟨o1 r2 0 (Or.inl rfl) (fun c e => ?_) q4, o1 r3 1 (Or.inr rfl) (fun c e => ?_) q5⟩, o2 q6⟩
    · subst e
      exact (KJ.n2 h).1
    · subst e
      exact (KJ.n3 h).1
  by_cases w : rz M.2.1 15 i 0 0 0 = 0
  · rw [if_pos w] at e ⊢
    obtain ⟨rfl, rfl⟩ := Prod.mk.inj e
    exact ⟨rfl, rq⟩
  · rw [if_neg w] at e ⊢
    obtain ⟨rfl, rfl⟩ := Prod.mk.inj e
    exact ⟨rfl, rq⟩
end
end
section
/-! ===== trials: done again, before ===== -/
section
variable {x y a b l : Nat} {r2 r3 : Option Nat} {S S1 S2 S3 S4 Sk : Cst} {T T1 T2 T3 Tk : Nat → List Nat} {col c1 c2 c3 ck : Nat → Nat} {H H2 G R O : HS} {M M2 : MS} {v : Int32} {P z : Nat → Int32}
/-- a number of a ledger's row -/
theorem at_v (wf : wfS S) {q : Nat} (k : iK S q 2) {i j : Int32} {e n m : Nat} {C : Int32} (e3 : (giC S q 3).toInt = e) (e0 : giC S q 0 = C) (hi : i.toInt = n ∧ n < e) (hj : j.toInt = m ∧ (m : Int) < C.toInt) (hl : (e : Int) * C.toInt ≤ lcl S q) : f_Y3_at S q i j = giC S ((grC S q 2).getD 0) (C.toNatClampNeg * n + m) := by
  have w := wf.w2 k
  have hr := w.1.2.2
  unfold rg at hr
  have hg : C.toInt = 5 ∨ C.toInt = 6 ∨ C.toInt = 7 := by
    have w0 := w.1.1
    rw [e0] at w0
    rcases w0 with y | y | y <;> rw [y]
    · exact Or.inl (by decide)
    · exact Or.inr (Or.inl (by decide))
    · exact Or.inr (Or.inr (by decide))
  have kc := iNat (x := C) (by omega)
  have nl : (n : Int) * C.toInt + m < (e : Int) * C.toInt := by
    rcases hg with y | y | y <;> rw [y] at hj ⊢ <;> omega
  have hL := w.2.2.2
  have el : (lcl S q : Int) = lnC S ((grC S q 2).getD 0) := rfl
  have eb : (e : Int) * C.toInt ≤ 4200 := by
    rcases hg with y | y | y <;> rw [y] <;> omega
  have nC0 : 0 ≤ (n : Int) * C.toInt := by
    rcases hg with y | y | y <;> rw [y] <;> omega
  have mu := iMul (x := i) (y := C) (n := (n : Int) * C.toInt) (by rw [hi.1]) (by omega) (by omega)
  have ad := iAdd (x := i * C) (y := j) (by rw [mu, hj.1]; omega) (by rw [mu, hj.1]; omega)
  rw [mu, hj.1] at ad
  have kn := iNat (x := i * C + j) (by omega)
  have lL : (Int32.ofNat (lnC S ((grC S q 2).getD 0))).toInt = lnC S ((grC S q 2).getD 0) := (led_e (L := lnC S ((grC S q 2).getD 0)) w.1.1 w.1.2.1 w.1.2.2 hL).2.2.1
  have en : (i * C + j).toNatClampNeg = C.toNatClampNeg * n + m := by
    have c1 : (C.toNatClampNeg : Int) * n = (n : Int) * C.toInt := by rw [kc, Int.mul_comm]
    have c2 : ((C.toNatClampNeg * n + m : Nat) : Int) = (C.toNatClampNeg : Int) * n + m := by
      rw [Int.natCast_add, Int.natCast_mul]
    omega
  unfold f_Y3_at b_Y3_at_24 b_Y3_at_58 b_Y3_at_48
  rw [e0, if_neg (fun y => by have := iLt.mp y; rw [i0] at this; omega), if_neg (fun y => by have := iLe.mp y; omega), if_neg (fun y => by have := iLt.mp y; rw [i0] at this; omega), if_pos (iLt.mpr (by omega)), if_neg (fun y => by have := iLt.mp y; rw [i0] at this; omega), if_pos (iLt.mpr (by rw [ad, lL]; omega)), en]
/-- all stands when the trial moves -/
theorem CT.tr (h : KJ 82 a b r2 r3 l S T col) (c : CT S M a b r2 r3 l T) (as : AS b S T col S2 T2 c2) (sv2 : sV S2) (jb : jS S2 b) : CT S2 M a b r2 r3 l T2 := by
  obtain ⟨⟨z, q1, q2⟩, q3, ⟨q4, q5⟩, q6⟩ := c
  obtain ⟨o1, o2, o3⟩ := CT.oth (O := M.1) h (KJ.mb h) as.1 sv2
  have nab := KJ.nab h
  refine ⟨⟨z, q1.oth h.ci (KJ.ka h) nab as.1 sv2, (o3 a (KJ.ma h) nab).2 _ _ _ _ q2⟩, jb, ⟨o1 r2 0 (Or.inl rfl) (fun c e => ?_) q4, o1 r3 1 (Or.inr rfl) (fun c e => ?_) q5⟩, o2 q6⟩
  · subst e
    exact (KJ.n2 h).2
  · subst e
    exact (KJ.n3 h).2
/-- the trial is as the other Hall -/
def TB (S : Cst) (T : Nat → List Nat) (b : Nat) (G : HS) : Prop := ∃ w, RR (True, w) (G.1 7).toInt S T b G ∧ HA G
theorem tr_act (h : KJ 82 a b r2 r3 l S T col) (c : CT S M a b r2 r3 l T) (t : TB S T b G) {act i b' c' d : Int32} (h1 : 1 ≤ act.toInt) (h2 : act.toInt ≤ 22) (hz : nz act i b' c' d) : ∃ S3 T3 c3, f_Y0_enact S b act i b' c' d = ((f_X11_act G act i b' c' d).1, S3) ∧ KJ 82 a b r2 r3 l S3 T3 c3 ∧ CT S3 M a b r2 r3 l T3 ∧ TB S3 T3 b (f_X11_act G act i b' c' d).2 := by
  obtain ⟨w, r, hg⟩ := t
  obtain ⟨S3, T3, c3, f, as, q0, q1⟩ := act_sim (h.as (KJ.mb h)) r hg rfl h1 h2 hz
  have k3 := h.step (KJ.mb h) as.1 as.2
  have ha := (act_i hg act i b' c' d).2
  have tb : ∃ w N, N = ((f_X11_act G act i b' c' d).2.1 7).toInt ∧ RR (True, w) N S3 T3 b (f_X11_act G act i b' c' d).2 := by
    by_cases q : rz G act i b' c' d = 0
    · obtain ⟨v, D, ea, ⟨D7, l6, -, -⟩, r3⟩ := q1 q
      have em : (miH D act i b' c' d v).1 7 = D.1 7 + 1 := rfl
      have h7 := hg.2.1
      have e1 := iAdd (x := D.1 7) (y := 1) (by rw [i1, D7]; omega) (by rw [i1, D7]; omega)
      rw [i1, D7] at e1
      rw [ea]
      exact ⟨_, _, by rw [em, D7]; exact e1.symm, r3⟩
    · obtain ⟨ea, -, -, r3⟩ := q0 q
      rw [ea]
      exact ⟨_, _, rfl, r3⟩
  obtain ⟨w', N, eN, r3⟩ := tb
  subst eN
  exact ⟨S3, T3, c3, f, k3, CT.tr h c as r3.sv r3.jS, w', r3, ha⟩
/-- the trial begun -/
theorem tr_beg (h : KJ 82 a b r2 r3 l S T col) (c : CT S M a b r2 r3 l T) (mi : MI M) : ∃ S3 T3, f_Y0_begin S b (giC S (a + 37) 0) = (0, S3) ∧ KJ 82 a b r2 r3 l S3 T3 col ∧ CT S3 M a b r2 r3 l T3 ∧ TB S3 T3 b (f_X11_begin M.2.2 (M.2.1.1 0)).2 := by
  obtain ⟨⟨z, q1, q2⟩, q3, q⟩ := id c
  have hn := q2.1.1
  have en : giC S (a + 37) 0 = M.2.1.1 0 := q1.1.1.1
  obtain ⟨S3, T3, f, as, rr⟩ := begin_sim (h.as (KJ.mb h)).1 q3 q1.sv (n := M.2.1.1 0) (by omega)
  have r := rr M.2.2 (fun _ => 0)
  have bg := (begin_i mi.2.1 hn).2
  rw [en]
  refine ⟨S3, T3, f, h.step (KJ.mb h) as.1 as.2, CT.tr h c as r.sv r.jS, ⟨((fun _ => 0), M.2.1.1 0, M.2.2.2 40), ?_⟩⟩
  rw [bg.2.1, i0]
  exact ⟨r, bg.1⟩
/-- the trial's numbers of the minutes -/
theorem led_v (h : KJ 82 a b r2 r3 l S T col) (c : CT S M a b r2 r3 l T) {i : Int32} {n : Nat} (hi : i.toInt = n ∧ n < (M.2.1.1 7).toNatClampNeg) : (giC S (a + 7) 3 = M.2.1.1 7) ∧ (∀ (j : Int32) (m : Nat), j.toInt = m → m < 6 → f_Y3_at S (a + 7) i j = M.2.1.2 40 (6 * n + m)) ∧ ∀ z, JX S T a (M.2.1.1 0) (M.2.1.1 7).toNatClampNeg (M.2.1.2 40) z → f_Y3_at S (a + 7) i 6 = z n := by
  obtain ⟨⟨z, q1, q2⟩, q⟩ := c
  have t7 : (7 : Int32).toInt = 7 := by decide
  have n7 : (7 : Int32).toNatClampNeg = 7 := by decide
  have e6 : (6 : Int32).toInt = 6 := by decide
  have k7 : iK S (a + 7) 2 := (h.ci.wf.w0 (KJ.ka h)).1.2.2.2.2.1
  have j1 := q1.2.2.2.1.1
  have j0 := q1.2.2.2.1.2.2.1.1
  have kp : 0 ≤ (M.2.1.1 7).toInt := by
    have := q2.2.1.1
    rw [j1.1] at this
    omega
  have kk := iNat kp
  have at' : ∀ (j : Int32) (m : Nat), j.toInt = m → m < 7 → f_Y3_at S (a + 7) i j = giC S ((grC S (a + 7) 2).getD 0) (7 * n + m) := fun j m hj hm => by
    have := at_v h.ci.wf k7 (i := i) (j := j) (C := 7) q2.2.1.1 j0 hi ⟨hj, by rw [t7]; omega⟩ (by rw [t7]; have := j1.2.1; omega)
    rw [n7] at this
    exact this
  refine ⟨j1.1, fun j m hj hm => ?_, fun z' jx => ?_⟩
  · rw [at' j m hj (by omega)]
    exact q2.2.1.2.1 n m hi.2 hm
  · rw [at' 6 6 e6 (by omega)]
    exact jx.2.1.2.2 n hi.2
/-- the minutes done on the trial, one entry -/
theorem tr_ent (h : KJ 82 a b r2 r3 l S T col) (c : CT S M a b r2 r3 l T) {k : Int32} {n : Nat} (hk : k.toInt = n ∧ n < (M.2.1.1 7).toNatClampNeg) (t : TB S T b G) : ∃ S3 T3 c3, f_Y0_enact S b (f_Y3_at S (a + 7) k 0) (f_Y3_at S (a + 7) k 1) (f_Y3_at S (a + 7) k 2) (f_Y3_at S (a + 7) k 3) (f_Y3_at S (a + 7) k 4) = ((f_X11_act G (M.2.1.2 40 (6 * n)) (M.2.1.2 40 (6 * n + 1)) (M.2.1.2 40 (6 * n + 2)) (M.2.1.2 40 (6 * n + 3)) (M.2.1.2 40 (6 * n + 4))).1, S3) ∧ KJ 82 a b r2 r3 l S3 T3 c3 ∧ CT S3 M a b r2 r3 l T3 ∧ TB S3 T3 b (f_X11_act G (M.2.1.2 40 (6 * n)) (M.2.1.2 40 (6 * n + 1)) (M.2.1.2 40 (6 * n + 2)) (M.2.1.2 40 (6 * n + 3)) (M.2.1.2 40 (6 * n + 4))).2 := by
  obtain ⟨-, l1, -⟩ := led_v h c hk
  obtain ⟨⟨z, q1, q2⟩, q⟩ := id c
  have e := q2.1.2.2 n hk.2
  rw [l1 0 0 (by decide) (by omega), l1 1 1 (by decide) (by omega), l1 2 2 (by decide) (by omega), l1 3 3 (by decide) (by omega), l1 4 4 (by decide) (by omega)]
  exact tr_act h c t e.1.1 e.1.2 e.2
theorem agn_l (mi : MI M) : ∀ (f : Nat) (S : Cst) (T : Nat → List Nat) (col : Nat → Nat) (k : Int32) (G : HS), KJ 82 a b r2 r3 l S T col → CT S M a b r2 r3 l T → G = fol (M.2.1.2 40) (f_X11_begin M.2.2 (M.2.1.1 0)).2 k.toNatClampNeg → TB S T b G → 0 ≤ k.toInt → k.toInt ≤ (M.2.1.1 7).toInt → (M.2.1.1 7).toInt - k.toInt < f → ∃ S3 T3 c3 G3, lp_Y10_again_27 82 f S (some (a + 7)) k = (-1, S3) ∧ lp_X12_again_16 f (mS M G) k = (-1, mS M G3) ∧ KJ 82 a b r2 r3 l S3 T3 c3 ∧ CT S3 M a b r2 r3 l T3 := by
  have e6 : (6 : Int32).toInt = 6 := by decide
  intro f
  induction f with
  | zero => intro S T col k G h c eG t h1 h2 h3; omega
  | succ f ih =>
    intro S T col k G h c eG t h1 h2 h3
    have b7 := mi.1.2.1
    have kk := iNat h1
    have ke := iNat (x := M.2.1.1 7) b7.1
    obtain ⟨⟨z, q1, q2⟩, q⟩ := id c
    have g3 : giC S (a + 7) 3 = M.2.1.1 7 := q1.j7
    rw [lp_Y10_again_27, lp_X12_again_16]
    unfold st_Y10_again_27 st_X12_again_16
    rw [Option.getD_some, g3]
    have m1 : (mS M G).2.1 = M.2.1 := rfl
    have m2 : (mS M G).2.2 = G := rfl
    rw [m1, m2]
    by_cases d : M.2.1.1 7 ≤ k
    · rw [if_pos d, if_pos d]
      exact ⟨S, T, col, G, rfl, rfl, h, c⟩
    · rw [if_neg d, if_neg d]
      have d := mt iLe.mpr d
      have hk : k.toInt = (k.toNatClampNeg : Nat) ∧ k.toNatClampNeg < (M.2.1.1 7).toNatClampNeg := ⟨kk.symm, by omega⟩
      have i6 := (n6 (y := k) ⟨h1, by omega⟩ (j := 0) (by decide)).1
      have j1 := (n6 (y := k) ⟨h1, by omega⟩ (j := 1) (by decide)).2
      have j2 := (n6 (y := k) ⟨h1, by omega⟩ (j := 2) (by decide)).2
      have j3 := (n6 (y := k) ⟨h1, by omega⟩ (j := 3) (by decide)).2
      have j4 := (n6 (y := k) ⟨h1, by omega⟩ (j := 4) (by decide)).2
      have j5 := (n6 (y := k) ⟨h1, by omega⟩ (j := 5) (by decide)).2
      have u1 : (1 : Int32).toNatClampNeg = 1 := by decide
      have u2 : (2 : Int32).toNatClampNeg = 2 := by decide
      have u3 : (3 : Int32).toNatClampNeg = 3 := by decide
      have u4 : (4 : Int32).toNatClampNeg = 4 := by decide
      have u5 : (5 : Int32).toNatClampNeg = 5 := by decide
      rw [u1] at j1
      rw [u2] at j2
      rw [u3] at j3
      rw [u4] at j4
      rw [u5] at j5
      obtain ⟨S3, T3, c3, f3, k3, ct3, tb3⟩ := tr_ent h c hk t
      rw [h.g1, Option.getD_some, f3, i6, j1, j2, j3, j4]
      obtain ⟨l3, l1, l6⟩ := led_v k3 ct3 hk
      obtain ⟨⟨z3, p1, p2⟩, p⟩ := id ct3
      obtain ⟨jx, -⟩ := p2.2.2 M.2.2 mi.2.1
      obtain ⟨jx1, jx2⟩ := jx k.toNatClampNeg hk.2
      rw [← eG] at jx1
      have e1 := iAdd (x := k) (y := 1) (by rw [i1]; omega) (by rw [i1]; omega)
      rw [i1] at e1
      have en : (k + 1).toNatClampNeg = k.toNatClampNeg + 1 := by have := iNat (x := k + 1) (by omega); omega
      have eG3 : (f_X11_act G (M.2.1.2 40 (6 * k.toNatClampNeg)) (M.2.1.2 40 (6 * k.toNatClampNeg + 1)) (M.2.1.2 40 (6 * k.toNatClampNeg + 2)) (M.2.1.2 40 (6 * k.toNatClampNeg + 3)) (M.2.1.2 40 (6 * k.toNatClampNeg + 4))).2 = fol (M.2.1.2 40) (f_X11_begin M.2.2 (M.2.1.1 0)).2 (k + 1).toNatClampNeg := by
        rw [en, fol, ← eG]
      rw [← en, ← eG3] at jx2
      have w6 := k3.ci.wf.w0 (KJ.kb k3)
      have sz : giC S3 (b + 1) 1 = z3 k.toNatClampNeg := by
        obtain ⟨w, rb, -⟩ := tb3
        rw [rr_z (k3.as (KJ.mb k3)) rb.2.1]
        exact jx2
      unfold b_Y10_again_72a b_X12_again_a92
      simp only [Option.getD_some]
      rw [l1 5 5 (by decide) (by omega), jx1, if_pos rfl, k3.g1, Option.getD_some, w6.2.1.2.1, Option.getD_some, l6 z3 p2, sz, if_pos rfl, j5]
      have m3 : (mS (mS M G) (f_X11_act G (M.2.1.2 40 (6 * k.toNatClampNeg)) (M.2.1.2 40 (6 * k.toNatClampNeg + 1)) (M.2.1.2 40 (6 * k.toNatClampNeg + 2)) (M.2.1.2 40 (6 * k.toNatClampNeg + 3)) (M.2.1.2 40 (6 * k.toNatClampNeg + 4))).2).2.1.2 40 (6 * k.toNatClampNeg + 5) = M.2.1.2 40 (6 * k.toNatClampNeg + 5) := rfl
      rw [m3, if_pos rfl]
      exact ih S3 T3 c3 (k + 1) _ k3 ct3 eG3 tb3 (by omega) (by omega) (by omega)
theorem ac_again (q : RQ S M) (mi : MI M) (e : f_Y10_again S 82 = (v, S2)) : v = (f_X12_again M).1 ∧ RQ S2 (f_X12_again M).2 := by
  obtain ⟨a, b, r2, r3, l, T, col, h, c⟩ := q
  have wa := h.ci.wf.w0 (KJ.ka h)
  obtain ⟨S3, T3, f, k3, ct, tb⟩ := tr_beg h c mi
  obtain ⟨S4, T4, c4, G4, f4, g4, k4, ct4⟩ := agn_l mi 100000 S3 T3 col 0 _ k3 ct (by rw [zn0]; rfl) tb (by rw [i0]; omega) (by rw [i0]; exact mi.1.2.1.1) (by rw [i0]; have := mi.1.2.1.2; omega)
  unfold f_Y10_again b_Y10_again_25a at e
  unfold f_X12_again b_X12_again_a14
  rw [h.g1, h.g0, Option.getD_some, Option.getD_some, wa.2.1.1, Option.getD_some, wa.2.1.2.2.2.2.1, f] at e
  simp only at e
  rw [f4] at e
  rw [g4]
  obtain ⟨rfl, rfl⟩ := Prod.mk.inj e
  exact ⟨rfl, a, b, r2, r3, l, T4, c4, k4, ct4⟩
end
end
section
/-! ===== before, check, strike, tell ===== -/
section
variable {x y a b l : Nat} {r2 r3 : Option Nat} {S S1 S2 S3 S4 Sk : Cst} {T T1 T2 T3 Tk : Nat → List Nat} {col c1 c2 c3 ck : Nat → Nat} {H H2 G R O : HS} {M M2 : MS} {v : Int32} {P z : Nat → Int32}
theorem RQ.cg (q : RQ S M) (e1 : M2.1 = M.1) (e2 : M2.2.1 = M.2.1) : RQ S M2 := by
  obtain ⟨a, b, r2, r3, l, T, col, h, c⟩ := q
  refine ⟨a, b, r2, r3, l, T, col, h, ?_⟩
  unfold CT at c ⊢
  rw [e1, e2]
  exact c
theorem bef_l (mm i e : Int32) (he : e.toInt ≤ (M.2.1.1 7).toInt) (b7 : 0 ≤ (M.2.1.1 7).toInt ∧ (M.2.1.1 7).toInt ≤ 600) : ∀ (f : Nat) (S : Cst) (T : Nat → List Nat) (col : Nat → Nat) (k : Int32) (G : HS), KJ 82 a b r2 r3 l S T col → CT S M a b r2 r3 l T → G = fol (M.2.1.2 40) (f_X11_begin M.2.2 (M.2.1.1 0)).2 k.toNatClampNeg → TB S T b G → 0 ≤ k.toInt → k.toInt ≤ e.toInt → e.toInt - k.toInt < f → ∃ S3 T3 c3, lp_Y10_before_49 82 f S e mm i (some (a + 7)) k = (f_Y0_wordOf S3 b mm i, S3) ∧ KJ 82 a b r2 r3 l S3 T3 c3 ∧ CT S3 M a b r2 r3 l T3 ∧ TB S3 T3 b (fol (M.2.1.2 40) (f_X11_begin M.2.2 (M.2.1.1 0)).2 e.toNatClampNeg) := by
  intro f
  induction f with
  | zero => intro S T col k G h c eG t h1 h2 h3; omega
  | succ f ih =>
    intro S T col k G h c eG t h1 h2 h3
    have kk := iNat h1
    have ke := iNat (x := M.2.1.1 7) b7.1
    rw [lp_Y10_before_49]
    unfold st_Y10_before_49
    rw [Option.getD_some]
    by_cases d : e ≤ k
    · rw [if_pos d, h.g1, Option.getD_some]
      have d := iLe.mp d
      have ek : k.toNatClampNeg = e.toNatClampNeg := by
        have := iNat (x := e) (by omega)
        omega
      rw [ek] at eG
      rw [← eG]
      exact ⟨S, T, col, rfl, h, c, t⟩
    · rw [if_neg d]
      have d := mt iLe.mpr d
      have hk : k.toInt = (k.toNatClampNeg : Nat) ∧ k.toNatClampNeg < (M.2.1.1 7).toNatClampNeg := ⟨kk.symm, by omega⟩
      obtain ⟨S3, T3, c3, f3, k3, ct3, tb3⟩ := tr_ent h c hk t
      rw [h.g1, Option.getD_some, f3]
      have e1 := iAdd (x := k) (y := 1) (by rw [i1]; omega) (by rw [i1]; omega)
      rw [i1] at e1
      have en : (k + 1).toNatClampNeg = k.toNatClampNeg + 1 := by have := iNat (x := k + 1) (by omega); omega
      unfold b_Y10_before_102a
      exact ih S3 T3 c3 (k + 1) _ k3 ct3 (by rw [en, fol, ← eG]) tb3 (by omega) (by omega) (by omega)
theorem rq_before (q : RQ S M) (mi : MI M) (i1' i2 i3 : Int32) (e : f_Y10_before S 82 i1' i2 i3 = (v, S2)) : RQ S2 (f_X12_before M i1' i2 i3).2 := by
  obtain ⟨a, b, r2, r3, l, T, col, h, c⟩ := q
  have wa := h.ci.wf.w0 (KJ.ka h)
  have g3 : giC S (a + 7) 3 = M.2.1.1 7 := by
    obtain ⟨⟨z, q1, -⟩, -⟩ := c
    exact q1.j7
  have m1 : (f_X12_before M i1' i2 i3).2.1 = M.1 ∧ (f_X12_before M i1' i2 i3).2.2.1 = M.2.1 := by
    unfold f_X12_before b_X12_before_a31 b_X12_before_a55
    by_cases z : f_X12_in i1' 0 (M.2.1.1 7) = 0
    · rw [if_pos z]
      exact ⟨rfl, rfl⟩
    · rw [if_neg z]
      generalize (f_X11_begin M.2.2 (M.2.1.1 0)).2 = B
      generalize f_X11_follow ((mS M B).2.1.2 40) (mS M B).2.2 i1' = F
      generalize f_X11_text (mS (mS M B) F.2).2.2 i2 i3 = X
      exact ⟨rfl, rfl⟩
  refine RQ.cg (M := M) ?_ m1.1 m1.2
  unfold f_Y10_before b_Y10_before_18 b_Y10_before_46a at e
  rw [h.g0, h.g1, Option.getD_some, Option.getD_some, wa.2.1.1, wa.2.1.2.2.2.2.1, Option.getD_some, Option.getD_some, g3] at e
  by_cases c1 : i1' < 0
  · rw [if_pos c1] at e
    obtain ⟨rfl, rfl⟩ := Prod.mk.inj e
    exact ⟨a, b, r2, r3, l, T, col, h, c⟩
  · rw [if_neg c1] at e
    have c1 := mt iLt.mpr c1
    rw [i0] at c1
    by_cases c2 : i1' ≤ M.2.1.1 7
    · rw [if_pos c2] at e
      have c2 := iLe.mp c2
      obtain ⟨S3, T3, f, k3, ct, tb⟩ := tr_beg h c mi
      obtain ⟨S4, T4, c4, f4, k4, ct4, -⟩ := bef_l i2 i3 i1' c2 mi.1.2.1 100000 S3 T3 col 0 _ k3 ct (by rw [zn0]; rfl) tb (by rw [i0]; omega) (by rw [i0]; omega) (by rw [i0]; have := mi.1.2.1.2; omega)
      rw [f] at e
      simp only at e
      rw [f4] at e
      obtain ⟨rfl, rfl⟩ := Prod.mk.inj e
      exact ⟨a, b, r2, r3, l, T4, c4, k4, ct4⟩
    · rw [if_neg c2] at e
      obtain ⟨rfl, rfl⟩ := Prod.mk.inj e
      exact ⟨a, b, r2, r3, l, T, col, h, c⟩
/-- the told row moves, nothing else -/
theorem CT.row (h : KJ 82 a b r2 r3 l S T col) (c : CT S M a b r2 r3 l T) (g : LSt noE T [] l S col S2 c2) (hk : nk S S2) (ho : oz S l) : (∃ z, RR (True, z, M.2.1.1 0, M.2.1.2 40) (M.2.1.1 7).toInt S2 T a M.2.1 ∧ JX S2 T a (M.2.1.1 0) (M.2.1.1 7).toNatClampNeg (M.2.1.2 40) z) ∧ jS S2 b ∧ (IM S2 T r2 0 M.1 ∧ IM S2 T r3 1 M.1) := by
  obtain ⟨⟨z, q1, q2⟩, q3, ⟨q4, q5⟩, q6⟩ := c
  have kl := h.kl
  have z7 := (h.ci.wf.w2 kl).2.1.2
  have cl : col l = 82 := h.2.1.2.2.2
  have cz : col ((grC S l 2).getD 0) = 82 := (h.ci.c2 l kl).trans cl
  have nX : ∀ c, c ∈ kA a b r2 r3 → c ≠ 82 := fun c m e => by
    have := (h.2.2.2.2.1 c m).2.2.2.1
    rw [h.2.1.2.2.1] at this
    exact this e.symm
  have fr : ∀ c, c ∈ kA a b r2 r3 → ∀ q, q < S.1 → col q = c → S2.2.2 q = S.2.2 q := fun c m q hq e => g.2.2.2.1 q hq (fun w => nX c m (by rw [← e, w]; exact cl)) (fun w => nX c m (by rw [← e, w]; exact cz))
  have sv2 : sV S2 := fun q k => by
    have kq := hk q 3 (by decide) k
    have W := W3k h.ci.wf kq
    have e : ∀ j, j < 4 → ∀ k, giC S2 (q + j) k = giC S (q + j) k := fun j hj k => by
      unfold giC
      rcases (show j = 0 ∨ j = 1 ∨ j = 2 ∨ j = 3 by omega) with rfl | rfl | rfl | rfl
      · rw [show S2.2.2 (q + 0) = S.2.2 (q + 0) from g.2.2.2.1 q kq.1 (ik_ne kq kl (by decide)) (ik_ne kq z7 (by decide))]
      · rw [g.2.2.2.1 _ W.1.1 (ik_ne W.1 kl (by decide)) (ik_ne W.1 z7 (by decide))]
      · rw [g.2.2.2.1 _ W.2.1.1 (ik_ne W.2.1 kl (by decide)) (fun y => ho _ W.1 y.symm)]
      · rw [g.2.2.2.1 _ W.2.2.1 (ik_ne W.2.2 kl (by decide)) (ik_ne W.2.2 z7 (by decide))]
    rw [vCn_cg (e 3 (by omega)), show giC S2 q 14 = giC S q 14 from e 0 (by omega) 14]
    exact q1.sv q kq
  have ft : ∀ c, c < S.1 → T c = T c := fun _ _ => rfl
  refine ⟨⟨z, q1.og h.ci (KJ.ka h) g.2.1 g.1.wf (fr a (KJ.ma h)) (fun _ _ _ => rfl) sv2, q2.og h.ci (KJ.ka h) g.2.1 g.1.wf (fr a (KJ.ma h)) (fun _ _ _ => rfl) sv2⟩, q3.og h.ci (KJ.kb h) g.2.1 (fr b (KJ.mb h)), q4.og h (fun c e => ?_) g.2.1 g.1.wf (fun c e => ?_) (fun _ _ _ _ _ => rfl) sv2, q5.og h (fun c e => ?_) g.2.1 g.1.wf (fun c e => ?_) (fun _ _ _ _ _ => rfl) sv2⟩
  · subst e
    exact (h.2.2.2.2.1 c (KJ.m2 h)).1
  · subst e
    exact fr c (KJ.m2 h)
  · subst e
    exact (h.2.2.2.2.1 c (KJ.m3 h)).1
  · subst e
    exact fr c (KJ.m3 h)
theorem KJ.refl (h : KJ 82 a b r2 r3 l S T col) (g : LSt noE T [] l S col S2 c2) : grC S2 82 0 = some a ∧ grC S2 82 1 = some b ∧ grC S2 82 2 = r2 ∧ grC S2 82 3 = r3 ∧ grC S2 82 4 = some l := by
  have km := h.km
  have em : S2.2.2 82 = S.2.2 82 := g.2.2.2.1 82 km.1 (ik_ne km h.kl (by decide)) (ik_ne km (h.ci.wf.w2 h.kl).2.1.2 (by decide))
  have gm : ∀ k, grC S2 82 k = grC S 82 k := fun k => by unfold grC; rw [em]
  simp only [gm]
  exact h.2.2.1
theorem ac_strike (q : RQ S M) (mi : MI M) (e : f_Y10_strike S 82 = (v, S2)) : v = (f_X12_strike M).1 ∧ RQ S2 (f_X12_strike M).2 := by
  obtain ⟨a, b, r2, r3, l, T, col, h, c⟩ := id q
  obtain ⟨v', S2', e', -, ki, -⟩ := k_strike ⟨a, b, r2, r3, l, T, col, h⟩
  obtain ⟨-, rfl⟩ := Prod.mk.inj (e.symm.trans e')
  obtain ⟨t0, t1, t2, to, t3⟩ := c.2.2.2
  have g := LSt.n h.ci h.kl (v := 0) ⟨by rw [i0]; omega, by rw [i0]; omega⟩
  unfold f_Y10_strike at e
  rw [h.g4, Option.getD_some, t1] at e
  obtain ⟨rfl, rfl⟩ := Prod.mk.inj e
  obtain ⟨p1, p2, p3⟩ := CT.row h c g (fun q c _ k => ik_si.mp k) to
  obtain ⟨g0, g1, g2, g3, g4⟩ := KJ.refl h g
  have nz : (grC S l 2).getD 0 ≠ l := ik_ne (h.ci.wf.w2 h.kl).2.1.2 h.kl (by decide)
  refine ⟨rfl, RQ.mk ki g0 g1 g2 g3 g4 g.1 ⟨p1, p2, ⟨⟨p3.1.1, p3.1.2⟩, ⟨p3.2.1, p3.2.2⟩⟩, ?_, ?_, ?_, fun q k => ?_, fun i j hi => ?_⟩⟩
  · rw [gi_si, if_neg (fun y => absurd y.2 (by decide))]
    exact t0
  · rw [gi_si, if_pos ⟨rfl, rfl⟩]
    rfl
  · have e0 : (mO M (sI M.1 6 0)).1.1 6 = 0 := rfl
    rw [show (f_X12_strike M).2.1.1 6 = 0 from rfl, i0]
    have : (0 : Int) ≤ (lcl (siC S l 3 0) l : Nat) := Int.natCast_nonneg _
    omega
  · rw [gr_si]
    exact to q (ik_si.mp k)
  · rw [show (f_X12_strike M).2.1.1 6 = 0 from rfl, i0] at hi
    omega
end
end
section
/-! ===== check; readers move nothing ===== -/
section
variable {x y a b l : Nat} {r2 r3 : Option Nat} {S S1 S2 S3 S4 Sk : Cst} {T T1 T2 T3 Tk : Nat → List Nat} {col c1 c2 c3 ck : Nat → Nat} {H H2 G R O : HS} {M M2 : MS} {v : Int32} {P z : Nat → Int32}
/-- the floor's own and the Hall in use stand -/
def kr (M : MS) : (Int32 × MS) ⊕ (MS × Int32) → Prop
  | Sum.inl r => r.2.1 = M.1 ∧ r.2.2.1 = M.2.1
  | Sum.inr r => r.1.1 = M.1 ∧ r.1.2.1 = M.2.1
theorem kr_s1 (M : MS) (a b c d : Int32) : (∀ r, st_X12_check_51 M a b c d = Sum.inl r → kr M r) ∧ (∀ r, st_X12_check_51 M a b c d = Sum.inr r → r.1.1 = M.1 ∧ r.1.2.1 = M.2.1) := by
  unfold st_X12_check_51 b_X12_check_a122 b_X12_check_142
  refine ⟨fun r e => ?_, fun r e => ?_⟩
  · repeat' split at e
    all_goals (cases e <;> exact ⟨rfl, rfl⟩)
  · repeat' split at e
    all_goals (cases e <;> exact ⟨rfl, rfl⟩)
theorem kr_l1 : ∀ (n : Nat) (M : MS) (a b c d : Int32), kr M (lp_X12_check_51 n M a b c d) := by
  intro n
  induction n with
  | zero => intro M a b c d; exact ⟨rfl, rfl⟩
  | succ n ih =>
    intro M a b c d
    rw [lp_X12_check_51]
    have s := kr_s1 M a b c d
    cases h : st_X12_check_51 M a b c d with
    | inl r => exact s.1 r h
    | inr r =>
      have q := ih r.1 r.2.1 r.2.2.1 r.2.2.2.1 r.2.2.2.2
      obtain ⟨e1, e2⟩ := s.2 r h
      unfold kr at q ⊢
      rw [e1, e2] at q
      exact q
theorem kr_s (M : MS) (x : Int32) : kr M (st_X12_check_16 M x) := by
  unfold st_X12_check_16
  by_cases z : M.1.1 6 ≤ x
  · rw [if_pos z]
    exact ⟨rfl, rfl⟩
  · rw [if_neg z]
    generalize f_X12_numbers (M.1.2 5 (6 * x).toNatClampNeg) = k
    by_cases y : k = -1
    · rw [if_pos y]
      exact ⟨rfl, rfl⟩
    · rw [if_neg y]
      exact kr_l1 _ M _ _ _ _
theorem kr_l : ∀ (n : Nat) (M : MS) (x : Int32), (lp_X12_check_16 n M x).2.1 = M.1 ∧ (lp_X12_check_16 n M x).2.2.1 = M.2.1 := by
  intro n
  induction n with
  | zero => intro M x; exact ⟨rfl, rfl⟩
  | succ n ih =>
    intro M x
    rw [lp_X12_check_16]
    have s := kr_s M x
    generalize st_X12_check_16 M x = r at s
    cases r with
    | inl r => exact s
    | inr r =>
      obtain ⟨e1, e2⟩ := ih r.1 r.2
      exact ⟨e1.trans s.1, e2.trans s.2⟩
theorem cbd_l (i j : Int32) : ∀ (n : Nat) (k : Int32), 0 ≤ k.toInt → k.toInt ≤ 5 → 5 - k.toInt < n → lp_Y10_canBeDone_33 S 82 n i j k ≠ 0 → ∀ m : Int32, k.toInt ≤ m.toInt → m.toInt < 5 → f_Y3_at S ((grC S 82 4).getD 0) i m = 0 := by
  have e5 : (5 : Int32).toInt = 5 := by decide
  intro n
  induction n with
  | zero => intro k h1 h2 h3; omega
  | succ n ih =>
    intro k h1 h2 h3 h m hm1 hm2
    rw [lp_Y10_canBeDone_33] at h
    unfold st_Y10_canBeDone_33 at h
    by_cases c : 5 ≤ k
    · have := iLe.mp c
      rw [e5] at this
      omega
    · rw [if_neg c] at h
      have c := mt iLe.mpr c
      rw [e5] at c
      have e1 := iAdd (x := k) (y := 1) (by rw [i1]; omega) (by rw [i1]; omega)
      rw [i1] at e1
      by_cases d : f_Y3_at S ((grC S 82 4).getD 0) i k = 0
      · rw [if_pos d] at h
        by_cases y : m = k
        · rw [y]
          exact d
        · have y' := mt iEq.mpr y
          exact ih (k + 1) (by omega) (by omega) (by omega) h m (by omega) hm2
      · rw [if_neg d] at h
        exact absurd rfl h
theorem tab_22 {act : Int32} (h1 : 1 ≤ act.toInt) (h2 : act.toInt ≤ 22) : tabN act.toNatClampNeg = f_X12_numbers act ∧ 0 ≤ (f_X12_numbers act).toInt ∧ (f_X12_numbers act).toInt ≤ 4 := by
  rcases act_22 h1 h2 with rfl | rfl | rfl | rfl | rfl | rfl | rfl | rfl | rfl | rfl | rfl | rfl | rfl | rfl | rfl | rfl | rfl | rfl | rfl | rfl | rfl | rfl <;> exact ⟨by decide, by decide, by decide⟩
theorem cbd_v {i : Int32} (h : f_Y10_canBeDone S 82 i ≠ 0) : (1 ≤ (f_Y3_at S ((grC S 82 4).getD 0) i 0).toInt ∧ (f_Y3_at S ((grC S 82 4).getD 0) i 0).toInt ≤ 22) ∧ nz (f_Y3_at S ((grC S 82 4).getD 0) i 0) (f_Y3_at S ((grC S 82 4).getD 0) i 1) (f_Y3_at S ((grC S 82 4).getD 0) i 2) (f_Y3_at S ((grC S 82 4).getD 0) i 3) (f_Y3_at S ((grC S 82 4).getD 0) i 4) := by
  have e23 : (23 : Int32).toInt = 23 := by decide
  unfold f_Y10_canBeDone b_Y10_canBeDone_23 at h
  by_cases c1 : f_Y3_at S ((grC S 82 4).getD 0) i 0 < 1
  · rw [if_pos c1] at h
    exact absurd rfl h
  · rw [if_neg c1] at h
    by_cases c2 : f_Y3_at S ((grC S 82 4).getD 0) i 0 < 23
    · rw [if_pos c2] at h
      have c1 := mt iLt.mpr c1
      have c2 := iLt.mp c2
      rw [i1] at c1
      rw [e23] at c2
      obtain ⟨t1, t2, t3⟩ := tab_22 (act := f_Y3_at S ((grC S 82 4).getD 0) i 0) (by omega) (by omega)
      rw [t1] at h
      have e1 := iAdd (x := f_X12_numbers (f_Y3_at S ((grC S 82 4).getD 0) i 0)) (y := 1) (by rw [i1]; omega) (by rw [i1]; omega)
      rw [i1] at e1
      have L := cbd_l i _ 100000 _ (by omega) (by omega) (by omega) h
      have y2 : (2 : Int32).toInt = 2 := by decide
      have y3 : (3 : Int32).toInt = 3 := by decide
      have y4 : (4 : Int32).toInt = 4 := by decide
      refine ⟨⟨by omega, by omega⟩, fun q => ?_, fun q => ?_, fun q => ?_, fun q => ?_⟩
      · have q := iLe.mp q
        rw [i0] at q
        exact L 1 (by rw [i1]; omega) (by rw [i1]; omega)
      · have q := iLe.mp q
        rw [i1] at q
        exact L 2 (by rw [y2]; omega) (by rw [y2]; omega)
      · have q := iLe.mp q
        rw [y2] at q
        exact L 3 (by rw [y3]; omega) (by rw [y3]; omega)
      · have q := iLe.mp q
        rw [y3] at q
        exact L 4 (by rw [y4]; omega) (by rw [y4]; omega)
    · rw [if_neg c2] at h
      exact absurd rfl h
theorem chk_l : ∀ (f : Nat) (S : Cst) (T : Nat → List Nat) (col : Nat → Nat) (k : Int32) (G : HS), KJ 82 a b r2 r3 l S T col → CT S M a b r2 r3 l T → TB S T b G → ∃ v S3 T3 c3, lp_Y10_check_19 82 f S k = (v, S3) ∧ KJ 82 a b r2 r3 l S3 T3 c3 ∧ CT S3 M a b r2 r3 l T3 := by
  intro f
  induction f with
  | zero => intro S T col k G h c t; exact ⟨_, S, T, col, rfl, h, c⟩
  | succ f ih =>
    intro S T col k G h c t
    rw [lp_Y10_check_19]
    unfold st_Y10_check_19 b_Y10_check_52
    by_cases d1 : giC S ((grC S 82 4).getD 0) 3 ≤ k
    · rw [if_pos d1]
      exact ⟨_, S, T, col, rfl, h, c⟩
    rw [if_neg d1]
    by_cases d2 : f_Y3_at S ((grC S 82 4).getD 0) k 5 < 0
    · rw [if_pos d2]
      exact ⟨_, S, T, col, rfl, h, c⟩
    rw [if_neg d2]
    by_cases d3 : f_Y10_canBeDone S 82 k = 0
    · rw [if_pos d3]
      exact ⟨_, S, T, col, rfl, h, c⟩
    rw [if_neg d3]
    obtain ⟨e1, e2⟩ := cbd_v d3
    obtain ⟨S3, T3, c3, f3, k3, ct3, tb3⟩ := tr_act h c t e1.1 e1.2 e2
    rw [h.g1, Option.getD_some, f3]
    unfold b_Y10_check_106a
    by_cases d4 : (f_X11_act G (f_Y3_at S ((grC S 82 4).getD 0) k 0) (f_Y3_at S ((grC S 82 4).getD 0) k 1) (f_Y3_at S ((grC S 82 4).getD 0) k 2) (f_Y3_at S ((grC S 82 4).getD 0) k 3) (f_Y3_at S ((grC S 82 4).getD 0) k 4)).1 = f_Y3_at S ((grC S 82 4).getD 0) k 5
    · rw [if_pos d4]
      exact ih S3 T3 c3 (k + 1) _ k3 ct3 tb3
    · rw [if_neg d4]
      exact ⟨_, S3, T3, c3, rfl, k3, ct3⟩
theorem rq_check (q : RQ S M) (mi : MI M) (e : f_Y10_check S 82 = (v, S2)) : RQ S2 (f_X12_check M).2 := by
  obtain ⟨a, b, r2, r3, l, T, col, h, c⟩ := q
  have wa := h.ci.wf.w0 (KJ.ka h)
  have m1 : (f_X12_check M).2.1 = M.1 ∧ (f_X12_check M).2.2.1 = M.2.1 := by
    unfold f_X12_check b_X12_check_a14
    generalize (f_X11_begin M.2.2 (M.2.1.1 0)).2 = B
    obtain ⟨e1, e2⟩ := kr_l 100000 (mS M B) 0
    exact ⟨e1, e2⟩
  refine RQ.cg (M := M) ?_ m1.1 m1.2
  obtain ⟨S3, T3, f, k3, ct, tb⟩ := tr_beg h c mi
  obtain ⟨v', S4, T4, c4, f4, k4, ct4⟩ := chk_l 100000 S3 T3 col 0 _ k3 ct tb
  unfold f_Y10_check b_Y10_check_17a at e
  rw [h.g1, h.g0, Option.getD_some, Option.getD_some, wa.2.1.1, Option.getD_some, f] at e
  simp only at e
  rw [f4] at e
  obtain ⟨-, rfl⟩ := Prod.mk.inj e
  exact ⟨a, b, r2, r3, l, T4, c4, k4, ct4⟩
/-- readers -/
theorem ms_i {c : Prop} [Decidable c] {p q : Int32 × MS} (h1 : p.2 = M) (h2 : q.2 = M) : (if c then p else q).2 = M := by
  by_cases h : c
  · rw [if_pos h]
    exact h1
  · rw [if_neg h]
    exact h2
theorem vt_s (G : HS) (y : Int32) : ∀ (n : Nat) (u w : Int32), (lp_X11_voters_4 n G y u w).2 = G := by
  intro n
  induction n with
  | zero => intro u w; rfl
  | succ n ih =>
    intro u w
    rw [lp_X11_voters_4]
    unfold st_X11_voters_4 b_X11_voters_34
    by_cases c : G.1 0 ≤ w
    · rw [if_pos c]
    · rw [if_neg c]
      by_cases d : 2 ≤ G.2 29 ((200 * y) + w).toNatClampNeg
      · rw [if_pos d]
        exact ih _ _
      · rw [if_neg d]
        exact ih _ _
theorem tx_i {c : Prop} [Decidable c] {p q : Int32 × HS} (h1 : p.2 = G) (h2 : q.2 = G) : (if c then p else q).2 = G := by
  by_cases h : c
  · rw [if_pos h]
    exact h1
  · rw [if_neg h]
    exact h2
theorem tx_s (G : HS) (i j : Int32) : (f_X11_text G i j).2 = G := by
  unfold f_X11_text b_X11_text_29 b_X11_text_59 b_X11_text_87 b_X11_text_124 b_X11_text_125
  repeat' (first | refine tx_i ?_ ?_ | rfl)
theorem ms_text (M : MS) (i j : Int32) : (f_X12_text M i j).2 = M := by
  unfold f_X12_text b_X12_text_a9
  rw [tx_s]
  rfl
theorem ms_pending (M : MS) (i j : Int32) : (f_X12_pending M i j).2 = M := by
  have v : ∀ y, mH M (f_X11_voters M.2.1 y).2 = M := fun y => by
    unfold f_X11_voters
    rw [vt_s]
    rfl
  unfold f_X12_pending b_X12_pending_181 b_X12_pending_a190
  repeat' (first | refine ms_i ?_ ?_ | exact v _ | rfl)
theorem ms_ballot (M : MS) (i : Int32) : (f_X12_ballot M i).2 = M := by
  unfold f_X12_ballot b_X12_ballot_27 b_X12_ballot_a46 b_X12_ballot_61
  repeat' (first | refine ms_i ?_ ?_ | rfl)
theorem ms_desk (M : MS) (i j : Int32) : (f_X12_desk M i j).2 = M := by
  unfold f_X12_desk b_X12_desk_19 b_X12_desk_123 b_X12_desk_143 b_X12_desk_174 b_X12_desk_194 b_X12_desk_217 b_X12_desk_218
  repeat' (first | refine ms_i ?_ ?_ | rfl)
theorem ms_lying (M : MS) (i j : Int32) : (f_X12_lying M i j).2 = M := by
  unfold f_X12_lying b_X12_lying_22 b_X12_lying_75
  repeat' (first | refine ms_i ?_ ?_ | rfl)
theorem ms_result (M : MS) (i j : Int32) : (f_X12_result M i j).2 = M := by
  unfold f_X12_result b_X12_result_42 b_X12_result_43
  repeat' (first | refine ms_i ?_ ?_ | rfl)
theorem ms_count (M : MS) (i : Int32) : (f_X12_count M i).2 = M := by
  unfold f_X12_count b_X12_count_170
  repeat' (first | refine ms_i ?_ ?_ | rfl)
theorem ms_seat (M : MS) (i : Int32) : (f_X12_seat M i).2 = M := by
  unfold f_X12_seat b_X12_seat_38
  repeat' (first | refine ms_i ?_ ?_ | rfl)
theorem ms_journal (M : MS) (i j : Int32) : (f_X12_journal M i j).2 = M := by
  unfold f_X12_journal b_X12_journal_43 b_X12_journal_44
  repeat' (first | refine ms_i ?_ ?_ | rfl)
end
end
section
/-! ===== tell ===== -/
section
variable {x y a b l : Nat} {r2 r3 : Option Nat} {S S1 S2 S3 S4 Sk : Cst} {T T1 T2 T3 Tk : Nat → List Nat} {col c1 c2 c3 ck : Nat → Nat} {H H2 G R O : HS} {M M2 : MS} {v : Int32} {P z : Nat → Int32}
def tlO (O : HS) (x1 x2 x3 x4 x5 x6 : Int32) : HS := sI (sA (sA (sA (sA (sA (sA O 5 (6 * O.1 6).toNatClampNeg x1) 5 (6 * O.1 6 + 1).toNatClampNeg x2) 5 (6 * O.1 6 + 2).toNatClampNeg x3) 5 (6 * O.1 6 + 3).toNatClampNeg x4) 5 (6 * O.1 6 + 4).toNatClampNeg x5) 5 (6 * O.1 6 + 5).toNatClampNeg x6) 6 (O.1 6 + 1)
theorem mOx1 (M : MS) (s : HS) : (mO M s).1 = s := rfl
theorem mOx2 (M : MS) (s t : HS) : mO (mO M s) t = mO M t := rfl
theorem sAx1 (O : HS) (k i : Nat) (v : Int32) : (sA O k i v).1 = O.1 := rfl
theorem sIx6 (O : HS) (v : Int32) : (sI O 6 v).1 6 = v := rfl
theorem tell_r (M : MS) (x1 x2 x3 x4 x5 x6 : Int32) : f_X12_tell M x1 x2 x3 x4 x5 x6 = if M.1.1 6 = 600 then (-10, M) else (M.1.1 6 + 1, mO M (tlO M.1 x1 x2 x3 x4 x5 x6)) := by
  unfold f_X12_tell tlO
  simp only [mOx1, mOx2, sAx1, sIx6]
theorem tlO_r (O : HS) (x1 x2 x3 x4 x5 x6 : Int32) (i : Nat) : (tlO O x1 x2 x3 x4 x5 x6).2 5 i = if i = (6 * O.1 6 + 5).toNatClampNeg then x6 else if i = (6 * O.1 6 + 4).toNatClampNeg then x5 else if i = (6 * O.1 6 + 3).toNatClampNeg then x4 else if i = (6 * O.1 6 + 2).toNatClampNeg then x3 else if i = (6 * O.1 6 + 1).toNatClampNeg then x2 else if i = (6 * O.1 6).toNatClampNeg then x1 else O.2 5 i := rfl
theorem tell_v (h : KJ 82 a b r2 r3 l S T col) (t : TE S l O) (h6 : 0 ≤ (O.1 6).toInt ∧ (O.1 6).toInt < 600) (x1 x2 x3 x4 x5 x6 : Int32) : ∃ B c2, f_Y10_tell S 82 x1 x2 x3 x4 x5 x6 = (O.1 6 + 1, B) ∧ LSt noE T [] l S col B c2 ∧ nk S B ∧ TE B l (tlO O x1 x2 x3 x4 x5 x6) := by
  obtain ⟨t0, t1, t2, to, t3⟩ := t
  have kl := h.kl
  have w := h.ci.wf.w2 kl
  have kn := iNat h6.1
  obtain ⟨Sa, ca, f, g, e3, e3i, el, ec, nka⟩ := open_v h.ci kl (by rw [t1]; exact h6.2)
  have q : grC Sa 82 4 = some l := (KJ.refl h g).2.2.2.2
  have k0 : iK Sa l 2 := g.k kl
  have gg : giC Sa l 0 = 6 := g.2.2.2.2.2.1.1.trans t0
  have t5 : (6 : Int32).toInt = 6 := by decide
  have W0 : wI Sa l (O.1 6).toNatClampNeg 6 := ⟨by rw [e3i, t1]; omega, gg, by rw [t5]; rw [t1, t0, t5] at el; omega⟩
  obtain ⟨z, hz⟩ : ∃ z, z = (grC Sa l 2).getD 0 := ⟨_, rfl⟩
  obtain ⟨f0, g0, W1⟩ := wst g.1 k0 W0 (c := 0) (j := 0) x1 rfl (by rw [t5]; decide)
  rw [← hz] at f0 g0 W1
  obtain ⟨B0, hB0⟩ : ∃ B, B = siC Sa z (Int32.toNatClampNeg 6 * (O.1 6).toNatClampNeg + 0) x1 := ⟨_, rfl⟩
  rw [← hB0] at f0 g0 W1
  have k1 : iK B0 l 2 := g0.k k0
  have q0 : grC B0 82 4 = some l := by rw [hB0, gr_si]; exact q
  obtain ⟨f1, g1, W2⟩ := wst g0.1 k1 W1 (c := 1) (j := 1) x2 rfl (by rw [t5]; decide)
  have hz1 : (grC B0 l 2).getD 0 = z := by rw [hB0, gr_si]; exact hz.symm
  rw [hz1] at f1 g1 W2
  obtain ⟨B1, hB1⟩ : ∃ B, B = siC B0 z (Int32.toNatClampNeg 6 * (O.1 6).toNatClampNeg + 1) x2 := ⟨_, rfl⟩
  rw [← hB1] at f1 g1 W2
  have k2 : iK B1 l 2 := g1.k k1
  have q1 : grC B1 82 4 = some l := by rw [hB1, gr_si]; exact q0
  obtain ⟨f2, g2, W3⟩ := wst g1.1 k2 W2 (c := 2) (j := 2) x3 rfl (by rw [t5]; decide)
  have hz2 : (grC B1 l 2).getD 0 = z := by rw [hB1, gr_si]; exact hz1
  rw [hz2] at f2 g2 W3
  obtain ⟨B2, hB2⟩ : ∃ B, B = siC B1 z (Int32.toNatClampNeg 6 * (O.1 6).toNatClampNeg + 2) x3 := ⟨_, rfl⟩
  rw [← hB2] at f2 g2 W3
  have k3 : iK B2 l 2 := g2.k k2
  have q2 : grC B2 82 4 = some l := by rw [hB2, gr_si]; exact q1
  obtain ⟨f3, g3, W4⟩ := wst g2.1 k3 W3 (c := 3) (j := 3) x4 rfl (by rw [t5]; decide)
  have hz3 : (grC B2 l 2).getD 0 = z := by rw [hB2, gr_si]; exact hz2
  rw [hz3] at f3 g3 W4
  obtain ⟨B3, hB3⟩ : ∃ B, B = siC B2 z (Int32.toNatClampNeg 6 * (O.1 6).toNatClampNeg + 3) x4 := ⟨_, rfl⟩
  rw [← hB3] at f3 g3 W4
  have k4 : iK B3 l 2 := g3.k k3
  have q3 : grC B3 82 4 = some l := by rw [hB3, gr_si]; exact q2
  obtain ⟨f4, g4, W5⟩ := wst g3.1 k4 W4 (c := 4) (j := 4) x5 rfl (by rw [t5]; decide)
  have hz4 : (grC B3 l 2).getD 0 = z := by rw [hB3, gr_si]; exact hz3
  rw [hz4] at f4 g4 W5
  obtain ⟨B4, hB4⟩ : ∃ B, B = siC B3 z (Int32.toNatClampNeg 6 * (O.1 6).toNatClampNeg + 4) x5 := ⟨_, rfl⟩
  rw [← hB4] at f4 g4 W5
  have k5 : iK B4 l 2 := g4.k k4
  have q4 : grC B4 82 4 = some l := by rw [hB4, gr_si]; exact q3
  obtain ⟨f5, g5, W6⟩ := wst g4.1 k5 W5 (c := 5) (j := 5) x6 rfl (by rw [t5]; decide)
  have hz5 : (grC B4 l 2).getD 0 = z := by rw [hB4, gr_si]; exact hz4
  rw [hz5] at f5 g5 W6
  obtain ⟨B5, hB5⟩ : ∃ B, B = siC B4 z (Int32.toNatClampNeg 6 * (O.1 6).toNatClampNeg + 5) x6 := ⟨_, rfl⟩
  rw [← hB5] at f5 g5 W6
  have k6 : iK B5 l 2 := g5.k k5
  have q5 : grC B5 82 4 = some l := by rw [hB5, gr_si]; exact q4
  have G : LSt noE T [] l S col B5 ca := ((((((g.tr g0).tr g1).tr g2).tr g3).tr g4).tr g5)
  have hzL : (grC B5 l 2).getD 0 = z := by rw [hB5, gr_si]; exact hz5
  have n5 : Int32.toNatClampNeg 6 = 6 := by decide
  have cc : ∀ i, giC B5 z i = if i = 6 * (O.1 6).toNatClampNeg + 5 then x6 else if i = 6 * (O.1 6).toNatClampNeg + 4 then x5 else if i = 6 * (O.1 6).toNatClampNeg + 3 then x4 else if i = 6 * (O.1 6).toNatClampNeg + 2 then x3 else if i = 6 * (O.1 6).toNatClampNeg + 1 then x2 else if i = 6 * (O.1 6).toNatClampNeg + 0 then x1 else giC Sa z i := fun i => by
    rw [hB5]
    simp only [gi_si, true_and, n5]
    rw [hB4]
    simp only [gi_si, true_and, n5]
    rw [hB3]
    simp only [gi_si, true_and, n5]
    rw [hB2]
    simp only [gi_si, true_and, n5]
    rw [hB1]
    simp only [gi_si, true_and, n5]
    rw [hB0]
    simp only [gi_si, true_and, n5]
  have nkL : nk S B5 := fun q c n k => nka q c n (by
    rw [hB5] at k
    have k := ik_si.mp k
    rw [hB4] at k
    have k := ik_si.mp k
    rw [hB3] at k
    have k := ik_si.mp k
    rw [hB2] at k
    have k := ik_si.mp k
    rw [hB1] at k
    have k := ik_si.mp k
    rw [hB0] at k
    have k := ik_si.mp k
    exact k)
  have e1 := iAdd (x := O.1 6) (y := 1) (by rw [i1]; omega) (by rw [i1]; omega)
  rw [i1] at e1
  have eh : (tlO O x1 x2 x3 x4 x5 x6).1 6 = O.1 6 + 1 := rfl
  have m6 : (6 * O.1 6).toInt = 6 * (O.1 6).toInt := iMul (by rw [t5]) (by omega) (by omega)
  have ia : (6 * O.1 6).toNatClampNeg = 6 * (O.1 6).toNatClampNeg := by
    have := iNat (x := 6 * O.1 6) (by omega)
    omega
  have ij : ∀ (j : Int32) (k : Nat), j.toInt = k → k < 6 → (6 * O.1 6 + j).toNatClampNeg = 6 * (O.1 6).toNatClampNeg + k := fun j k hj hk => by
    have s := iAdd (x := 6 * O.1 6) (y := j) (by omega) (by omega)
    have := iNat (x := 6 * O.1 6 + j) (by omega)
    omega
  have e35 : giC B5 l 3 = O.1 6 + 1 := by
    refine iEq.mpr ?_
    rw [W6.1, e1]
    omega
  refine ⟨B5, ca, ?_, G, nkL, W6.2.1, e35, ?_, fun p k y => ?_, fun i j hi hj => ?_⟩
  · unfold f_Y10_tell
    rw [h.g4, Option.getD_some, isF, w.1.2.1, t1, if_pos (iLt.mpr (by rw [show (600 : Int32).toInt = 600 by decide]; exact h6.2)), if_pos rfl, f]
    unfold b_Y10_tell_20a b_Y10_tell_29a b_Y10_tell_38a b_Y10_tell_47a b_Y10_tell_57a b_Y10_tell_67a b_Y10_tell_77a
    simp only [q, Option.getD_some, f0]
    rw [q0]
    simp only [Option.getD_some, f1]
    rw [q1]
    simp only [Option.getD_some, f2]
    rw [q2]
    simp only [Option.getD_some, f3]
    rw [q3]
    simp only [Option.getD_some, f4]
    rw [q4]
    simp only [Option.getD_some, f5]
    rw [q5, Option.getD_some, e35]
  · have y := W6.2.2
    rw [t5] at y
    rw [eh, e1]
    omega
  · have kq := nkL p 6 (by decide) k
    rcases G.2.2.2.2.1 with v | v
    · exact to p kq (v.symm.trans y)
    · have := ((h.ci.wf.w6 kq).1.1).1
      omega
  · rw [eh, e1] at hi
    rw [hzL, cc, tlO_r, ij 5 5 (by decide) (by omega), ij 4 4 (by decide) (by omega), ij 3 3 (by decide) (by omega), ij 2 2 (by decide) (by omega), ij 1 1 (by decide) (by omega), ia]
    refine ite_congr rfl (fun _ => rfl) fun n5 => ite_congr rfl (fun _ => rfl) fun n4 => ite_congr rfl (fun _ => rfl) fun n3 => ite_congr rfl (fun _ => rfl) fun n2 => ite_congr rfl (fun _ => rfl) fun n1 => ite_congr rfl (fun _ => rfl) fun n0 => ?_
    rw [hz]
    exact (ec _ (by omega)).trans (t3 i j (by omega) hj)
theorem ac_tell (q : RQ S M) (mi : MI M) (x1 x2 x3 x4 x5 x6 : Int32) (e : f_Y10_tell S 82 x1 x2 x3 x4 x5 x6 = (v, S2)) : v = (f_X12_tell M x1 x2 x3 x4 x5 x6).1 ∧ RQ S2 (f_X12_tell M x1 x2 x3 x4 x5 x6).2 := by
  obtain ⟨a, b, r2, r3, l, T, col, h, c⟩ := id q
  obtain ⟨t0, t1, t2, to, t3⟩ := c.2.2.2
  have h6 := mi.2.2.1
  have t6 : (600 : Int32).toInt = 600 := by decide
  rw [tell_r]
  by_cases z : M.1.1 6 = 600
  · unfold f_Y10_tell at e
    rw [h.g4, Option.getD_some, isF, (h.ci.wf.w2 h.kl).1.2.1, t1, if_neg (show ¬ ((if M.1.1 6 < 600 then (0 : Int32) else 1) = 0) by rw [z]; decide)] at e
    obtain ⟨rfl, rfl⟩ := Prod.mk.inj e
    rw [if_pos z]
    exact ⟨rfl, q⟩
  · have z' := mt iEq.mpr z
    rw [t6] at z'
    rw [if_neg z]
    obtain ⟨v', S2', e', -, ki, -⟩ := k_tell ⟨a, b, r2, r3, l, T, col, h⟩ x1 x2 x3 x4 x5 x6
    obtain ⟨B, c2, f, g, hk, te⟩ := tell_v h c.2.2.2 ⟨h6.1, by omega⟩ x1 x2 x3 x4 x5 x6
    obtain ⟨-, rfl⟩ := Prod.mk.inj (e.symm.trans e')
    obtain ⟨rfl, rfl⟩ := Prod.mk.inj (e.symm.trans f)
    obtain ⟨p1, p2, p3⟩ := CT.row h c g hk to
    obtain ⟨g0, g1, g2, g3, g4⟩ := KJ.refl h g
    exact ⟨rfl, RQ.mk ki g0 g1 g2 g3 g4 g.1 ⟨p1, p2, ⟨⟨p3.1.1, p3.1.2⟩, ⟨p3.2.1, p3.2.2⟩⟩, te⟩⟩
end
end
section
/-! ===== one class's minutes become another's ===== -/
section
variable {wF : Prop × (Nat → Int32) × Int32 × (Nat → Int32)} {x y a b l : Nat} {r2 r3 : Option Nat} {S S1 S2 S3 S4 Sk : Cst} {T T1 T2 T3 Tk : Nat → List Nat} {col c1 c2 c3 ck : Nat → Nat} {H H2 G R O : HS} {M M2 : MS} {v : Int32} {P z : Nat → Int32}
theorem JX.bec (h : Sst noE x S T [] col S1 T1 [] c1) (ky : iK S1 y 0) (ny : y ≠ x) (hy : PI S1 T1 y) (sv : sV S1) (jx : jS S1 x) (hb : HB G) {n : Int32} {e : Nat} (j : JX S1 T1 y n e P z) : ∃ S2 T2 c2, f_Y0_become S1 x y = (0, S2) ∧ AS x S T col S2 T2 c2 ∧ JX S2 T2 x n e P z ∧ ∀ Q H, RR (False, z, n, Q) e S1 T1 y H → RR (True, z, n, Q) e S2 T2 x (sI H 10 0) := by
  have key : ∀ Q H, RR (False, z, n, Q) e S1 T1 y H → ∃ S2 T2 c2, f_Y0_become S1 x y = (0, S2) ∧ AS x S T col S2 T2 c2 ∧ RR (True, z, n, Q) e S2 T2 x (sI H 10 0) := fun Q H r => become_sim h ky ny hy sv jx (z := (z, n, Q)) (r.lo 0) rfl
  have rG := (j.2.2 G hb).2
  obtain ⟨S2, T2, c2, f, as, r0⟩ := key _ _ rG
  have all : ∀ Q H, RR (False, z, n, Q) e S1 T1 y H → RR (True, z, n, Q) e S2 T2 x (sI H 10 0) := fun Q H r => by
    obtain ⟨S3, T3, c3, f3, a3, r3⟩ := key Q H r
    obtain ⟨-, rfl⟩ := Prod.mk.inj (f.symm.trans f3)
    exact r3.tP (fun g hg => T_eq as.ci a3.ci (rP_k as.ci.wf as.k1 hg))
  obtain ⟨p1, ⟨b1, b2, b3⟩, b4⟩ := j
  have q := rG.2.2.2.1
  have q' := r0.2.2.2.1
  obtain ⟨FG, eG⟩ : ∃ F, F = fol P (f_X11_begin G n).2 e := ⟨_, rfl⟩
  rw [← eG] at q q'
  have e7 : (FG.1 7).toInt = e := by
    rw [← q.1.1]
    exact b1
  have s7 : (sI FG 10 0).1 7 = FG.1 7 := rfl
  have s4 : (sI FG 10 0).2 40 = FG.2 40 := rfl
  refine ⟨S2, T2, c2, f, as, ⟨p1, ⟨?_, fun i k hi hk => ?_, fun i hi => ?_⟩, fun H0 h0 => ⟨(b4 H0 h0).1, ?_⟩⟩, all⟩
  · rw [q'.1.1, s7]
    exact e7
  · have t1 := q.1.2.2 i k (by omega) hk
    have t2 := q'.1.2.2 i k (by rw [s7]; omega) hk
    rw [s4] at t2
    exact t2.trans (t1.symm.trans (b2 i k hi hk))
  · exact q'.2.2.2.2.2.2.2.2 i (by rw [s7]; omega)
  · have t := all _ _ (b4 H0 h0).2
    have r := t.lo ((fol P (f_X11_begin H0 n).2 e).1 10)
    rw [sI_bk] at r
    exact r
end
end
section
/-! ===== back ===== -/
section
variable {wF : Prop × (Nat → Int32) × Int32 × (Nat → Int32)} {x y a b l : Nat} {r2 r3 : Option Nat} {S S1 S2 S3 S4 Sk : Cst} {T T1 T2 T3 Tk : Nat → List Nat} {col c1 c2 c3 ck : Nat → Nat} {H H2 G R O : HS} {M M2 : MS} {v : Int32} {P z : Nat → Int32}
theorem mHx1 (M : MS) (G : HS) : (mH M G).1 = M.1 := rfl
theorem mHx2 (M : MS) (G : HS) : (mH M G).2.1 = G := rfl
theorem mHx3 (M : MS) (G H : HS) : mH (mH M G) H = mH M H := rfl
theorem bk_l (M : MS) (B : HS) (x1 : Int32) (hx : 0 ≤ x1.toInt ∧ x1.toInt ≤ 1) (he : 0 ≤ (M.1.2 3 x1.toNatClampNeg).toInt ∧ (M.1.2 3 x1.toNatClampNeg).toInt ≤ 600) : ∀ (f : Nat) (j : Int32) (G : HS), G = fol (fun i => M.1.2 4 (3600 * x1.toNatClampNeg + i)) B j.toNatClampNeg → 0 ≤ j.toInt → j.toInt ≤ (M.1.2 3 x1.toNatClampNeg).toInt → (M.1.2 3 x1.toNatClampNeg).toInt - j.toInt < f → lp_X12_back_40 f (mH M G) x1 j = (M.1.2 3 x1.toNatClampNeg, mH M (sI (fol (fun i => M.1.2 4 (3600 * x1.toNatClampNeg + i)) B (M.1.2 3 x1.toNatClampNeg).toNatClampNeg) 10 0)) := by
  intro f
  induction f with
  | zero => intro j G eG h1 h2 h3; omega
  | succ f ih =>
    intro j G eG h1 h2 h3
    have kj := iNat h1
    have ke := iNat he.1
    have kx := iNat hx.1
    have t36 : (3600 : Int32).toInt = 3600 := by decide
    have t6 : (6 : Int32).toInt = 6 := by decide
    have m1 : (3600 * x1).toInt = 3600 * x1.toInt := iMul (by rw [t36]) (by omega) (by omega)
    have m2 : (6 * j).toInt = 6 * j.toInt := iMul (by rw [t6]) (by omega) (by omega)
    have s0 := iAdd (x := 3600 * x1) (y := 6 * j) (by omega) (by omega)
    have ix : (3600 * x1 + 6 * j).toNatClampNeg = 3600 * x1.toNatClampNeg + 6 * j.toNatClampNeg := by
      have := iNat (x := 3600 * x1 + 6 * j) (by omega)
      omega
    have ij : ∀ (c : Int32) (k : Nat), c.toInt = k → k < 6 → (3600 * x1 + 6 * j + c).toNatClampNeg = 3600 * x1.toNatClampNeg + (6 * j.toNatClampNeg + k) := fun c k hc hk => by
      have s := iAdd (x := 3600 * x1 + 6 * j) (y := c) (by omega) (by omega)
      have := iNat (x := 3600 * x1 + 6 * j + c) (by omega)
      omega
    rw [lp_X12_back_40]
    unfold st_X12_back_40
    by_cases d : (mH M G).1.2 3 x1.toNatClampNeg ≤ j
    · rw [if_pos d]
      simp only [mHx1, mHx2, mHx3]
      have d : (M.1.2 3 x1.toNatClampNeg).toInt ≤ j.toInt := iLe.mp d
      have ej : j.toNatClampNeg = (M.1.2 3 x1.toNatClampNeg).toNatClampNeg := by omega
      rw [ej] at eG
      rw [← eG]
    · rw [if_neg d]
      simp only [mHx1, mHx2, mHx3]
      have d : ¬ (M.1.2 3 x1.toNatClampNeg).toInt ≤ j.toInt := mt iLe.mpr d
      have e1 := iAdd (x := j) (y := 1) (by rw [i1]; omega) (by rw [i1]; omega)
      rw [i1] at e1
      have en : (j + 1).toNatClampNeg = j.toNatClampNeg + 1 := by
        have := iNat (x := j + 1) (by omega)
        omega
      unfold b_X12_back_a106
      refine ih (j + 1) _ ?_ (by omega) (by omega) (by omega)
      rw [en, fol, ← eG, ix, ij 1 1 (by decide) (by omega), ij 2 2 (by decide) (by omega), ij 3 3 (by decide) (by omega), ij 4 4 (by decide) (by omega)]
theorem ac_back (q : RQ S M) (mi : MI M) (k : Int32) (e : f_Y10_back S 82 k = (v, S2)) : v = (f_X12_back M k).1 ∧ RQ S2 (f_X12_back M k).2 := by
  obtain ⟨a, b, r2, r3, l, T, col, h, c⟩ := id q
  have key : (0 ≤ k.toInt ∧ k.toInt ≤ 1) → ∀ r, (∀ d, r = some d → d ∈ kA a b r2 r3 ∧ d ≠ a) → IM S T r k.toNatClampNeg M.1 → b_Y10_back_27 S 82 k r = (v, S2) → v = (if M.1.2 3 k.toNatClampNeg = -1 then ((-11 : Int32), M) else b_X12_back_a38 (mH M (f_X11_begin M.2.1 (M.1.2 2 k.toNatClampNeg)).2) k).1 ∧ RQ S2 (if M.1.2 3 k.toNatClampNeg = -1 then ((-11 : Int32), M) else b_X12_back_a38 (mH M (f_X11_begin M.2.1 (M.1.2 2 k.toNatClampNeg)).2) k).2 := by
    intro hk r hr im e
    cases r with
    | none =>
      rw [if_pos (im.1 rfl)]
      obtain ⟨rfl, rfl⟩ := Prod.mk.inj e
      exact ⟨rfl, q⟩
    | some d =>
      obtain ⟨md, nd⟩ := hr d rfl
      obtain ⟨p1, p2, p3, z', p4⟩ := im.2 d rfl
      rw [if_neg p1]
      obtain ⟨⟨z, q1, q2⟩, q3, ⟨q4, q5⟩, q6⟩ := c
      have hd := h.2.2.2.2.1 d md
      have hb := mi.1.hb
      obtain ⟨S3, T3, c3, f, as, j3, all⟩ := JX.bec (h.as (KJ.ma h)).1 hd.1 nd hd.2.1 q1.sv q1.jS hb p4
      have rr := all _ _ (p4.2.2 M.2.1 hb).2
      have e6 := p4.1.2.1
      have ke := iNat p2
      unfold b_X12_back_a38
      rw [bk_l M (f_X11_begin M.2.1 (M.1.2 2 k.toNatClampNeg)).2 k hk ⟨p2, by omega⟩ 100000 0 _ (by rw [zn0]; rfl) (by rw [i0]; omega) (by rw [i0]; omega) (by rw [i0]; omega)]
      generalize fol (fun i => M.1.2 4 (3600 * k.toNatClampNeg + i)) (f_X11_begin M.2.1 (M.1.2 2 k.toNatClampNeg)).2 (M.1.2 3 k.toNatClampNeg).toNatClampNeg = F at rr ⊢
      have k2 := h.step (KJ.ma h) as.1 as.2
      have sv2 : sV S3 := rr.sv
      obtain ⟨o1, o2, o3⟩ := CT.oth (O := M.1) h (KJ.ma h) as.1 sv2
      have g0 : F.1 0 = M.1.2 2 k.toNatClampNeg := rr.2.2.2.2.1.2.2.1
      have q' := rr.2.2.2.1
      have s7 : (sI F 10 0).1 7 = F.1 7 := rfl
      have s4 : (sI F 10 0).2 40 = F.2 40 := rfl
      have e7 : (F.1 7).toInt = (M.1.2 3 k.toNatClampNeg).toNatClampNeg := by
        rw [← s7, ← q'.1.1]
        exact j3.2.1.1
      have n7 : (F.1 7).toNatClampNeg = (M.1.2 3 k.toNatClampNeg).toNatClampNeg := by
        have := iNat (x := F.1 7) (by omega)
        omega
      have cg : ∀ i, i < 6 * (M.1.2 3 k.toNatClampNeg).toNatClampNeg → F.2 40 i = M.1.2 4 (3600 * k.toNatClampNeg + i) := fun i hi => by
        have t1 := q'.1.2.2 (i / 6) (i % 6) (by rw [s7]; omega) (by omega)
        have t2 := j3.2.1.2.1 (i / 6) (i % 6) (by omega) (by omega)
        have ei : 6 * (i / 6) + i % 6 = i := by omega
        rw [s4, ei] at t1
        rw [ei] at t2
        exact t1.symm.trans t2
      have wa := k2.ci.wf.w0 (KJ.ka k2)
      unfold b_Y10_back_27 b_Y10_back_43a at e
      rw [if_neg (by simp), h.g0, Option.getD_some, Option.getD_some, f] at e
      simp only at e
      rw [k2.g0, Option.getD_some, wa.2.1.2.2.2.2.1, Option.getD_some, q'.1.1, s7] at e
      obtain ⟨ev, rfl⟩ := Prod.mk.inj e
      refine ⟨ev.symm.trans (iEq.mpr (show (F.1 7).toInt = (M.1.2 3 k.toNatClampNeg).toInt by omega)), a, b, r2, r3, l, T3, c3, k2, ⟨z', ?_, ?_⟩, (o3 b (KJ.mb h) (fun e => KJ.nab h e.symm)).1 q3, ⟨o1 r2 0 (Or.inl rfl) (fun c e => ?_) q4, o1 r3 1 (Or.inr rfl) (fun c e => ?_) q5⟩, o2 q6⟩
      · show RR (True, z', F.1 0, F.2 40) (F.1 7).toInt S3 T3 a (sI F 10 0)
        rw [g0, e7]
        exact rr
      · show JX S3 T3 a (F.1 0) (F.1 7).toNatClampNeg (F.2 40) z'
        rw [g0, n7]
        exact j3.cg cg
      · subst e
        exact (KJ.n2 h).1
      · subst e
        exact (KJ.n3 h).1
  unfold f_Y10_back b_Y10_back_9 at e
  rw [in_if2, h.2.2.1.2.2.1, h.2.2.1.2.2.2.1] at e
  unfold f_X12_back
  by_cases z : f_X12_in k 0 1 = 0
  · rw [if_pos z] at e
    rw [if_pos z]
    obtain ⟨rfl, rfl⟩ := Prod.mk.inj e
    exact ⟨rfl, q⟩
  · rw [if_neg z] at e
    rw [if_neg z]
    have hk : 0 ≤ k.toInt ∧ k.toInt ≤ 1 := by
      by_cases y : (0 : Int32).toInt ≤ k.toInt ∧ k.toInt ≤ (1 : Int32).toInt
      · rw [i0, i1] at y
        exact y
      · exact absurd (by rw [in_f, if_neg y]) z
    by_cases y : k = 0
    · rw [if_pos y] at e
      have k0 : k.toNatClampNeg = 0 := by rw [y]; exact zn0
      refine key hk r2 (fun d ed => ?_) (by rw [k0]; exact c.2.2.1.1) e
      subst ed
      exact ⟨KJ.m2 h, (KJ.n2 h).1⟩
    · rw [if_neg y] at e
      have y' := mt iEq.mpr y
      rw [i0] at y'
      have k1 : k.toNatClampNeg = 1 := by
        have := iNat hk.1
        omega
      refine key hk r3 (fun d ed => ?_) (by rw [k1]; exact c.2.2.1.2) e
      subst ed
      exact ⟨KJ.m3 h, (KJ.n3 h).1⟩
end
end
section
/-! ===== image: what it needs ===== -/
section
variable {wF : Prop × (Nat → Int32) × Int32 × (Nat → Int32)} {x y a b l : Nat} {r2 r3 ro : Option Nat} {ko : Nat} {A : List Nat} {S S1 S2 S3 S4 Sk : Cst} {T T1 T2 T3 Tk : Nat → List Nat} {col c1 c2 c3 ck : Nat → Nat} {H H2 G R O : HS} {M M2 : MS} {v : Int32} {P z : Nat → Int32}
/-- what stands beside an image made -/
def CG (S : Cst) (T : Nat → List Nat) (a b l : Nat) (M : MS) (ro : Option Nat) (ko : Nat) : Prop := (∃ z, RR (True, z, M.2.1.1 0, M.2.1.2 40) (M.2.1.1 7).toInt S T a M.2.1 ∧ JX S T a (M.2.1.1 0) (M.2.1.1 7).toNatClampNeg (M.2.1.2 40) z) ∧ jS S b ∧ IM S T ro ko M.1 ∧ TE S l M.1
theorem CG.og (h : KG 82 a b r2 r3 l A S T col) (ma : a ∈ A) (mb : b ∈ A) (mo : ∀ d, ro = some d → d ∈ A) (cg : CG S T a b l M ro ko) (en : eN S S2) (wf2 : wfS S2) (fr : ∀ d, (d = a ∨ d = b ∨ ro = some d) → ∀ q, q < S.1 → col q = d → S2.2.2 q = S.2.2 q) (ft : ∀ d, (d = a ∨ d = b ∨ ro = some d) → ∀ c, c < S.1 → col c = d → T2 c = T c) (fl : S2.2.2 l = S.2.2 l) (fz : S2.2.2 ((grC S l 2).getD 0) = S.2.2 ((grC S l 2).getD 0)) (sv2 : sV S2) : CG S2 T2 a b l M ro ko := by
  obtain ⟨⟨z, q1, q2⟩, q3, q4, q5⟩ := cg
  have fa := fr a (Or.inl rfl)
  have ga := ft a (Or.inl rfl)
  have ka := (h.2.2.2.2.1 a ma).1
  refine ⟨⟨z, q1.og h.ci ka en wf2 fa ga sv2, q2.og h.ci ka en wf2 fa ga sv2⟩, q3.og h.ci (h.2.2.2.2.1 b mb).1 en (fr b (Or.inr (Or.inl rfl))), ⟨q4.1, fun c e => ?_⟩, q5.og h.kl h.ci.wf en fl fz⟩
  obtain ⟨p1, p2, p3, z, p4⟩ := q4.2 c e
  have kc := (h.2.2.2.2.1 c (mo c e)).1
  exact ⟨p1, p2, p3.og h.ci kc en (fr c (Or.inr (Or.inr e))), z, p4.og h.ci kc en wf2 (fr c (Or.inr (Or.inr e))) (ft c (Or.inr (Or.inr e))) sv2⟩
theorem jS_mk (h : CI noE S T [] col) : jS (mkX0 S) S.1 := by
  have wf := wf_mk0 h.wf
  have w0 := wf.w0 m0_0
  have k7 := w0.1.2.2.2.2.1
  have k9 := w0.1.2.2.2.2.2.1
  have r7 : grC (mkX0 S) (S.1 + 7) 2 = some (S.1 + 8) := (nw_gr 7 2).trans rfl
  have r9 : grC (mkX0 S) (S.1 + 9) 2 = some (S.1 + 10) := (nw_gr 9 2).trans rfl
  refine ⟨⟨(nw_gi 7 0).trans rfl, (nw_gi 9 0).trans rfl⟩, fun q k y => ?_, fun q k y => ?_, ?_, ?_, ?_⟩
  · rw [r7, Option.getD_some] at y
    exact ik_ne k k7 (by decide) (by omega)
  · rw [r9, Option.getD_some] at y
    exact ik_ne k k9 (by decide) (by omega)
  · rw [r7, r9, Option.getD_some, Option.getD_some]
    omega
  · rw [r7, Option.getD_some]
    omega
  · rw [r9, Option.getD_some]
    omega
theorem sV_mk (h : CI noE S T [] col) (sv : sV S) : sV (mkX0 S) := fun q k => by
  by_cases a : q < S.1
  · have kS : iK S q 3 := ⟨a, by rw [← ((eN.pu S _ _).2 q a).1]; exact k.2⟩
    have W := W3k h.wf kS
    rw [vCn_cg (S2 := mkX0 S) (S1 := S) (fun k => pu_gi W.2.2.1 k), show giC (mkX0 S) q 14 = giC S q 14 from pu_gi a 14]
    exact sv q kS
  · obtain ⟨i, hi, rfl⟩ := nw_i (Nat.le_of_not_lt a) k
    have := m0_k hi k.2
    omega
theorem im_l (M : MS) (x1 : Int32) (hx : 0 ≤ x1.toInt ∧ x1.toInt ≤ 1) (he : 0 ≤ (M.2.1.1 7).toInt ∧ (M.2.1.1 7).toInt ≤ 600) : ∀ (f : Nat) (j : Int32) (O : HS), 0 ≤ j.toInt → j.toInt ≤ 6 * (M.2.1.1 7).toInt → 6 * (M.2.1.1 7).toInt - j.toInt < f → ∃ R, lp_X12_image_40 f (mO M O) x1 j = (M.2.1.1 7, mO M R) ∧ R.1 = O.1 ∧ (∀ q, q ≠ 4 → R.2 q = O.2 q) ∧ ∀ i, R.2 4 i = if 3600 * x1.toNatClampNeg + j.toNatClampNeg ≤ i ∧ i < 3600 * x1.toNatClampNeg + 6 * (M.2.1.1 7).toNatClampNeg then M.2.1.2 40 (i - 3600 * x1.toNatClampNeg) else O.2 4 i := by
  intro f
  induction f with
  | zero => intro j O h1 h2 h3; omega
  | succ f ih =>
    intro j O h1 h2 h3
    have kj := iNat h1
    have ke := iNat he.1
    have kx := iNat hx.1
    have t36 : (3600 : Int32).toInt = 3600 := by decide
    have t6 : (6 : Int32).toInt = 6 := by decide
    have m1 : (3600 * x1).toInt = 3600 * x1.toInt := iMul (by rw [t36]) (by omega) (by omega)
    have m2 : (6 * M.2.1.1 7).toInt = 6 * (M.2.1.1 7).toInt := iMul (by rw [t6]) (by omega) (by omega)
    have s0 := iAdd (x := 3600 * x1) (y := j) (by omega) (by omega)
    have ix : (3600 * x1 + j).toNatClampNeg = 3600 * x1.toNatClampNeg + j.toNatClampNeg := by
      have := iNat (x := 3600 * x1 + j) (by omega)
      omega
    rw [lp_X12_image_40]
    unfold st_X12_image_40
    by_cases d : 6 * (mO M O).2.1.1 7 ≤ j
    · rw [if_pos d]
      have d : (6 * M.2.1.1 7).toInt ≤ j.toInt := iLe.mp d
      refine ⟨O, rfl, rfl, fun _ _ => rfl, fun i => ?_⟩
      rw [if_neg (by omega)]
    · rw [if_neg d]
      have d : ¬ (6 * M.2.1.1 7).toInt ≤ j.toInt := mt iLe.mpr d
      have e1 := iAdd (x := j) (y := 1) (by rw [i1]; omega) (by rw [i1]; omega)
      rw [i1] at e1
      have en : (j + 1).toNatClampNeg = j.toNatClampNeg + 1 := by
        have := iNat (x := j + 1) (by omega)
        omega
      obtain ⟨R, f1, f2, f3, f4⟩ := ih (j + 1) (sA O 4 (3600 * x1 + j).toNatClampNeg (M.2.1.2 40 j.toNatClampNeg)) (by omega) (by omega) (by omega)
      refine ⟨R, f1, f2, fun q n => (f3 q n).trans (sA_k n), fun i => ?_⟩
      rw [f4, en]
      have c : (sA O 4 (3600 * x1 + j).toNatClampNeg (M.2.1.2 40 j.toNatClampNeg)).2 4 i = if i = (3600 * x1 + j).toNatClampNeg then M.2.1.2 40 j.toNatClampNeg else O.2 4 i := rfl
      rw [c, ix]
      by_cases y : i = 3600 * x1.toNatClampNeg + j.toNatClampNeg
      · rw [if_neg (by omega), if_pos y, if_pos (by omega), y, Nat.add_sub_cancel_left]
      · rw [if_neg y]
        by_cases w : 3600 * x1.toNatClampNeg + (j.toNatClampNeg + 1) ≤ i ∧ i < 3600 * x1.toNatClampNeg + 6 * (M.2.1.1 7).toNatClampNeg
        · rw [if_pos w, if_pos (by omega)]
        · rw [if_neg w, if_neg (by omega)]
end
end
