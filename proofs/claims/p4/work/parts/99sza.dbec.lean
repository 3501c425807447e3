/-! ===== an assembly becomes another one, in both ===== -/
section
variable {wF : Prop × (Nat → Int32) × Int32 × (Nat → Int32)} {E : Nat → Prop} {x y : Nat} {S S1 S2 S3 S4 Sk : Cst} {T T1 T2 T3 Tk : Nat → List Nat} {F F1 : List Nat} {col c1 c2 c3 ck : Nat → Nat} {H H2 G R : HS} {N N2 M M2 : Int}
/-- a ledger becomes another one -/
theorem ledb_v (h : CI E S T F col) {l m : Nat} (k : iK S l 2) (km : iK S m 2) (n : l ≠ m) (nz : (grC S l 2).getD 0 ≠ (grC S m 2).getD 0) (ec : giC S l 0 = giC S m 0) (fit : (giC S m 3).toInt * (giC S m 0).toInt ≤ lcl S m) : ∃ S2 c2, f_Y3_become S l m = (0, S2) ∧ LSt E T F l S col S2 c2 ∧ giC S2 l 3 = giC S m 3 ∧ (giC S m 3).toInt * (giC S m 0).toInt ≤ lcl S2 l ∧ (∀ i : Nat, (i : Int) < (giC S m 3).toInt * (giC S m 0).toInt → giC S2 ((grC S2 l 2).getD 0) i = giC S ((grC S m 2).getD 0) i) ∧ nk S S2 := by
  have w := h.wf.w2 k
  have wm := h.wf.w2 km
  have e6 : (600 : Int32).toInt = 600 := by decide
  have hr := wm.1.2.2
  unfold rg at hr
  have e1 : (if giC S l 1 < giC S m 3 then giC S l 1 else giC S m 3) = giC S m 3 := by
    rw [if_neg (fun z => by have := iLt.mp z; rw [w.1.2.1, e6] at this; omega)]
  obtain ⟨S1, c1, f1, -, f3, f4, f5⟩ := y_room h k wm.1.2.2
  have rk := room_k h k wm.1.2.2 f1
  have g := LSt.of k f3 f5
  have k1 := g.k k
  have w1 := g.1.wf.w2 k1
  have hv : rg (giC S m 3) 0 600 := wm.1.2.2
  have zm := wm.2.1.2
  have zml : (grC S m 2).getD 0 ≠ l := ik_ne zm k (by decide)
  have fm : S1.2.2 m = S.2.2 m := f3.2.2.2.1 m km.1 (fun e => n e.symm)
  have fz : S1.2.2 ((grC S m 2).getD 0) = S.2.2 ((grC S m 2).getD 0) := f3.2.2.2.1 _ zm.1 zml
  have em : grC S1 m 2 = grC S m 2 := by unfold grC; rw [fm]
  have lm : lnC S1 ((grC S m 2).getD 0) = lnC S ((grC S m 2).getD 0) := (g.2.1.2 _ zm.1).2
  have c0 : giC S1 l 0 = giC S l 0 := f3.2.2.2.2.1 0
  obtain ⟨d1, d2, d3, d4, hg⟩ := led_e (L := lnC S1 ((grC S1 l 2).getD 0)) w1.1.1 w1.1.2.1 hv w1.2.2.2
  have d5 : (Int32.ofNat (lnC S ((grC S m 2).getD 0))).toInt = lnC S ((grC S m 2).getD 0) := (led_e (L := lnC S ((grC S m 2).getD 0)) wm.1.1 wm.1.2.1 hv wm.2.2.2).2.2.1
  have ecc : (giC S1 l 0).toInt = (giC S m 0).toInt := by rw [c0, ec]
  have f4' : (giC S m 3).toInt * (giC S m 0).toInt ≤ lcl S1 l := by rw [← ec]; exact f4
  have n1 : ¬ Int32.ofNat (lnC S1 ((grC S1 l 2).getD 0)) < giC S m 3 * giC S1 l 0 := fun z => by
    have z := iLt.mp z
    rw [d1, d3, ecc] at z
    have : (lcl S1 l : Int) = lnC S1 ((grC S1 l 2).getD 0) := rfl
    omega
  have n2 : ¬ Int32.ofNat (lnC S1 ((grC S1 m 2).getD 0)) < giC S m 3 * giC S1 l 0 := fun z => by
    rw [em, lm] at z
    have z := iLt.mp z
    rw [d1, d5, ecc] at z
    have : (lcl S m : Int) = lnC S ((grC S m 2).getD 0) := rfl
    omega
  have hn : 0 ≤ (giC S m 3).toInt * (giC S1 l 0).toInt := by
    rcases hg with y | y | y <;> rw [y] <;> omega
  have en := iNat (x := giC S m 3 * giC S1 l 0) (by rw [d1]; exact hn)
  rw [d1, ecc] at en
  have g2 := LSt.zf (l := l) g.1 k1 (va_cpy (giC S1 ((grC S m 2).getD 0)) (giC S1 ((grC S1 l 2).getD 0)) 0 0 (giC S m 3 * giC S1 l 0).toNatClampNeg)
  have e2 : b_Y3_become_17a S1 l m (giC S m 3) = (0, siC (sfC S1 ((grC S1 l 2).getD 0) (va_cpy (giC S1 ((grC S m 2).getD 0)) (giC S1 ((grC S1 l 2).getD 0)) 0 0 (giC S m 3 * giC S1 l 0).toNatClampNeg)) l 3 (giC S m 3)) := by
    unfold b_Y3_become_17a b_Y3_become_64
    rw [if_neg n1, if_neg n2, em, zn0]
  have gr : ∀ q j, grC (siC (sfC S1 ((grC S1 l 2).getD 0) (va_cpy (giC S1 ((grC S m 2).getD 0)) (giC S1 ((grC S1 l 2).getD 0)) 0 0 (giC S m 3 * giC S1 l 0).toNatClampNeg)) l 3 (giC S m 3)) q j = grC S1 q j := fun q j => by rw [gr_si, gr_sf]
  have zl1 : (grC S1 l 2).getD 0 ≠ l := ik_ne w1.2.1.2 k1 (by decide)
  refine ⟨_, c1, ?_, g.tr (g2.tr (LSt.n g2.1 (g2.k k1) hv)), by rw [gi_si, if_pos ⟨rfl, rfl⟩], ?_, fun i hi => ?_, fun q c nc kq => rk q c nc (ik_sf.mp (ik_si.mp kq))⟩
  · unfold f_Y3_become
    rw [e1, f1]
    exact e2
  · unfold lcl
    rw [gr, ln_si, ln_sf]
    exact f4'
  · rw [gr, gi_si, if_neg (fun y => zl1 y.1), gi_sf, if_pos rfl, pk_cpy_in (Nat.zero_le i) (by omega), Nat.zero_add, Nat.sub_zero]
    unfold giC
    rw [fz]
/-- a house becomes another one -/
theorem hb_l (n : x ≠ y) : ∀ (f : Nat) (S2 : Cst) (b : Int32), grC S2 (x + 37) 1 = some (x + 38) → grC S2 (x + 37) 7 = some (x + 39) → grC S2 (y + 37) 1 = some (y + 38) → grC S2 (y + 37) 7 = some (y + 39) → lnC S2 (x + 38) = 200 → lnC S2 (x + 39) = 9 → x + 38 ≠ y + 37 → x + 39 ≠ y + 37 → x + 37 ≠ y + 38 → x + 39 ≠ y + 38 → x + 37 ≠ y + 39 → x + 38 ≠ y + 39 → 0 ≤ b.toInt → b.toInt ≤ 200 → 200 - b.toInt < f → ∃ S3, lp_Y2_become_10 (x + 37) (y + 37) f S2 b = (0, S3) ∧ (∀ k, k = 2 ∨ k = 3 ∨ k = 4 ∨ k = 5 ∨ k = 6 → giC S3 (x + 37) k = giC S2 (y + 37) k) ∧ giC S3 (x + 37) 0 = giC S2 (x + 37) 0 ∧ (∀ s, b.toNatClampNeg ≤ s → s < 200 → giC S3 (x + 38) s = vp_nar .boolean (giC S2 (y + 38) s)) ∧ (∀ s, s < b.toNatClampNeg → giC S3 (x + 38) s = giC S2 (x + 38) s) ∧ (∀ k, k < 9 → giC S3 (x + 39) k = giC S2 (y + 39) k) ∧ hC' x S2 S3 := by
  have e200 : (Int32.ofNat 200).toInt = 200 := by decide
  intro f
  induction f with
  | zero => intro S2 b a1 a2 a3 a4 a5 a6 q1 q2 q3 q4 q5 q6 h1 h2 h3; omega
  | succ f ih =>
    intro S2 b a1 a2 a3 a4 a5 a6 q1 q2 q3 q4 q5 q6 h1 h2 h3
    have k := iNat h1
    rw [lp_Y2_become_10]
    unfold st_Y2_become_10
    rw [a1, a3, Option.getD_some, Option.getD_some, a5]
    have ne : ¬ y + 37 = x + 37 := by omega
    by_cases c : Int32.ofNat 200 ≤ b
    · have := iLe.mp c
      rw [e200] at this
      rw [if_pos c]
      have n9 : (Int32.ofNat 9).toNatClampNeg = 9 := by decide
      have ne9 : ¬ y + 39 = x + 37 := fun z => q5 z.symm
      have ne8 : ¬ x + 39 = x + 37 := by omega
      obtain ⟨Z, hZ⟩ : ∃ Z, Z = siC (siC (siC (siC (siC S2 (x + 37) 2 (giC S2 (y + 37) 2)) (x + 37) 3 (giC S2 (y + 37) 3)) (x + 37) 4 (giC S2 (y + 37) 4)) (x + 37) 5 (giC S2 (y + 37) 5)) (x + 37) 6 (giC S2 (y + 37) 6) := ⟨_, rfl⟩
      have gZ : ∀ q i, q ≠ x + 37 → giC Z q i = giC S2 q i := fun q i hq => by
        rw [hZ]
        simp only [gi_si, hq, false_and, if_false]
      have gZ' : ∀ i, giC Z (x + 37) i = if i = 6 then giC S2 (y + 37) 6 else if i = 5 then giC S2 (y + 37) 5 else if i = 4 then giC S2 (y + 37) 4 else if i = 3 then giC S2 (y + 37) 3 else if i = 2 then giC S2 (y + 37) 2 else giC S2 (x + 37) i := fun i => by
        rw [hZ]
        simp only [gi_si, true_and]
      have rZ : ∀ q i, grC Z q i = grC S2 q i := fun q i => by rw [hZ]; simp only [gr_si]
      have lZ : ∀ q, lnC Z q = lnC S2 q := fun q => by rw [hZ]; simp only [ln_si]
      have e : b_Y2_become_69a (siC (siC (siC (siC S2 (x + 37) 2 (giC S2 (y + 37) 2)) (x + 37) 3 (giC (siC S2 (x + 37) 2 (giC S2 (y + 37) 2)) (y + 37) 3)) (x + 37) 4 (giC (siC (siC S2 (x + 37) 2 (giC S2 (y + 37) 2)) (x + 37) 3 (giC (siC S2 (x + 37) 2 (giC S2 (y + 37) 2)) (y + 37) 3)) (y + 37) 4)) (x + 37) 5 (giC (siC (siC (siC S2 (x + 37) 2 (giC S2 (y + 37) 2)) (x + 37) 3 (giC (siC S2 (x + 37) 2 (giC S2 (y + 37) 2)) (y + 37) 3)) (x + 37) 4 (giC (siC (siC S2 (x + 37) 2 (giC S2 (y + 37) 2)) (x + 37) 3 (giC (siC S2 (x + 37) 2 (giC S2 (y + 37) 2)) (y + 37) 3)) (y + 37) 4)) (y + 37) 5)) (x + 37) (y + 37) b = (0, sfC Z (x + 39) (va_cpy (giC Z (y + 39)) (giC Z (x + 39)) 0 0 9)) := by
        unfold b_Y2_become_69a b_Y2_become_95a
        simp only [gi_si, ne, false_and, if_false]
        rw [← hZ, rZ, rZ, a2, a4, Option.getD_some, Option.getD_some, lZ, a6, n9, zn0]
      refine ⟨_, e, fun i hi => ?_, ?_, fun s h5 h6 => by omega, fun s _ => ?_, fun i hi => ?_, fun q i r1 r2 r3 => ?_, fun q i => ?_, fun q => ?_, fun q c kq => ?_⟩
      · rw [gi_sf, if_neg (by omega), gZ']
        rcases hi with rfl | rfl | rfl | rfl | rfl <;> rfl
      · rw [gi_sf, if_neg (by omega), gZ']
        rfl
      · rw [gi_sf, if_neg (by omega), gZ _ _ (by omega)]
      · rw [gi_sf, if_pos rfl, pk_cpy_in (Nat.zero_le i) (by omega), Nat.zero_add, Nat.sub_zero, gZ _ _ ne9]
      · rw [gi_sf, if_neg r3, gZ _ _ r1]
      · rw [gr_sf, rZ]
      · rw [ln_sf, lZ]
      · have kq := ik_sf.mp kq
        rw [hZ] at kq
        exact ik_si.mp (ik_si.mp (ik_si.mp (ik_si.mp (ik_si.mp kq))))
    · rw [if_neg c]
      have c := mt iLe.mpr c
      rw [e200] at c
      have e := iAdd (x := b) (y := 1) (by rw [i1]; omega) (by rw [i1]; omega)
      rw [i1] at e
      have k2 := iNat (x := b + 1) (by omega)
      obtain ⟨S3, g, p1, p2, p3, p4, p5, p6⟩ := ih (siC S2 (x + 38) b.toNatClampNeg (vp_nar .boolean (giC S2 (y + 38) b.toNatClampNeg))) (b + 1) (by rw [gr_si]; exact a1) (by rw [gr_si]; exact a2) (by rw [gr_si]; exact a3) (by rw [gr_si]; exact a4) (by rw [ln_si]; exact a5) (by rw [ln_si]; exact a6) q1 q2 q3 q4 q5 q6 (by omega) (by omega) (by omega)
      have y8 : ¬ y + 38 = x + 38 := by omega
      refine ⟨S3, g, fun i hi => ?_, ?_, fun s h5 h6 => ?_, fun s h5 => ?_, fun i hi => ?_, fun q i r1 r2 r3 => ?_, fun q i => ?_, fun q => ?_, fun q c kq => ik_si.mp (p6.2.2.2 q c kq)⟩
      · rw [p1 i hi, gi_si, if_neg (fun z => q1 z.1.symm)]
      · rw [p2, gi_si, if_neg (fun z => by omega)]
      · by_cases w : s = b.toNatClampNeg
        · rw [p4 s (by omega), gi_si, if_pos ⟨rfl, w⟩, w]
        · rw [p3 s (by omega) h6, gi_si, if_neg (fun z => y8 z.1)]
      · rw [p4 s (by omega), gi_si, if_neg (fun z => by omega)]
      · rw [p5 i hi, gi_si, if_neg (fun z => q6 z.1.symm)]
      · rw [p6.1 q i r1 r2 r3, gi_si, if_neg (fun z => r2 z.1)]
      · rw [p6.2.1, gr_si]
      · rw [p6.2.2.1, ln_si]
theorem hbec_v (wf : wfS Sk) (kx : iK Sk x 0) (ky : iK Sk y 0) (n : x ≠ y) : ∃ S2, f_Y2_become Sk (x + 37) (y + 37) = (0, S2) ∧ hC' x Sk S2 ∧ hE Sk y S2 x := by
  have w1 := wf.w1 (wf.w0 kx).1.1
  have y1 := wf.w1 (wf.w0 ky).1.1
  have kx7 : iK Sk (x + 37) 1 := (wf.w0 kx).1.1
  have ky7 : iK Sk (y + 37) 1 := (wf.w0 ky).1.1
  have kx8 : iK Sk (x + 38) 21 := w1.1.1
  have ky8 : iK Sk (y + 38) 21 := y1.1.1
  have kx9 : iK Sk (x + 39) 20 := w1.1.2.2.1
  have ky9 : iK Sk (y + 39) 20 := y1.1.2.2.1
  obtain ⟨S3, g, p1, p2, p3, -, p5, p6⟩ := hb_l n 100000 (siC Sk (x + 37) 0 (giC Sk (y + 37) 0)) 0 (by rw [gr_si]; exact w1.2.1.1) (by rw [gr_si]; exact w1.2.1.2) (by rw [gr_si]; exact y1.2.1.1) (by rw [gr_si]; exact y1.2.1.2) (by rw [ln_si]; exact w1.1.2.1) (by rw [ln_si]; exact w1.1.2.2.2) (ik_ne kx8 ky7 (by decide)) (ik_ne kx9 ky7 (by decide)) (ik_ne kx7 ky8 (by decide)) (ik_ne kx9 ky8 (by decide)) (ik_ne kx7 ky9 (by decide)) (ik_ne kx8 ky9 (by decide)) (by rw [i0]; omega) (by rw [i0]; omega) (by rw [i0]; omega)
  rw [zn0] at p3
  have ne : ¬ y + 37 = x + 37 := by omega
  refine ⟨S3, g, ⟨fun q i r1 r2 r3 => ?_, fun q i => ?_, fun q => ?_, fun q c kq => ik_si.mp (p6.2.2.2 q c kq)⟩, fun i hi => ?_, fun s hs => ?_, fun i hi => ?_⟩
  · rw [p6.1 q i r1 r2 r3, gi_si, if_neg (fun z => r1 z.1)]
  · rw [p6.2.1, gr_si]
  · rw [p6.2.2.1, ln_si]
  · rcases hi with rfl | hi
    · rw [p2, gi_si, if_pos ⟨rfl, rfl⟩]
    · rw [p1 i hi, gi_si, if_neg (fun z => ne z.1)]
  · rw [p3 s (Nat.zero_le _) hs, gi_si, if_neg (fun z => ik_ne ky8 kx7 (by decide) z.1)]
  · rw [p5 i hi, gi_si, if_neg (fun z => ik_ne ky9 kx7 (by decide) z.1)]
end
