/-! ===== words in place of a span: both sides ===== -/
section
variable {wF : Prop × (Nat → Int32) × Int32 × (Nat → Int32)} {x : Nat} {S S1 S2 S3 S4 : Cst} {T T1 T2 T3 : Nat → List Nat} {F F1 : List Nat} {col c1 c2 c3 : Nat → Nat} {H H2 G R : HS} {N M : Int}
/-- a motion whose span alone moved -/
theorem mR.fo {q m : Nat} (h : mR S1 q H m) (h0 : H2.1 0 = H.1 0) (cc : ∀ k, k89 k → giC S2 q k = giC S1 q k) (cj : ∀ j, 0 < j → j < 4 → ∀ k, giC S2 (q + j) k = giC S1 (q + j) k) (f : ∀ k, 14 ≤ k → k ≤ 26 → k ≠ 20 → k ≠ 21 → k ≠ 26 → H2.2 k m = H.2 k m) (fx : ∀ i : Nat, i < 400 → H2.2 28 (400 * m + i) = H.2 28 (400 * m + i)) (fb : ∀ s, s < 200 → H2.2 29 (200 * m + s) = H.2 29 (200 * m + s)) (w4 : (H.2 19 m).toInt ≤ 400) (e11 : giC S2 q 11 = H2.2 26 m) (e89 : H2.2 26 m = 0 → giC S2 q 8 = H2.2 20 m ∧ giC S2 q 9 = H2.2 21 m) (ez : H.2 14 m ≠ 2 → H.2 14 m ≠ 3 → H2.2 20 m = 0 ∧ H2.2 21 m = 0 ∧ H2.2 26 m = 0) : mR S2 q H2 m := by
  obtain ⟨⟨a1, a2, a3, a4, a5⟩, ⟨b1, b2⟩, c, ⟨d1, d2⟩, e, ⟨f1, f2⟩, g⟩ := h
  have kk : ∀ k, k < 8 ∨ k = 14 → giC S2 q k = giC S1 q k := fun k h => cc k ⟨by omega, by omega, by omega⟩
  have ff : ∀ k, 14 ≤ k → k ≤ 19 ∨ k = 24 → H2.2 k m = H.2 k m := fun k h1 h2 => f k h1 (by omega) (by omega) (by omega) (by omega)
  refine ⟨⟨?_, ?_, ?_, ?_, ?_⟩, ⟨?_, e11⟩, e89, ⟨?_, fun i hi => ?_⟩, fun s hs => ?_, ⟨fun s h1 h2 => ?_, ?_⟩, fun z1 z2 => ?_⟩
  · rw [kk 2 (by omega), ff 14 (by omega) (by omega)]
    exact a1
  · rw [kk 3 (by omega), ff 15 (by omega) (by omega)]
    exact a2
  · rw [kk 4 (by omega), ff 16 (by omega) (by omega)]
    exact a3
  · rw [kk 5 (by omega), ff 17 (by omega) (by omega)]
    exact a4
  · rw [kk 6 (by omega), ff 18 (by omega) (by omega)]
    exact a5
  · rw [kk 7 (by omega), ff 24 (by omega) (by omega)]
    exact b1
  · rw [cj 1 (by omega) (by omega), ff 19 (by omega) (by omega)]
    exact d1
  · rw [ff 19 (by omega) (by omega)] at hi
    rw [cj 2 (by omega) (by omega), fx i (by omega)]
    exact d2 i hi
  · rw [cj 3 (by omega) (by omega), fb s hs]
    exact e s hs
  · rw [h0] at h2
    rw [cj 3 (by omega) (by omega)]
    exact f1 s h1 h2
  · rw [kk 14 (by omega), vCn_cg (S1 := S1) (cj 3 (by omega) (by omega))]
    exact f2
  · rw [ff 14 (by omega) (by omega)] at z1 z2
    exact ez z1 z2
/-- a motion whose text alone is another one -/
theorem mR.te {q m : Nat} (h : mR S1 q H m) (h0 : H2.1 0 = H.1 0) (cc : ∀ k, giC S2 q k = giC S1 q k) (c3 : ∀ k, giC S2 (q + 3) k = giC S1 (q + 3) k) (f : ∀ k, 14 ≤ k → k ≤ 26 → k ≠ 19 → H2.2 k m = H.2 k m) (fb : ∀ s, s < 200 → H2.2 29 (200 * m + s) = H.2 29 (200 * m + s)) (e1 : giC S2 (q + 1) 1 = H2.2 19 m) (ex : ∀ i : Nat, (i : Int) < (H2.2 19 m).toInt → giC S2 (q + 2) i = H2.2 28 (400 * m + i)) : mR S2 q H2 m := by
  obtain ⟨⟨a1, a2, a3, a4, a5⟩, ⟨b1, b2⟩, c, ⟨d1, d2⟩, e, ⟨f1, f2⟩, g⟩ := h
  have ff : ∀ k, 14 ≤ k → k ≤ 26 → k ≠ 19 → H2.2 k m = H.2 k m := f
  have m26 := ff 26 (by omega) (by omega) (by omega)
  have m20 := ff 20 (by omega) (by omega) (by omega)
  have m21 := ff 21 (by omega) (by omega) (by omega)
  refine ⟨⟨?_, ?_, ?_, ?_, ?_⟩, ⟨?_, ?_⟩, fun z => ?_, ⟨e1, ex⟩, fun s hs => ?_, ⟨fun s h1 h2 => ?_, ?_⟩, fun z1 z2 => ?_⟩
  · rw [cc, ff 14 (by omega) (by omega) (by omega)]
    exact a1
  · rw [cc, ff 15 (by omega) (by omega) (by omega)]
    exact a2
  · rw [cc, ff 16 (by omega) (by omega) (by omega)]
    exact a3
  · rw [cc, ff 17 (by omega) (by omega) (by omega)]
    exact a4
  · rw [cc, ff 18 (by omega) (by omega) (by omega)]
    exact a5
  · rw [cc, ff 24 (by omega) (by omega) (by omega)]
    exact b1
  · rw [cc, m26]
    exact b2
  · rw [m26] at z
    rw [cc, cc, m20, m21]
    exact c z
  · rw [c3, fb s hs]
    exact e s hs
  · rw [h0] at h2
    rw [c3]
    exact f1 s h1 h2
  · rw [cc, vCn_cg (S1 := S1) c3]
    exact f2
  · rw [ff 14 (by omega) (by omega) (by omega)] at z1 z2
    rw [m20, m21, m26]
    exact g z1 z2
/-- what the change of a reference's state is, as the class's side needs it -/
def chV (H R : HS) (t0 t1 : Int32) (t m : Nat) (x6 : Int32) (u : Nat → Int32) : Prop :=
  (∀ k, k ≠ 19 → k ≠ 20 → k ≠ 21 → k ≠ 26 → k ≠ 28 → R.2 k = H.2 k) ∧ R.2 19 = upd (H.2 19) t (H.2 19 t + x6) ∧ R.2 28 = u ∧
  (∀ y : Int32, 0 ≤ y.toInt → y.toInt < 90 → cR (sA H 19 t (H.2 19 t + x6)) R t0 t1 (H.2 20 m) (H.2 21 m) x6 y)
theorem amendR (a : AS x S T col S1 T1 c1) (r : RR wF N S1 T1 x H) (h : HI M H) (e1 : ∀ j, j ≠ 5 → G.1 j = H.1 j) (e2 : G.2 = H.2) (hp : 2 ≤ (H.1 6).toInt) (hk : H.2 14 (f_X11_top H).1.toNatClampNeg = 2 ∨ H.2 14 (f_X11_top H).1.toNatClampNeg = 3) {q mq : Nat} (eq : (T1 (rP x 0)).getD ((H.1 6).toNatClampNeg - 1) 0 = q) (emq : (T1 (rP x 0)).getD ((H.1 6).toNatClampNeg - 2) 0 = mq) : ∃ S3, f_Y7_amend S1 x (some mq) (some q) = (0, S3) ∧ AS x S T col S3 T1 c1 ∧ ∀ H2 : HS, H2.1 = H.1 → H2.2 = (f_X11_change G (H.2 31 (H.1 6 - 2).toNatClampNeg) (f_X11_top H).1).2.2 → RR wF N S3 T1 x H2 := by
  have hr := h.ra
  have b6 := hr.2.1
  have n6 := iNat (x := H.1 6) (by omega)
  have i2 : (2 : Int32).toInt = 2 := by decide
  have s2 := iSub (x := H.1 6) (y := 2) (by rw [i2]; omega) (by rw [i2]; omega)
  rw [i2] at s2
  have k2 := iNat (x := H.1 6 - 2) (by omega)
  obtain ⟨k, hkk⟩ : ∃ k : Nat, (H.1 6).toInt = k + 2 := ⟨(H.1 6).toNatClampNeg - 2, by omega⟩
  have ek : (H.1 6 - 2).toNatClampNeg = k := by omega
  have ek2 : (H.1 6).toNatClampNeg - 2 = k := by omega
  have ek1 : (H.1 6).toNatClampNeg - 1 = k + 1 := by omega
  rw [ek2] at emq
  rw [ek1] at eq
  have em : (f_X11_top H).1.toNatClampNeg = hM H 0 (k + 1) := by
    rw [top_m (by omega), ek1]
  have lm : hL H 0 (k + 1) := ⟨by omega, by show ((k + 1 : Nat) : Int) < (H.1 6).toInt; omega⟩
  have lt : hL H 0 k := ⟨by omega, by show (k : Int) < (H.1 6).toInt; omega⟩
  have vt := h.1.2.1 0 k lt
  have vm := h.1.2.1 0 (k + 1) lm
  have wm := h.1.2.2.2.2.1 0 (k + 1) lm
  have wt := h.1.2.2.2.2.1 0 k lt
  have ch := h.1.2.2.2.2.2.2.2.1 0 k lm
  rw [em] at hk
  have cc := ch.2.1 hk
  have tm : hM H 0 k ≠ hM H 0 (k + 1) := fun y => by have := (h.1.d lt lm y).2; omega
  -- the motions
  have mqm : mq ∈ T1 (rP x 0) := by rw [← emq]; exact gD_mem (r.2.1.mem lt)
  have qm : q ∈ T1 (rP x 0) := by rw [← eq]; exact gD_mem (r.2.1.mem lm)
  have kmq := a.m3 mqm
  have kq := a.m3 qm
  have cmq : c1 mq = x := by rw [(a.ci.tk _ mq mqm).2]; exact a.1.oc (rP_own (by omega)).1
  have nq : mq ≠ q := fun y => by
    have := (q_uniq a.ci (r.2.1.mem lt) (r.2.1.mem lm) (emq.trans (y.trans eq.symm))).2
    omega
  have mtt : mR S1 mq H (hM H 0 k) := by rw [← emq]; exact (r.2.1 0 (by omega)).2 k (r.2.1.mem lt)
  have mm : mR S1 q H (hM H 0 (k + 1)) := by rw [← eq]; exact (r.2.1 0 (by omega)).2 (k + 1) (r.2.1.mem lm)
  have o26 := (r.2.2.2.2.2.2.1 0 (k + 1) lm trivial).2.2
  have mf := mm.2.2.1 o26
  have mw := mm.2.2.2.1.1
  have tw := mtt.2.2.2.1.1
  obtain ⟨S2, S3, f, U, ⟨d1, d2, d3, d4, d5⟩, d6, d7, d8, d9, d10⟩ := amd_v a.1 kmq cmq kq nq (by rw [mf.1, mf.2, tw]; exact ⟨wm.2.2.1, wm.2.2.2.1, cc.2.1⟩) (by rw [tw]; exact wt.2.1.2) (by rw [mw]; exact wm.2.1) (by rw [mf.1, mf.2, tw, mw]; exact cc.2.2)
  rw [mf.1, mf.2, mw] at d10
  rw [mf.1, mf.2, mw, tw] at d1
  rw [mf.1] at d3
  rw [mf.1, mw] at d4
  rw [mf.1, mf.2, mw, tw] at d5
  -- the reference
  have hrG : RA G := by
    unfold RA
    rw [e1 0 (by decide), e1 6 (by decide), e1 35 (by decide), e2]
    exact hr
  have ka := iNat (x := H.2 20 (hM H 0 (k + 1))) wm.2.2.1
  have kt := iNat (x := H.2 31 k) vt.1
  have km' := iNat (x := (f_X11_top H).1) (by have := top_in hr (by omega); omega)
  have et : (H.2 31 k).toNatClampNeg = hM H 0 k := rfl
  obtain ⟨S', x6, e6, e6i, o, V, t1, t2, t3, t4⟩ := change_v (S := G) hrG (x1 := H.2 31 k) (x2 := (f_X11_top H).1) (t := hM H 0 k) (m := hM H 0 (k + 1)) (a := (H.2 20 (hM H 0 (k + 1))).toNatClampNeg) ⟨by rw [← et]; omega, h.1.lt lt⟩ ⟨by rw [← em]; omega, h.1.lt lm⟩ tm (by rw [e2]; exact ka.symm) (by rw [e2, ka]; exact ⟨wm.2.2.2.1, cc.2.1⟩) (by rw [e2]; exact wt.2.1.2) (by rw [e2]; exact wm.2.1) (by rw [e2, ka]; exact cc.2.2)
  rw [e2] at e6 e6i t1 t2 t3 t4 V
  rw [ka] at e6i
  have o2 : ∀ j, j ≠ 28 → S'.2 j = H.2 j := fun j y => by rw [o.2 j y, e2]
  refine ⟨S3, f, ⟨U.1, a.2.kp a.ci a.k1 U.2.1 (fun _ _ _ => rfl)⟩, fun H2 p1 p2 => ?_⟩
  rw [ek] at p2
  generalize (f_X11_change G (H.2 31 k) (f_X11_top H).1).2 = R at V p2
  obtain ⟨v1, v2, v3, v4⟩ := V
  rw [i0] at v4
  have q2 : ∀ j, j ≠ 19 → j ≠ 20 → j ≠ 21 → j ≠ 26 → j ≠ 28 → H2.2 j = H.2 j := fun j a b c d e => by
    rw [p2, v2 j b c d, sA_k a, o2 j e]
  have q19 : ∀ j, H2.2 19 j = upd (H.2 19) (hM H 0 k) (H.2 19 (hM H 0 k) + x6) j := fun j => by
    rw [p2, v2 19 (by decide) (by decide) (by decide)]
    show upd (S'.2 19) _ _ j = _
    rw [o2 19 (by decide)]
  have q28 : ∀ j, H2.2 28 j = S'.2 28 j := fun j => by
    rw [p2, v2 28 (by decide) (by decide) (by decide), sA_k (by decide)]
  have eB : ∀ j, j ≠ 19 → j ≠ 28 → (sA S' 19 (hM H 0 k) (H.2 19 (hM H 0 k) + x6)).2 j = H.2 j := fun j a b => by rw [sA_k a, o2 j b]
  have eB6 : (sA S' 19 (hM H 0 k) (H.2 19 (hM H 0 k) + x6)).1 6 = H.1 6 := by
    show S'.1 6 = H.1 6
    rw [o.1]
    exact e1 6 (by decide)
  generalize sA S' 19 (hM H 0 k) (H.2 19 (hM H 0 k) + x6) = B at v1 v2 v3 v4 eB eB6
  have fB : ∀ y, fC B (H.2 31 k) (f_X11_top H).1 (H.2 20 (hM H 0 (k + 1))) y → H.2 13 y.toNatClampNeg ≠ 0 ∧ y ≠ (f_X11_top H).1 ∧ H.2 25 y.toNatClampNeg ≠ 0 ∧ H.2 26 y.toNatClampNeg = 0 ∧ H.2 23 y.toNatClampNeg = H.2 22 (hM H 0 k) ∧ (∀ i : Nat, (i : Int) < (H.1 6).toInt → H.2 31 i ≠ y) ∧ H.2 20 (hM H 0 (k + 1)) < H.2 21 y.toNatClampNeg := fun y w => by
    unfold fC at w
    rw [eB 13 (by decide) (by decide), eB 25 (by decide) (by decide), eB 26 (by decide) (by decide), eB 23 (by decide) (by decide), eB 22 (by decide) (by decide), eB 31 (by decide) (by decide), eB 21 (by decide) (by decide), eB6] at w
    exact w
  have fB' : ∀ y, H.2 13 y.toNatClampNeg ≠ 0 ∧ y ≠ (f_X11_top H).1 ∧ H.2 25 y.toNatClampNeg ≠ 0 ∧ H.2 26 y.toNatClampNeg = 0 ∧ H.2 23 y.toNatClampNeg = H.2 22 (hM H 0 k) ∧ (∀ i : Nat, (i : Int) < (H.1 6).toInt → H.2 31 i ≠ y) ∧ H.2 20 (hM H 0 (k + 1)) < H.2 21 y.toNatClampNeg → fC B (H.2 31 k) (f_X11_top H).1 (H.2 20 (hM H 0 (k + 1))) y := fun y w => by
    unfold fC
    rw [eB 13 (by decide) (by decide), eB 25 (by decide) (by decide), eB 26 (by decide) (by decide), eB 23 (by decide) (by decide), eB 22 (by decide) (by decide), eB 31 (by decide) (by decide), eB 21 (by decide) (by decide), eB6]
    exact w
  have c0 : ∀ y : Int32, 0 ≤ y.toInt → y.toInt < 90 → (fC B (H.2 31 k) (f_X11_top H).1 (H.2 20 (hM H 0 (k + 1))) y → H.2 20 y.toNatClampNeg < H.2 21 (hM H 0 (k + 1)) → H2.2 20 y.toNatClampNeg = H.2 20 y.toNatClampNeg ∧ H2.2 21 y.toNatClampNeg = H.2 21 y.toNatClampNeg ∧ H2.2 26 y.toNatClampNeg = 1) ∧ (fC B (H.2 31 k) (f_X11_top H).1 (H.2 20 (hM H 0 (k + 1))) y → ¬ H.2 20 y.toNatClampNeg < H.2 21 (hM H 0 (k + 1)) → H2.2 20 y.toNatClampNeg = H.2 20 y.toNatClampNeg + x6 ∧ H2.2 21 y.toNatClampNeg = H.2 21 y.toNatClampNeg + x6 ∧ H2.2 26 y.toNatClampNeg = H.2 26 y.toNatClampNeg) ∧ (¬ fC B (H.2 31 k) (f_X11_top H).1 (H.2 20 (hM H 0 (k + 1))) y → H2.2 20 y.toNatClampNeg = H.2 20 y.toNatClampNeg ∧ H2.2 21 y.toNatClampNeg = H.2 21 y.toNatClampNeg ∧ H2.2 26 y.toNatClampNeg = H.2 26 y.toNatClampNeg) := fun y h1 h2 => by
    have w := v4 y h1 h2
    unfold cR at w
    rw [eB 20 (by decide) (by decide), eB 21 (by decide) (by decide), eB 26 (by decide) (by decide)] at w
    rw [p2]
    exact w
  have eN : ∀ g, hN H2 g = hN H g := fun g => by
    match g with
    | 0 => show (H2.1 6).toInt = _; rw [p1]; rfl
    | 1 => show (H2.1 35).toInt = _; rw [p1]; rfl
    | p + 2 => show (H2.2 34 p).toInt = _; rw [q2 34 (by decide) (by decide) (by decide) (by decide) (by decide)]; rfl
  have eM : ∀ g i, hM H2 g i = hM H g i := fun g i => by
    unfold hM
    match g with
    | 0 => show (H2.2 31 i).toNatClampNeg = _; rw [q2 31 (by decide) (by decide) (by decide) (by decide) (by decide)]; rfl
    | 1 => show (H2.2 32 i).toNatClampNeg = _; rw [q2 32 (by decide) (by decide) (by decide) (by decide) (by decide)]; rfl
    | p + 2 => show (H2.2 33 (9 * p + i)).toNatClampNeg = _; rw [q2 33 (by decide) (by decide) (by decide) (by decide) (by decide)]; rfl
  have eT : ∀ g, hT H2 g ↔ hT H g := fun g => by
    match g with
    | 0 => exact Iff.rfl
    | 1 => show H2.1 36 ≠ 0 ↔ H.1 36 ≠ 0; rw [p1]
    | p + 2 => show H2.2 37 p ≠ 0 ↔ H.2 37 p ≠ 0; rw [q2 37 (by decide) (by decide) (by decide) (by decide) (by decide)]
  have eL : ∀ g i, hL H2 g i ↔ hL H g i := fun g i => by
    unfold hL
    rw [eN]
  have inR : ∀ g i, hL H g i → 0 ≤ (hC H g i).toInt ∧ (hC H g i).toInt < 90 := fun g i l => ⟨(h.1.2.1 g i l).1, (h.1.2.1 g i l).2.1⟩
  have a0 : ¬ (H.2 20 (hM H 0 (k + 1)) < 0) := fun y => by
    have := iLt.mp y
    rw [i0] at this
    have := wm.2.2.1
    omega
  -- who isn't 2 or 3 doesn't follow; who is named neither
  have nk23 : ∀ g i, hL H g i → H.2 14 (hM H g i) ≠ 2 → H.2 14 (hM H g i) ≠ 3 → ¬ fC B (H.2 31 k) (f_X11_top H).1 (H.2 20 (hM H 0 (k + 1))) (hC H g i) := fun g i l z1 z2 w => by
    have m0 := ((r.2.1 g l.1).2 i (r.2.1.mem l)).2.2.2.2.2.2 z1 z2
    have w7 := (fB _ w).2.2.2.2.2.2
    have w7 : H.2 20 (hM H 0 (k + 1)) < H.2 21 (hM H g i) := w7
    rw [m0.2.1] at w7
    exact a0 w7
  have nf : ∀ g i, hL H g i → hT H g → ¬ fC B (H.2 31 k) (f_X11_top H).1 (H.2 20 (hM H 0 (k + 1))) (hC H g i) := fun g i l tt w => by
    have W := fB _ w
    by_cases g0 : g = 0
    · subst g0
      exact W.2.2.2.2.2.1 i (by have := l.2; exact this) rfl
    · match i, l with
      | 0, l =>
        have k1 := h.1.2.2.2.1 g l tt
        exact nk23 g 0 l (by rw [k1]; decide) (by rw [k1]; decide) w
      | i + 1, l =>
        by_cases k23 : H.2 14 (hM H g (i + 1)) = 2 ∨ H.2 14 (hM H g (i + 1)) = 3
        · have u := ((h.1.2.2.2.2.2.2.2.1 g i l).2.1 k23).1
          have W5 : H.2 23 (hM H g (i + 1)) = H.2 22 (hM H 0 k) := W.2.2.2.2.1
          have := (h.1.2.2.2.2.2.2.1 g i 0 k ⟨l.1, by have := l.2; omega⟩ lt (u.symm.trans W5)).1
          exact g0 this
        · exact nk23 g (i + 1) l (fun z => k23 (Or.inl z)) (fun z => k23 (Or.inr z)) w
  have un : ∀ g i, hL H g i → ¬ fC B (H.2 31 k) (f_X11_top H).1 (H.2 20 (hM H 0 (k + 1))) (hC H g i) → H2.2 20 (hM H g i) = H.2 20 (hM H g i) ∧ H2.2 21 (hM H g i) = H.2 21 (hM H g i) ∧ H2.2 26 (hM H g i) = H.2 26 (hM H g i) := fun g i l w => (c0 (hC H g i) (inR g i l).1 (inR g i l).2).2.2 w
  have unf : ∀ g i, hL H g i → ¬ fC B (H.2 31 k) (f_X11_top H).1 (H.2 20 (hM H 0 (k + 1))) (hC H g i) → ∀ j, 14 ≤ j → j ≤ 27 → j ≠ 19 → H2.2 j (hM H g i) = H.2 j (hM H g i) := fun g i l w j h1 h2 h3 => by
    have y := un g i l w
    by_cases z20 : j = 20
    · rw [z20]; exact y.1
    by_cases z21 : j = 21
    · rw [z21]; exact y.2.1
    by_cases z26 : j = 26
    · rw [z26]; exact y.2.2
    rw [q2 j h3 z20 z21 z26 (by omega)]
  have w19 : ∀ g i, hL H g i → ¬ (g = 0 ∧ i = k) → H2.2 19 (hM H g i) = H.2 19 (hM H g i) ∧ ∀ n, n < 400 → H2.2 28 (400 * hM H g i + n) = H.2 28 (400 * hM H g i + n) := fun g i l n => by
    have ne : hM H g i ≠ hM H 0 k := fun y => n (h.1.d l lt y)
    refine ⟨by rw [q19, upd_ne ne], fun n' hn => ?_⟩
    rw [q28]
    exact t4 _ (by omega)
  have q29 : ∀ j, H2.2 29 j = H.2 29 j := fun j => by rw [q2 29 (by decide) (by decide) (by decide) (by decide) (by decide)]
  -- the class's cells
  have lmk : ∀ g z, lM S1 T1 x g z → iK S1 z 3 := fun g z l => (a.ci.tk _ z l.mem).1
  have W := W3k a.ci.wf kmq
  have nm : ∀ z c, iK S1 z c → c ≠ 3 → ∀ j, giC S3 z j = giC S2 z j := fun z c kz n j => d6 z j (Or.inr fun g l => ik_ne kz (lmk g z l) n rfl)
  have far : ∀ z c, iK S1 z c → c ≠ 3 → z ≠ mq + 1 → z ≠ mq + 2 → ∀ j, giC S3 z j = giC S1 z j := fun z c kz n n1 n2 j => (nm z c kz n j).trans (d2 z j n2 (Or.inl n1))
  have m2 : ∀ z, iK S1 z 3 → ∀ j, giC S2 z j = giC S1 z j := fun z kz j => d2 z j (ik_ne kz W.2.1 (by decide)) (Or.inl (ik_ne kz W.1 (by decide)))
  have mo0 : ∀ z, iK S1 z 3 → (∀ g, ¬ lM S1 T1 x g z) → ∀ j, giC S3 z j = giC S1 z j := fun z kz n j => (d6 z j (Or.inr n)).trans (m2 z kz j)
  have mo8 : ∀ z, iK S1 z 3 → ∀ j, k89 j → giC S3 z j = giC S1 z j := fun z kz j n => (d6 z j (Or.inl n)).trans (m2 z kz j)
  have moj : ∀ z, iK S1 z 3 → ∀ j, 0 < j → j < 4 → (z ≠ mq ∨ j = 3) → ∀ i, giC S3 (z + j) i = giC S1 (z + j) i := fun z kz j h1 h2 h3 i => by
    have Wz := W3k a.ci.wf kz
    have n1 : z + j ≠ mq + 1 := fun y => by
      have := mo_2 a.ci.wf kz kmq h2 (j' := 1) (by omega) y
      omega
    have n2 : z + j ≠ mq + 2 := fun y => by
      have := mo_2 a.ci.wf kz kmq h2 (j' := 2) (by omega) y
      omega
    rcases (show j = 1 ∨ j = 2 ∨ j = 3 by omega) with rfl | rfl | rfl
    · exact far _ 6 Wz.1 (by decide) n1 n2 i
    · exact far _ 20 Wz.2.1 (by decide) n1 n2 i
    · exact far _ 22 Wz.2.2 (by decide) n1 n2 i
  have nlM : ∀ g i, hL H g i → (hT H g ∨ (2 ≤ g ∧ H.2 27 (hM H g 0) ≠ 0)) → ∀ g', ¬ lM S1 T1 x g' ((T1 (rP x g)).getD i 0) := fun g i l tt g' L => by
    have e := rP_inj (x := x) (a.ci.td _ _ _ (gD_mem (r.2.1.mem l)) L.mem)
    subst e
    obtain ⟨hg, s, -⟩ := L
    match g, l, hg, s, tt with
    | 1, l, hg, s, tt =>
      have z : H.1 35 ≠ 0 := fun y => by
        have := l.2
        have e0 : hN H 1 = (H.1 35).toInt := rfl
        rw [e0, y, i0] at this
        omega
      have so := r.2.2.1.1.2 z
      have s : giC S1 (x + 3) 0 = 2 := s
      rw [s] at so
      rcases tt with tt | tt
      · rw [if_neg (show ¬ H.1 36 = 0 from tt)] at so
        exact absurd so (by decide)
      · omega
    | p + 2, l, hg, s, tt =>
      have z : H.2 34 p ≠ 0 := fun y => by
        have := l.2
        have e0 : hN H (p + 2) = (H.2 34 p).toInt := rfl
        rw [e0, y, i0] at this
        omega
      have so := (r.2.2.1.2.1 p (by omega)).2 z
      have s : giC S1 (x + 13 + 3 * p) 0 = 2 := s
      rw [s] at so
      by_cases t' : H.2 37 p = 0
      · rw [if_pos t'] at so
        rcases tt with tt | tt
        · exact tt t'
        · rw [if_neg tt.2] at so
          exact absurd so (by decide)
      · rw [if_neg t'] at so
        exact absurd so (by decide)
  have isM : ∀ g, hL H g 0 → ¬ hT H g → ¬ (2 ≤ g ∧ H.2 27 (hM H g 0) ≠ 0) → lM S1 T1 x g ((T1 (rP x g)).getD 0 0) := fun g l tt nl => by
    have ne : T1 (rP x g) ≠ [] := fun y => by
      have := r.2.1.mem l
      rw [y] at this
      exact absurd this (by simp)
    have hd : ∃ L, T1 (rP x g) = (T1 (rP x g)).getD 0 0 :: L := by
      cases e : T1 (rP x g) with
      | nil => exact absurd e ne
      | cons b L => exact ⟨L, rfl⟩
    match g, l, tt, nl, hd with
    | 0, l, tt, nl, hd => exact absurd trivial tt
    | 1, l, tt, nl, hd =>
      have z : H.1 35 ≠ 0 := fun y => by
        have := l.2
        have e0 : hN H 1 = (H.1 35).toInt := rfl
        rw [e0, y, i0] at this
        omega
      refine ⟨by omega, ?_, hd⟩
      show giC S1 (x + 3) 0 = 2
      rw [r.2.2.1.1.2 z, if_pos (Classical.byContradiction fun y => tt y)]
    | p + 2, l, tt, nl, hd =>
      have z : H.2 34 p ≠ 0 := fun y => by
        have := l.2
        have e0 : hN H (p + 2) = (H.2 34 p).toInt := rfl
        rw [e0, y, i0] at this
        omega
      refine ⟨⟨by omega, l.1⟩, ?_, hd⟩
      show giC S1 (x + 13 + 3 * p) 0 = 2
      rw [(r.2.2.1.2.1 p (by have := l.1; omega)).2 z, if_pos (Classical.byContradiction fun y => tt y), if_pos (Classical.byContradiction fun y => nl ⟨by omega, y⟩)]
  have ltr : ∀ g, hL H g 0 → ¬ hT H g → (2 ≤ g ∧ H.2 27 (hM H g 0) ≠ 0) → ¬ fC B (H.2 31 k) (f_X11_top H).1 (H.2 20 (hM H 0 (k + 1))) (hC H g 0) := fun g l tt w f => (fB _ f).2.2.1 (r.2.2.1.2.2.2.2 g l.1 l tt w.2).2
  have n4 := r.2.2.2.2.2.2.2.2
  have hQ8 : ∀ g i, hL H g i → ∀ j, k89 j → giC S3 ((T1 (rP x g)).getD i 0) j = giC S1 ((T1 (rP x g)).getD i 0) j := fun g i l j n => mo8 _ (a.m3 (gD_mem (r.2.1.mem l))) j n
  have k0 : k89 0 := ⟨by decide, by decide, by decide⟩
  have k1 : k89 1 := ⟨by decide, by decide, by decide⟩
  have k10 : k89 10 := ⟨by decide, by decide, by decide⟩
  have k5f : ∀ d, pl x d → giC S3 d 0 = giC S1 d 0 := fun d od => by
    have kd := pl.lt a.ci a.k1 od
    exact far d 5 kd (by decide) (ik_ne kd W.1 (by decide)) (ik_ne kd W.2.1 (by decide)) 0
  have fx8 : ∀ j, giC S3 x j = giC S1 x j := far x 0 a.k1 (by decide) (ik_ne a.k1 W.1 (by decide)) (ik_ne a.k1 W.2.1 (by decide))
  have mx1 := mo_x a.ci a.k1 kmq (j := 1) (by omega)
  have mx2 := mo_x a.ci a.k1 kmq (j := 2) (by omega)
  have mh2 := mo_h a.ci a.k1 kmq (j := 2) (by omega)
  have w0 := a.w0
  refine ⟨?_, fun g hg => ?_, ⟨?_, fun p hp => ?_, fun g hg l tt => ?_, fun g hg l tt => ?_, fun g hg l tt => ?_⟩, ?_, ⟨?_, fun z kz => ?_, by rw [p1]; exact r.2.2.2.2.1.2.2.1, by rw [q2 40 (by decide) (by decide) (by decide) (by decide) (by decide)]; exact r.2.2.2.2.1.2.2.2⟩, ?_, fun g i l tt => ?_, fun g i g' i' l tt l' tt' z0 z => ?_, fun j l tt d kd => ?_⟩
  · have k37 : iK S1 (x + 37) 1 := w0.1.1
    have w1 := a.w1
    have k38 : iK S1 (x + 38) 21 := w1.1.1
    have k39 : iK S1 (x + 39) 20 := w1.1.2.2.1
    have f37 := far (x + 37) 1 k37 (by decide) (ik_ne k37 W.1 (by decide)) (ik_ne k37 W.2.1 (by decide))
    have f38 := far (x + 38) 21 k38 (by decide) (ik_ne k38 W.1 (by decide)) (ik_ne k38 W.2.1 (by decide))
    have f39 := far (x + 39) 20 k39 (by decide) (ik_ne k39 W.1 (by decide)) (fun y => mh2.2.2 y.symm)
    obtain ⟨⟨g0, g1, g2, g3, g4, g5⟩, g6, g7, g8⟩ := r.1
    exact ⟨⟨by rw [f37, p1]; exact g0, by rw [f37, p1]; exact g1, by rw [f37, p1]; exact g2, by rw [f37, p1]; exact g3, by rw [f37, p1]; exact g4, by rw [f37, p1]; exact g5⟩, fun s h1 h2 => by rw [f38, q2 11 (by decide) (by decide) (by decide) (by decide) (by decide)]; rw [p1] at h2; exact g6 s h1 h2, fun s h1 => by rw [f39, q2 12 (by decide) (by decide) (by decide) (by decide) (by decide)]; exact g7 s h1, by rw [p1, q2 11 (by decide) (by decide) (by decide) (by decide) (by decide)]; exact g8⟩
  · rw [eN]
    refine ⟨(r.2.1 g hg).1, fun i hi => ?_⟩
    have l : hL H g i := ⟨hg, by have := (r.2.1 g hg).1; omega⟩
    have mo := (r.2.1 g hg).2 i hi
    have kz := a.m3 (gD_mem hi)
    have u4 := (h.1.2.2.2.2.1 g i l).2.1.2
    rw [eM]
    by_cases zt : g = 0 ∧ i = k
    · obtain ⟨rfl, rfl⟩ := zt
      have nfc := nf 0 i lt trivial
      rw [emq]
      have b1 := wt.2.1
      have b2 := wm.2.1
      have b3 := wm.2.2
      have b4 := cc.2
      have q19t : H2.2 19 (hM H 0 i) = H.2 19 (hM H 0 i) + x6 := by rw [q19, upd_eq]
      have sx := iAdd (x := H.2 19 (hM H 0 i)) (y := x6) (by omega) (by omega)
      have mtx := mtt.2.2.2.1.2
      have mmx := mm.2.2.2.1.2
      refine mtt.te (by rw [p1]) (mo0 mq kmq (by rw [← emq]; exact nlM 0 i lt (Or.inl trivial))) (moj mq kmq 3 (by omega) (by omega) (Or.inr rfl)) (fun j h1 h2 h3 => unf 0 i lt nfc j h1 (by omega) h3) (fun s _ => q29 _) ?_ (fun n hn => ?_)
      · rw [nm (mq + 1) 6 W.1 (by decide), q19t]
        refine iEq.mpr ?_
        rw [d1, sx]
        omega
      · rw [q19t, sx] at hn
        rw [nm (mq + 2) 20 W.2.1 (by decide), q28]
        by_cases r1 : (n : Int) < (H.2 20 (hM H 0 (i + 1))).toInt
        · rw [d3 n r1, t1 n (by omega)]
          exact mtx n (by omega)
        · by_cases r2 : (n : Int) < (H.2 20 (hM H 0 (i + 1))).toInt + (H.2 19 (hM H 0 (i + 1))).toInt
          · obtain ⟨n', hn'⟩ : ∃ n', n = (H.2 20 (hM H 0 (i + 1))).toNatClampNeg + n' := ⟨n - (H.2 20 (hM H 0 (i + 1))).toNatClampNeg, by omega⟩
            rw [hn', d4 n' (by omega), t2 n' (by omega)]
            exact mmx n' (by omega)
          · obtain ⟨n', hn'⟩ : ∃ n' : Nat, (n : Int) = n' + x6.toInt := ⟨((n : Int) - x6.toInt).toNat, by omega⟩
            rw [d5 n' n (by omega) (by omega) (by omega), t3 n' n (by omega) (by omega) hn']
            exact mtx n' (by omega)
    · have nz : (T1 (rP x g)).getD i 0 ≠ mq := fun y => by
        have u := q_uniq a.ci (r.2.1.mem l) (r.2.1.mem lt) (y.trans emq.symm)
        exact zt ⟨rP_inj u.1, u.2⟩
      obtain ⟨w9, wx⟩ := w19 g i l zt
      have same : (∀ g', ¬ lM S1 T1 x g' ((T1 (rP x g)).getD i 0)) → ¬ fC B (H.2 31 k) (f_X11_top H).1 (H.2 20 (hM H 0 (k + 1))) (hC H g i) → mR S3 ((T1 (rP x g)).getD i 0) H2 (hM H g i) := fun nl nfc => by
        refine mo.cg (fun j hj => ?_) (by rw [p1]) (fun j h1 h2 => ?_) (fun n hn => wx n (by omega)) (fun s _ => q29 _)
        · by_cases j0 : j = 0
          · subst j0
            exact mo0 _ kz nl
          · exact moj _ kz j (by omega) hj (Or.inl nz)
        · by_cases j19 : j = 19
          · rw [j19]
            exact w9
          · exact unf g i l nfc j h1 (by omega) j19
      by_cases tt : hT H g
      · exact same (nlM g i l (Or.inl tt)) (nf g i l tt)
      · have i0' := lone0 h.1 l tt
        subst i0'
        by_cases le : 2 ≤ g ∧ H.2 27 (hM H g 0) ≠ 0
        · exact same (nlM g 0 l (Or.inr le)) (ltr g l tt le)
        · have L := isM g l tt le
          have C := d10 g _ L
          have R0 := c0 (hC H g 0) (inR g 0 l).1 (inR g 0 l).2
          have eh : (hC H g 0).toNatClampNeg = hM H g 0 := rfl
          rw [eh] at R0
          have lz := r.2.2.1.2.2.1 g hg l tt
          have fo : (giC S3 ((T1 (rP x g)).getD 0 0) 11 = H2.2 26 (hM H g 0)) → (H2.2 26 (hM H g 0) = 0 → giC S3 ((T1 (rP x g)).getD 0 0) 8 = H2.2 20 (hM H g 0) ∧ giC S3 ((T1 (rP x g)).getD 0 0) 9 = H2.2 21 (hM H g 0)) → (H.2 14 (hM H g 0) ≠ 2 → H.2 14 (hM H g 0) ≠ 3 → H2.2 20 (hM H g 0) = 0 ∧ H2.2 21 (hM H g 0) = 0 ∧ H2.2 26 (hM H g 0) = 0) → mR S3 ((T1 (rP x g)).getD 0 0) H2 (hM H g 0) := fun x1 x2 x3 => mo.fo (by rw [p1]) (hQ8 g 0 l) (fun j h1 h2 => moj _ kz j h1 h2 (Or.inl nz)) (fun j h1 h2 h3 h4 h5 => by
              by_cases j19 : j = 19
              · rw [j19]
                exact w9
              · rw [q2 j j19 h3 h4 h5 (by omega)]) wx (fun s _ => q29 _) u4 x1 x2 x3
          have both : ¬ fC B (H.2 31 k) (f_X11_top H).1 (H.2 20 (hM H 0 (k + 1))) (hC H g 0) → ¬ fcC S1 mq ((T1 (rP x g)).getD 0 0) (H.2 20 (hM H 0 (k + 1))) → mR S3 ((T1 (rP x g)).getD 0 0) H2 (hM H g 0) := fun nfc nfcC => by
            have y := R0.2.2 nfc
            have z := C.2.2 nfcC
            refine fo ?_ (fun o => ?_) (fun z1 z2 => ?_)
            · rw [z.2.2, y.2.2]
              exact mo.2.1.2
            · rw [y.2.2] at o
              rw [z.1, z.2.1, y.1, y.2.1]
              exact mo.2.2.1 o
            · rw [y.1, y.2.1, y.2.2]
              exact mo.2.2.2.2.2.2 z1 z2
          have am : f_Y4_amends S1 ((T1 (rP x g)).getD 0 0) = if H.2 14 (hM H g 0) = 2 ∨ H.2 14 (hM H g 0) = 3 then 1 else 0 := by
            unfold f_Y4_amends b_Y4_amends_16 b_Y4_amends_21
            rw [mo.1.1]
            by_cases k2 : H.2 14 (hM H g 0) = 2
            · rw [if_pos k2, if_pos (Or.inl k2)]
            · rw [if_neg k2]
              by_cases k3 : H.2 14 (hM H g 0) = 3
              · rw [if_pos k3, if_pos (Or.inr k3)]
              · rw [if_neg k3, if_neg (fun y => y.elim k2 k3)]
          by_cases k23 : H.2 14 (hM H g 0) = 2 ∨ H.2 14 (hM H g 0) = 3
          rotate_left
          · refine both (nk23 g 0 l (fun z => k23 (Or.inl z)) (fun z => k23 (Or.inr z))) (fun y => y.2.1 ?_)
            rw [am, if_neg k23]
          by_cases ld : H.2 25 (hM H g 0) = 0
          · exact both (fun y => (fB _ y).2.2.1 ld) (fun y => y.1 (lz.trans ld))
          by_cases ou : H.2 26 (hM H g 0) = 0
          · have fz := mo.2.2.1 ou
            have N4 := (n4 g l tt ld k23).2.2.1 0 k lt trivial
            rw [emq] at N4
            have iff1 : fcC S1 mq ((T1 (rP x g)).getD 0 0) (H.2 20 (hM H 0 (k + 1))) → fC B (H.2 31 k) (f_X11_top H).1 (H.2 20 (hM H 0 (k + 1))) (hC H g 0) := fun y => by
              refine fB' _ ⟨(h.1.2.1 g 0 l).2.2, fun e => ?_, ld, ou, N4.mp y.2.2.1, fun n hn e => ?_, by have := y.2.2.2; rw [fz.2] at this; exact this⟩
              · have e' : hM H g 0 = hM H 0 (k + 1) := by
                  show (hC H g 0).toNatClampNeg = _
                  rw [e, em]
                have := (h.1.d l lm e').1
                rw [this] at tt
                exact tt trivial
              · have e' : hM H 0 n = hM H g 0 := congrArg Int32.toNatClampNeg e
                have := (h.1.d ⟨by omega, hn⟩ l e').1
                rw [← this] at tt
                exact tt trivial
            have iff2 : fC B (H.2 31 k) (f_X11_top H).1 (H.2 20 (hM H 0 (k + 1))) (hC H g 0) → fcC S1 mq ((T1 (rP x g)).getD 0 0) (H.2 20 (hM H 0 (k + 1))) := fun y => by
              have w := fB _ y
              refine ⟨fun e => ld (lz.symm.trans e), by rw [am, if_pos k23]; decide, N4.mpr w.2.2.2.2.1, ?_⟩
              rw [fz.2]
              exact w.2.2.2.2.2.2
            by_cases F : fC B (H.2 31 k) (f_X11_top H).1 (H.2 20 (hM H 0 (k + 1))) (hC H g 0)
            · have Fc := iff2 F
              by_cases b' : H.2 20 (hM H g 0) < H.2 21 (hM H 0 (k + 1))
              · have y := R0.1 F b'
                have z := C.1 Fc (by rw [fz.1]; exact b')
                refine fo (by rw [z.2.2, y.2.2]) (fun o => ?_) (fun z1 z2 => absurd k23 (fun w => w.elim z1 z2))
                rw [y.2.2] at o
                exact absurd o (by decide)
              · have y := R0.2.1 F b'
                have z := C.2.1 Fc (by rw [fz.1]; exact b')
                refine fo (by rw [z.2.2, y.2.2]; exact mo.2.1.2) (fun o => ?_) (fun z1 z2 => absurd k23 (fun w => w.elim z1 z2))
                rw [z.1, z.2.1, y.1, y.2.1, fz.1, fz.2, e6]
                exact ⟨rfl, rfl⟩
            · exact both F (fun y => F (iff1 y))
          · have y := R0.2.2 (fun w => ou (fB _ w).2.2.2.1)
            have b11 : giC S1 ((T1 (rP x g)).getD 0 0) 11 = 1 := by
              rcases (a.ci.wf.w3 kz).2.2.1.2.2 with w | w
              · exact absurd (mo.2.1.2.symm.trans w) ou
              · exact w
            have z11 : giC S3 ((T1 (rP x g)).getD 0 0) 11 = 1 := by
              by_cases Fc : fcC S1 mq ((T1 (rP x g)).getD 0 0) (H.2 20 (hM H 0 (k + 1)))
              · by_cases b' : giC S1 ((T1 (rP x g)).getD 0 0) 8 < H.2 21 (hM H 0 (k + 1))
                · exact (C.1 Fc b').2.2
                · exact (C.2.1 Fc b').2.2.trans b11
              · exact (C.2.2 Fc).2.2.trans b11
            refine fo ?_ (fun o => ?_) (fun z1 z2 => absurd k23 (fun w => w.elim z1 z2))
            · rw [z11, y.2.2, ← b11]
              exact mo.2.1.2
            · rw [y.2.2] at o
              exact absurd o ou
  · rw [k5f _ (Or.inl rfl), p1]
    exact r.2.2.1.1
  · rw [k5f _ (Or.inr ⟨p, hp, rfl⟩), q2 34 (by decide) (by decide) (by decide) (by decide) (by decide), q2 37 (by decide) (by decide) (by decide) (by decide) (by decide), q2 27 (by decide) (by decide) (by decide) (by decide) (by decide), eM]
    exact r.2.2.1.2.1 p hp
  · have l' := (eL g 0).mp l
    rw [hQ8 g 0 l' 10 k10, eM, q2 25 (by decide) (by decide) (by decide) (by decide) (by decide)]
    exact r.2.2.1.2.2.1 g hg l' (mt (eT g).mpr tt)
  · have l' := (eL g 0).mp l
    rw [eM, q2 25 (by decide) (by decide) (by decide) (by decide) (by decide)]
    intro z
    rw [(un g 0 l' (fun w => (fB _ w).2.2.1 z)).2.2]
    exact r.2.2.1.2.2.2.1 g hg l' (mt (eT g).mpr tt) z
  · have l' := (eL g 0).mp l
    rw [eM, q2 25 (by decide) (by decide) (by decide) (by decide) (by decide), q2 27 (by decide) (by decide) (by decide) (by decide) (by decide)]
    exact r.2.2.1.2.2.2.2 g hg l' (mt (eT g).mpr tt)
  · refine r.2.2.2.1.cg (by rw [p1]) (by rw [p1]) (q2 40 (by decide) (by decide) (by decide) (by decide) (by decide)) (q2 41 (by decide) (by decide) (by decide) (by decide) (by decide)) (fun l hl => ?_) d8 (fun z => d9 z 6)
    obtain ⟨kl, kz⟩ := zl_k a.ci a.k1 hl
    have nd := dM_l a.ci a.k1 kmq r.2.2.2.1 hl
    exact ⟨far l 2 kl (by decide) (ik_ne kl W.1 (by decide)) (ik_ne kl W.2.1 (by decide)), d7 _ _, far _ 20 kz (by decide) (ik_ne kz W.1 (by decide)) (fun y => nd ⟨by omega, by omega⟩)⟩
  · have k11 : iK S1 (x + 11) 6 := w0.1.2.2.2.2.2.2
    have k12 : iK S1 (x + 12) 20 := (a.ci.wf.w6 k11).1.1
    exact r.2.2.2.2.1.1.cg (fx8 7) (fx8 9) (far _ 6 k11 (by decide) (fun y => mx1.2.2.2.2.1 y.symm) (ik_ne k11 W.2.1 (by decide)) 1) (far _ 20 k12 (by decide) (ik_ne k12 W.1 (by decide)) (fun y => mx2.2.2.2.2.2.1 y.symm)) (by rw [p1]) (by rw [p1]) (by rw [p1]) (by rw [p1]; exact Int.le_refl _) (q2 38 (by decide) (by decide) (by decide) (by decide) (by decide))
  · have kz' := d9 z 3 kz
    rw [vCn_cg (S1 := S1) (moj z kz' 3 (by omega) (by omega) (Or.inr rfl)), mo8 z kz' 14 ⟨by decide, by decide, by decide⟩]
    exact r.2.2.2.2.1.2.1 z kz'
  · rw [fx8]
    exact r.2.2.2.2.2.1
  · have l' := (eL g i).mp l
    have t' := (eT g).mp tt
    rw [hQ8 g i l' 0 k0, fx8, eM, q2 14 (by decide) (by decide) (by decide) (by decide) (by decide), (un g i l' (nf g i l' t')).2.2]
    exact r.2.2.2.2.2.2.1 g i l' t'
  · have l1 := (eL g i).mp l
    have l2 := (eL g' i').mp l'
    rw [hQ8 g i l1 0 k0] at z0
    rw [hQ8 g i l1 0 k0, hQ8 g' i' l2 0 k0] at z
    exact r.2.2.2.2.2.2.2.1 g i g' i' l1 ((eT g).mp tt) l2 ((eT g').mp tt') z0 z
  · have l' := (eL j 0).mp l
    rw [eM, q2 25 (by decide) (by decide) (by decide) (by decide) (by decide)] at d
    rw [eM, q2 14 (by decide) (by decide) (by decide) (by decide) (by decide)] at kd
    obtain ⟨z1, z2, z3, z4⟩ := n4 j l' (mt (eT j).mpr tt) d kd
    rw [hQ8 j 0 l' 1 k1, fx8, eM, q2 23 (by decide) (by decide) (by decide) (by decide) (by decide), p1]
    refine ⟨z1, z2, fun g i lg tg => ?_, fun g lg tg => ?_⟩
    · have lg' := (eL g i).mp lg
      rw [hQ8 g i lg' 0 k0, eM, q2 22 (by decide) (by decide) (by decide) (by decide) (by decide)]
      exact z3 g i lg' ((eT g).mp tg)
    · rw [eM, q2 22 (by decide) (by decide) (by decide) (by decide) (by decide)]
      exact z4 g ((eL g 0).mp lg) (mt (eT g).mpr tg)
end
