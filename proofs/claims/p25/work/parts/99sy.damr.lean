section
/-! ===== words in place of a span: both sides ===== -/
section
variable {wF : Prop × (Nat → Int32) × Int32 × (Nat → Int32)} {x : Nat} {S S1 S2 S3 S4 : Cst} {T T1 T2 T3 : Nat → List Nat} {F F1 : List Nat} {col c1 c2 c3 : Nat → Nat} {H H2 G R : HS} {N M : Int}
/-- a motion whose span alone moved -/
theorem mR.fo {q m : Nat} (h : mR S1 q H m) (h0 : H2.1 0 = H.1 0) (cc : ∀ k, k89 k → giC S2 q k = giC S1 q k) (cj : ∀ j, 0 < j → j < 4 → ∀ k, giC S2 (q + j) k = giC S1 (q + j) k) (f : ∀ k, 14 ≤ k → k ≤ 26 → k ≠ 20 → k ≠ 21 → k ≠ 26 → H2.2 k m = H.2 k m) (fx : ∀ i : Nat, i < 400 → H2.2 28 (400 * m + i) = H.2 28 (400 * m + i)) (fb : ∀ s, s < 200 → H2.2 29 (200 * m + s) = H.2 29 (200 * m + s)) (w4 : (H.2 19 m).toInt ≤ 400) (e11 : giC S2 q 11 = H2.2 26 m) (e89 : H2.2 26 m = 0 → giC S2 q 8 = H2.2 20 m ∧ giC S2 q 9 = H2.2 21 m) (ez : H.2 14 m ≠ 2 → H.2 14 m ≠ 3 → H2.2 20 m = 0 ∧ H2.2 21 m = 0 ∧ H2.2 26 m = 0) : mR S2 q H2 m := by
  obtain ⟨⟨a1, a2, a3, a4, a5⟩, ⟨b1, b2⟩, c, ⟨d1, d2⟩, e, ⟨f1, f2⟩, g⟩ := h
  have kk : ∀ k, k < 8 ∨ k = 14 → giC S2 q k = giC S1 q k := fun k h => cc k ⟨by omega, by omega, by omega⟩
  have ff : ∀ k, 14 ≤ k → k ≤ 19 ∨ k = 24 → H2.2 k m = H.2 k m := fun k h1 h2 => f k h1 (by omega) (by omega) (by omega) (by omega)
  refine ⟨⟨?_, ?_, ?_, ?_, ?_⟩, ⟨?_, e11⟩, e89, ⟨?_, fun i hi => ?_⟩, fun s hs => ?_, ⟨fun s h1 h2 => ?_, ?_⟩, fun z1 z2 => ?_⟩
  · rw [kk 2 (by omega), ff 14 (by omega) (by omega)]
    exact a1
  · rw [kk 3 (by omega), ff 15 (by omega) (by omega)]
    exact a2
  · rw [kk 4 (by omega), ff 16 (by omega) (by omega)]
    exact a3
  · rw [kk 5 (by omega), ff 17 (by omega) (by omega)]
    exact a4
  · rw [kk 6 (by omega), ff 18 (by omega) (by omega)]
    exact a5
  · rw [kk 7 (by omega), ff 24 (by omega) (by omega)]
    exact b1
  · rw [cj 1 (by omega) (by omega), ff 19 (by omega) (by omega)]
    exact d1
  · rw [ff 19 (by omega) (by omega)] at hi
    rw [cj 2 (by omega) (by omega), fx i (by omega)]
    exact d2 i hi
  · rw [cj 3 (by omega) (by omega), fb s hs]
    exact e s hs
  · rw [h0] at h2
    rw [cj 3 (by omega) (by omega)]
    exact f1 s h1 h2
  · rw [kk 14 (by omega), vCn_cg (S1 := S1) (cj 3 (by omega) (by omega))]
    exact f2
  · rw [ff 14 (by omega) (by omega)] at z1 z2
    exact ez z1 z2
/-- a motion whose text alone is another one -/
theorem mR.te {q m : Nat} (h : mR S1 q H m) (h0 : H2.1 0 = H.1 0) (cc : ∀ k, giC S2 q k = giC S1 q k) (c3 : ∀ k, giC S2 (q + 3) k = giC S1 (q + 3) k) (f : ∀ k, 14 ≤ k → k ≤ 26 → k ≠ 19 → H2.2 k m = H.2 k m) (fb : ∀ s, s < 200 → H2.2 29 (200 * m + s) = H.2 29 (200 * m + s)) (e1 : giC S2 (q + 1) 1 = H2.2 19 m) (ex : ∀ i : Nat, (i : Int) < (H2.2 19 m).toInt → giC S2 (q + 2) i = H2.2 28 (400 * m + i)) : mR S2 q H2 m := by
  obtain ⟨⟨a1, a2, a3, a4, a5⟩, ⟨b1, b2⟩, c, ⟨d1, d2⟩, e, ⟨f1, f2⟩, g⟩ := h
  have ff : ∀ k, 14 ≤ k → k ≤ 26 → k ≠ 19 → H2.2 k m = H.2 k m := f
  have m26 := ff 26 (by omega) (by omega) (by omega)
  have m20 := ff 20 (by omega) (by omega) (by omega)
  have m21 := ff 21 (by omega) (by omega) (by omega)
  refine ⟨⟨?_, ?_, ?_, ?_, ?_⟩, ⟨?_, ?_⟩, fun z => ?_, ⟨e1, ex⟩, fun s hs => ?_, ⟨fun s h1 h2 => ?_, ?_⟩, fun z1 z2 => ?_⟩
  · rw [cc, ff 14 (by omega) (by omega) (by omega)]
    exact a1
  · rw [cc, ff 15 (by omega) (by omega) (by omega)]
    exact a2
  · rw [cc, ff 16 (by omega) (by omega) (by omega)]
    exact a3
  · rw [cc, ff 17 (by omega) (by omega) (by omega)]
    exact a4
  · rw [cc, ff 18 (by omega) (by omega) (by omega)]
    exact a5
  · rw [cc, ff 24 (by omega) (by omega) (by omega)]
    exact b1
  · rw [cc, m26]
    exact b2
  · rw [m26] at z
    rw [cc, cc, m20, m21]
    exact c z
  · rw [c3, fb s hs]
    exact e s hs
  · rw [h0] at h2
    rw [c3]
    exact f1 s h1 h2
  · rw [cc, vCn_cg (S1 := S1) c3]
    exact f2
  · rw [ff 14 (by omega) (by omega) (by omega)] at z1 z2
    rw [m20, m21, m26]
    exact g z1 z2
/-- what the change of a reference's state is, as the class's side needs it -/
def chV (H R : HS) (t0 t1 : Int32) (t m : Nat) (x6 : Int32) (u : Nat → Int32) : Prop :=
  (∀ k, k ≠ 19 → k ≠ 20 → k ≠ 21 → k ≠ 26 → k ≠ 28 → R.2 k = H.2 k) ∧ R.2 19 = upd (H.2 19) t (H.2 19 t + x6) ∧ R.2 28 = u ∧
  (∀ y : Int32, 0 ≤ y.toInt → y.toInt < 90 → cR (sA H 19 t (H.2 19 t + x6)) R t0 t1 (H.2 20 m) (H.2 21 m) x6 y)
theorem amendR (a : AS x S T col S1 T1 c1) (r : RR wF N S1 T1 x H) (h : HI M H) (e1 : ∀ j, j ≠ 5 → G.1 j = H.1 j) (e2 : G.2 = H.2) (hp : 2 ≤ (H.1 6).toInt) (hk : H.2 14 (f_X11_top H).1.toNatClampNeg = 2 ∨ H.2 14 (f_X11_top H).1.toNatClampNeg = 3) {q mq : Nat} (eq : (T1 (rP x 0)).getD ((H.1 6).toNatClampNeg - 1) 0 = q) (emq : (T1 (rP x 0)).getD ((H.1 6).toNatClampNeg - 2) 0 = mq) : ∃ S3, f_Y7_amend S1 x (some mq) (some q) = (0, S3) ∧ AS x S T col S3 T1 c1 ∧ ∀ H2 : HS, H2.1 = H.1 → H2.2 = (f_X11_change G (H.2 31 (H.1 6 - 2).toNatClampNeg) (f_X11_top H).1).2.2 → RR wF N S3 T1 x H2 := by
  have hr := h.ra
  have b6 := hr.2.1
  have n6 := iNat (x := H.1 6) (by omega)
  have i2 : (2 : Int32).toInt = 2 := by decide
  have s2 := iSub (x := H.1 6) (y := 2) (by rw [i2]; omega) (by rw [i2]; omega)
  rw [i2] at s2
  have k2 := iNat (x := H.1 6 - 2) (by omega)
  obtain ⟨k, hkk⟩ : ∃ k : Nat, (H.1 6).toInt = k + 2 := ⟨(H.1 6).toNatClampNeg - 2, by omega⟩
  have ek : (H.1 6 - 2).toNatClampNeg = k := by omega
  have ek2 : (H.1 6).toNatClampNeg - 2 = k := by omega
  have ek1 : (H.1 6).toNatClampNeg - 1 = k + 1 := by omega
  rw [ek2] at emq
  rw [ek1] at eq
  have em : (f_X11_top H).1.toNatClampNeg = hM H 0 (k + 1) := by
    rw [top_m (by omega), ek1]
  have lm : hL H 0 (k + 1) := ⟨by omega, by show ((k + 1 : Nat) : Int) < (H.1 6).toInt; omega⟩
  have lt : hL H 0 k := ⟨by omega, by show (k : Int) < (H.1 6).toInt; omega⟩
  have vt := h.1.2.1 0 k lt
  have vm := h.1.2.1 0 (k + 1) lm
  have wm := h.1.2.2.2.2.1 0 (k + 1) lm
  have wt := h.1.2.2.2.2.1 0 k lt
  have ch := h.1.2.2.2.2.2.2.2.1 0 k lm
  rw [em] at hk
  have cc := ch.2.1 hk
  have tm : hM H 0 k ≠ hM H 0 (k + 1) := fun y => by have := (h.1.d lt lm y).2; omega
  -- the motions
  have mqm : mq ∈ T1 (rP x 0) := by rw [← emq]; exact gD_mem (r.2.1.mem lt)
  have qm : q ∈ T1 (rP x 0) := by rw [← eq]; exact gD_mem (r.2.1.mem lm)
  have kmq := a.m3 mqm
  have kq := a.m3 qm
  have cmq : c1 mq = x := by rw [(a.ci.tk _ mq mqm).2]; exact a.1.oc (rP_own (by omega)).1
  have nq : mq ≠ q := fun y => by
    have := (q_uniq a.ci (r.2.1.mem lt) (r.2.1.mem lm) (emq.trans (y.trans eq.symm))).2
    omega
  have mtt : mR S1 mq H (hM H 0 k) := by rw [← emq]; exact (r.2.1 0 (by omega)).2 k (r.2.1.mem lt)
  have mm : mR S1 q H (hM H 0 (k + 1)) := by rw [← eq]; exact (r.2.1 0 (by omega)).2 (k + 1) (r.2.1.mem lm)
  have o26 := (r.2.2.2.2.2.2.1 0 (k + 1) lm trivial).2.2
  have mf := mm.2.2.1 o26
  have mw := mm.2.2.2.1.1
  have tw := mtt.2.2.2.1.1
  obtain ⟨S2, S3, f, U, ⟨d1, d2, d3, d4, d5⟩, d6, d7, d8, d9, d10⟩ := amd_v a.1 kmq cmq kq nq (by rw [mf.1, mf.2, tw]; exact ⟨wm.2.2.1, wm.2.2.2.1, cc.2.1⟩) (by rw [tw]; exact wt.2.1.2) (by rw [mw]; exact wm.2.1) (by rw [mf.1, mf.2, tw, mw]; exact cc.2.2)
  rw [mf.1, mf.2, mw] at d10
  rw [mf.1, mf.2, mw, tw] at d1
  rw [mf.1] at d3
  rw [mf.1, mw] at d4
  rw [mf.1, mf.2, mw, tw] at d5
  -- the reference
  have hrG : RA G := by
    unfold RA
    rw [e1 0 (by decide), e1 6 (by decide), e1 35 (by decide), e2]
    exact hr
  have ka := iNat (x := H.2 20 (hM H 0 (k + 1))) wm.2.2.1
  have kt := iNat (x := H.2 31 k) vt.1
  have km' := iNat (x := (f_X11_top H).1) (by have := top_in hr (by omega); omega)
  have et : (H.2 31 k).toNatClampNeg = hM H 0 k := rfl
  obtain ⟨S', x6, e6, e6i, o, V, t1, t2, t3, t4⟩ := change_v (S := G) hrG (x1 := H.2 31 k) (x2 := (f_X11_top H).1) (t := hM H 0 k) (m := hM H 0 (k + 1)) (a := (H.2 20 (hM H 0 (k + 1))).toNatClampNeg) ⟨by rw [← et]; omega, h.1.lt lt⟩ ⟨by rw [← em]; omega, h.1.lt lm⟩ tm (by rw [e2]; exact ka.symm) (by rw [e2, ka]; exact ⟨wm.2.2.2.1, cc.2.1⟩) (by rw [e2]; exact wt.2.1.2) (by rw [e2]; exact wm.2.1) (by rw [e2, ka]; exact cc.2.2)
  rw [e2] at e6 e6i t1 t2 t3 t4 V
  rw [ka] at e6i
  have o2 : ∀ j, j ≠ 28 → S'.2 j = H.2 j := fun j y => by rw [o.2 j y, e2]
  refine ⟨S3, f, ⟨U.1, a.2.kp a.ci a.k1 U.2.1 (fun _ _ _ => rfl)⟩, fun H2 p1 p2 => ?_⟩
  rw [ek] at p2
  generalize (f_X11_change G (H.2 31 k) (f_X11_top H).1).2 = R at V p2
  obtain ⟨v1, v2, v3, v4⟩ := V
  rw [i0] at v4
  have q2 : ∀ j, j ≠ 19 → j ≠ 20 → j ≠ 21 → j ≠ 26 → j ≠ 28 → H2.2 j = H.2 j := fun j a b c d e => by
    rw [p2, v2 j b c d, sA_k a, o2 j e]
  have q19 : ∀ j, H2.2 19 j = upd (H.2 19) (hM H 0 k) (H.2 19 (hM H 0 k) + x6) j := fun j => by
    rw [p2, v2 19 (by decide) (by decide) (by decide)]
    show upd (S'.2 19) _ _ j = _
    rw [o2 19 (by decide)]
  have q28 : ∀ j, H2.2 28 j = S'.2 28 j := fun j => by
    rw [p2, v2 28 (by decide) (by decide) (by decide), sA_k (by decide)]
  have eB : ∀ j, j ≠ 19 → j ≠ 28 → (sA S' 19 (hM H 0 k) (H.2 19 (hM H 0 k) + x6)).2 j = H.2 j := fun j a b => by rw [sA_k a, o2 j b]
  have eB6 : (sA S' 19 (hM H 0 k) (H.2 19 (hM H 0 k) + x6)).1 6 = H.1 6 := by
    show S'.1 6 = H.1 6
    rw [o.1]
    exact e1 6 (by decide)
  generalize sA S' 19 (hM H 0 k) (H.2 19 (hM H 0 k) + x6) = B at v1 v2 v3 v4 eB eB6
  have fB : ∀ y, fC B (H.2 31 k) (f_X11_top H).1 (H.2 20 (hM H 0 (k + 1))) y → H.2 13 y.toNatClampNeg ≠ 0 ∧ y ≠ (f_X11_top H).1 ∧ H.2 25 y.toNatClampNeg ≠ 0 ∧ H.2 26 y.toNatClampNeg = 0 ∧ H.2 23 y.toNatClampNeg = H.2 22 (hM H 0 k) ∧ (∀ i : Nat, (i : Int) < (H.1 6).toInt → H.2 31 i ≠ y) ∧ H.2 20 (hM H 0 (k + 1)) < H.2 21 y.toNatClampNeg := fun y w => by
    unfold fC at w
    rw [eB 13 (by decide) (by decide), eB 25 (by decide) (by decide), eB 26 (by decide) (by decide), eB 23 (by decide) (by decide), eB 22 (by decide) (by decide), eB 31 (by decide) (by decide), eB 21 (by decide) (by decide), eB6] at w
    exact w
  have fB' : ∀ y, H.2 13 y.toNatClampNeg ≠ 0 ∧ y ≠ (f_X11_top H).1 ∧ H.2 25 y.toNatClampNeg ≠ 0 ∧ H.2 26 y.toNatClampNeg = 0 ∧ H.2 23 y.toNatClampNeg = H.2 22 (hM H 0 k) ∧ (∀ i : Nat, (i : Int) < (H.1 6).toInt → H.2 31 i ≠ y) ∧ H.2 20 (hM H 0 (k + 1)) < H.2 21 y.toNatClampNeg → fC B (H.2 31 k) (f_X11_top H).1 (H.2 20 (hM H 0 (k + 1))) y := fun y w => by
    unfold fC
    rw [eB 13 (by decide) (by decide), eB 25 (by decide) (by decide), eB 26 (by decide) (by decide), eB 23 (by decide) (by decide), eB 22 (by decide) (by decide), eB 31 (by decide) (by decide), eB 21 (by decide) (by decide), eB6]
    exact w
  have c0 : ∀ y : Int32, 0 ≤ y.toInt → y.toInt < 90 → (fC B (H.2 31 k) (f_X11_top H).1 (H.2 20 (hM H 0 (k + 1))) y → H.2 20 y.toNatClampNeg < H.2 21 (hM H 0 (k + 1)) → H2.2 20 y.toNatClampNeg = H.2 20 y.toNatClampNeg ∧ H2.2 21 y.toNatClampNeg = H.2 21 y.toNatClampNeg ∧ H2.2 26 y.toNatClampNeg = 1) ∧ (fC B (H.2 31 k) (f_X11_top H).1 (H.2 20 (hM H 0 (k + 1))) y → ¬ H.2 20 y.toNatClampNeg < H.2 21 (hM H 0 (k + 1)) → H2.2 20 y.toNatClampNeg = H.2 20 y.toNatClampNeg + x6 ∧ H2.2 21 y.toNatClampNeg = H.2 21 y.toNatClampNeg + x6 ∧ H2.2 26 y.toNatClampNeg = H.2 26 y.toNatClampNeg) ∧ (¬ fC B (H.2 31 k) (f_X11_top H).1 (H.2 20 (hM H 0 (k + 1))) y → H2.2 20 y.toNatClampNeg = H.2 20 y.toNatClampNeg ∧ H2.2 21 y.toNatClampNeg = H.2 21 y.toNatClampNeg ∧ H2.2 26 y.toNatClampNeg = H.2 26 y.toNatClampNeg) := fun y h1 h2 => by
    have w := v4 y h1 h2
    unfold cR at w
    rw [eB 20 (by decide) (by decide), eB 21 (by decide) (by decide), eB 26 (by decide) (by decide)] at w
    rw [p2]
    exact w
  have eN : ∀ g, hN H2 g = hN H g := fun g => by
    match g with
    | 0 => show (H2.1 6).toInt = _; rw [p1]; rfl
    | 1 => show (H2.1 35).toInt = _; rw [p1]; rfl
    | p + 2 => show (H2.2 34 p).toInt = _; rw [q2 34 (by decide) (by decide) (by decide) (by decide) (by decide)]; rfl
  have eM : ∀ g i, hM H2 g i = hM H g i := fun g i => by
    unfold hM
    match g with
    | 0 => show (H2.2 31 i).toNatClampNeg = _; rw [q2 31 (by decide) (by decide) (by decide) (by decide) (by decide)]; rfl
    | 1 => show (H2.2 32 i).toNatClampNeg = _; rw [q2 32 (by decide) (by decide) (by decide) (by decide) (by decide)]; rfl
    | p + 2 => show (H2.2 33 (9 * p + i)).toNatClampNeg = _; rw [q2 33 (by decide) (by decide) (by decide) (by decide) (by decide)]; rfl
  have eT : ∀ g, hT H2 g ↔ hT H g := fun g => by
    match g with
    | 0 => exact Iff.rfl
    | 1 => show H2.1 36 ≠ 0 ↔ H.1 36 ≠ 0; rw [p1]
    | p + 2 => show H2.2 37 p ≠ 0 ↔ H.2 37 p ≠ 0; rw [q2 37 (by decide) (by decide) (by decide) (by decide) (by decide)]
  have eL : ∀ g i, hL H2 g i ↔ hL H g i := fun g i => by
    unfold hL
    rw [eN]
  have inR : ∀ g i, hL H g i → 0 ≤ (hC H g i).toInt ∧ (hC H g i).toInt < 90 := fun g i l => ⟨(h.1.2.1 g i l).1, (h.1.2.1 g i l).2.1⟩
  have a0 : ¬ (H.2 20 (hM H 0 (k + 1)) < 0) := fun y => by
    have := iLt.mp y
    rw [i0] at this
    have := wm.2.2.1
    omega
  -- who isn't 2 or 3 doesn't follow; who is named neither
  have nk23 : ∀ g i, hL H g i → H.2 14 (hM H g i) ≠ 2 → H.2 14 (hM H g i) ≠ 3 → ¬ fC B (H.2 31 k) (f_X11_top H).1 (H.2 20 (hM H 0 (k + 1))) (hC H g i) := fun g i l z1 z2 w => by
    have m0 := ((r.2.1 g l.1).2 i (r.2.1.mem l)).2.2.2.2.2.2 z1 z2
    have w7 := (fB _ w).2.2.2.2.2.2
    have w7 : H.2 20 (hM H 0 (k + 1)) < H.2 21 (hM H g i) := w7
    rw [m0.2.1] at w7
    exact a0 w7
  have nf : ∀ g i, hL H g i → hT H g → ¬ fC B (H.2 31 k) (f_X11_top H).1 (H.2 20 (hM H 0 (k + 1))) (hC H g i) := fun g i l tt w => by
    have W := fB _ w
    by_cases g0 : g = 0
    · subst g0
      exact W.2.2.2.2.2.1 i (by have := l.2; exact this) rfl
    · match i, l with
      | 0, l =>
        have k1 := h.1.2.2.2.1 g l tt
        exact nk23 g 0 l (by rw [k1]; decide) (by rw [k1]; decide) w
      | i + 1, l =>
        by_cases k23 : H.2 14 (hM H g (i + 1)) = 2 ∨ H.2 14 (hM H g (i + 1)) = 3
        · have u := ((h.1.2.2.2.2.2.2.2.1 g i l).2.1 k23).1
          have W5 : H.2 23 (hM H g (i + 1)) = H.2 22 (hM H 0 k) := W.2.2.2.2.1
          have := (h.1.2.2.2.2.2.2.1 g i 0 k ⟨l.1, by have := l.2; omega⟩ lt (u.symm.trans W5)).1
          exact g0 this
        · exact nk23 g (i + 1) l (fun z => k23 (Or.inl z)) (fun z => k23 (Or.inr z)) w
  have un : ∀ g i, hL H g i → ¬ fC B (H.2 31 k) (f_X11_top H).1 (H.2 20 (hM H 0 (k + 1))) (hC H g i) → H2.2 20 (hM H g i) = H.2 20 (hM H g i) ∧ H2.2 21 (hM H g i) = H.2 21 (hM H g i) ∧ H2.2 26 (hM H g i) = H.2 26 (hM H g i) := fun g i l w => (c0 (hC H g i) (inR g i l).1 (inR g i l).2).2.2 w
  have unf : ∀ g i, hL H g i → ¬ fC B (H.2 31 k) (f_X11_top H).1 (H.2 20 (hM H 0 (k + 1))) (hC H g i) → ∀ j, 14 ≤ j → j ≤ 27 → j ≠ 19 → H2.2 j (hM H g i) = H.2 j (hM H g i) := fun g i l w j h1 h2 h3 => by
    have y := un g i l w
    by_cases z20 : j = 20
    · rw [z20]; exact y.1
    by_cases z21 : j = 21
    · rw [z21]; exact y.2.1
    by_cases z26 : j = 26
    · rw [z26]; exact y.2.2
    rw [q2 j h3 z20 z21 z26 (by omega)]
  have w19 : ∀ g i, hL H g i → ¬ (g = 0 ∧ i = k) → H2.2 19 (hM H g i) = H.2 19 (hM H g i) ∧ ∀ n, n < 400 → H2.2 28 (400 * hM H g i + n) = H.2 28 (400 * hM H g i + n) := fun g i l n => by
    have ne : hM H g i ≠ hM H 0 k := fun y => n (h.1.d l lt y)
    refine ⟨by rw [q19, upd_ne ne], fun n' hn => ?_⟩
    rw [q28]
    exact t4 _ (by omega)
  have q29 : ∀ j, H2.2 29 j = H.2 29 j := fun j => by rw [q2 29 (by decide) (by decide) (by decide) (by decide) (by decide)]
  -- the class's cells
  have lmk : ∀ g z, lM S1 T1 x g z → iK S1 z 3 := fun g z l => (a.ci.tk _ z l.mem).1
  have W := W3k a.ci.wf kmq
  have nm : ∀ z c, iK S1 z c → c ≠ 3 → ∀ j, giC S3 z j = giC S2 z j := fun z c kz n j => d6 z j (Or.inr fun g l => ik_ne kz (lmk g z l) n rfl)
  have far : ∀ z c, iK S1 z c → c ≠ 3 → z ≠ mq + 1 → z ≠ mq + 2 → ∀ j, giC S3 z j = giC S1 z j := fun z c kz n n1 n2 j => (nm z c kz n j).trans (d2 z j n2 (Or.inl n1))
  have m2 : ∀ z, iK S1 z 3 → ∀ j, giC S2 z j = giC S1 z j := fun z kz j => d2 z j (ik_ne kz W.2.1 (by decide)) (Or.inl (ik_ne kz W.1 (by decide)))
  have mo0 : ∀ z, iK S1 z 3 → (∀ g, ¬ lM S1 T1 x g z) → ∀ j, giC S3 z j = giC S1 z j := fun z kz n j => (d6 z j (Or.inr n)).trans (m2 z kz j)
  have mo8 : ∀ z, iK S1 z 3 → ∀ j, k89 j → giC S3 z j = giC S1 z j := fun z kz j n => (d6 z j (Or.inl n)).trans (m2 z kz j)
  have moj : ∀ z, iK S1 z 3 → ∀ j, 0 < j → j < 4 → (z ≠ mq ∨ j = 3) → ∀ i, giC S3 (z + j) i = giC S1 (z + j) i := fun z kz j h1 h2 h3 i => by
    have Wz := W3k a.ci.wf kz
    have n1 : z + j ≠ mq + 1 := fun y => by
      have := mo_2 a.ci.wf kz kmq h2 (j' := 1) (by omega) y
      omega
    have n2 : z + j ≠ mq + 2 := fun y => by
      have := mo_2 a.ci.wf kz kmq h2 (j' := 2) (by omega) y
      omega
    rcases (show j = 1 ∨ j = 2 ∨ j = 3 by omega) with rfl | rfl | rfl
    · exact far _ 6 Wz.1 (by decide) n1 n2 i
    · exact far _ 20 Wz.2.1 (by decide) n1 n2 i
    · exact far _ 22 Wz.2.2 (by decide) n1 n2 i
  have nlM : ∀ g i, hL H g i → (hT H g ∨ (2 ≤ g ∧ H.2 27 (hM H g 0) ≠ 0)) → ∀ g', ¬ lM S1 T1 x g' ((T1 (rP x g)).getD i 0) := fun g i l tt g' L => by
    have e := rP_inj (x := x) (a.ci.td _ _ _ (gD_mem (r.2.1.mem l)) L.mem)
    subst e
    obtain ⟨hg, s, -⟩ := L
    match g, l, hg, s, tt with
    | 1, l, hg, s, tt =>
      have z : H.1 35 ≠ 0 := fun y => by
        have := l.2
        have e0 : hN H 1 = (H.1 35).toInt := rfl
        rw [e0, y, i0] at this
        omega
      have so := r.2.2.1.1.2 z
      have s : giC S1 (x + 3) 0 = 2 := s
      rw [s] at so
      rcases tt with tt | tt
      · rw [if_neg (show ¬ H.1 36 = 0 from tt)] at so
        exact absurd so (by decide)
      · omega
    | p + 2, l, hg, s, tt =>
      have z : H.2 34 p ≠ 0 := fun y => by
        have := l.2
        have e0 : hN H (p + 2) = (H.2 34 p).toInt := rfl
        rw [e0, y, i0] at this
        omega
      have so := (r.2.2.1.2.1 p (by omega)).2 z
      have s : giC S1 (x + 13 + 3 * p) 0 = 2 := s
      rw [s] at so
      by_cases t' : H.2 37 p = 0
      · rw [if_pos t'] at so
        rcases tt with tt | tt
        · exact tt t'
        · rw [if_neg tt.2] at so
          exact absurd so (by decide)
      · rw [if_neg t'] at so
        exact absurd so (by decide)
  have isM : ∀ g, hL H g 0 → ¬ hT H g → ¬ (2 ≤ g ∧ H.2 27 (hM H g 0) ≠ 0) → lM S1 T1 x g ((T1 (rP x g)).getD 0 0) := fun g l tt nl => by
    have ne : T1 (rP x g) ≠ [] := fun y => by
      have := r.2.1.mem l
      rw [y] at this
      exact absurd this (by simp)
    have hd : ∃ L, T1 (rP x g) = (T1 (rP x g)).getD 0 0 :: L := by
      cases e : T1 (rP x g) with
      | nil => exact absurd e ne
      | cons b L => exact ⟨L, rfl⟩
    match g, l, tt, nl, hd with
    | 0, l, tt, nl, hd => exact absurd trivial tt
    | 1, l, tt, nl, hd =>
      have z : H.1 35 ≠ 0 := fun y => by
        have := l.2
        have e0 : hN H 1 = (H.1 35).toInt := rfl
        rw [e0, y, i0] at this
        omega
      refine ⟨by omega, ?_, hd⟩
      show giC S1 (x + 3) 0 = 2
      rw [r.2.2.1.1.2 z, if_pos (Classical.byContradiction fun y => tt y)]
    | p + 2, l, tt, nl, hd =>
      have z : H.2 34 p ≠ 0 := fun y => by
        have := l.2
        have e0 : hN H (p + 2) = (H.2 34 p).toInt := rfl
        rw [e0, y, i0] at this
        omega
      refine ⟨⟨by omega, l.1⟩, ?_, hd⟩
      show giC S1 (x + 13 + 3 * p) 0 = 2
      rw [(r.2.2.1.2.1 p (by have := l.1; omega)).2 z, if_pos (Classical.byContradiction fun y => tt y), if_pos (Classical.byContradiction fun y => nl ⟨by omega, y⟩)]
  have ltr : ∀ g, hL H g 0 → ¬ hT H g → (2 ≤ g ∧ H.2 27 (hM H g 0) ≠ 0) → ¬ fC B (H.2 31 k) (f_X11_top H).1 (H.2 20 (hM H 0 (k + 1))) (hC H g 0) := fun g l tt w f => (fB _ f).2.2.1 (r.2.2.1.2.2.2.2 g l.1 l tt w.2).2
  have n4 := r.2.2.2.2.2.2.2.2
  have hQ8 : ∀ g i, hL H g i → ∀ j, k89 j → giC S3 ((T1 (rP x g)).getD i 0) j = giC S1 ((T1 (rP x g)).getD i 0) j := fun g i l j n => mo8 _ (a.m3 (gD_mem (r.2.1.mem l))) j n
  have k0 : k89 0 := ⟨by decide, by decide, by decide⟩
  have k1 : k89 1 := ⟨by decide, by decide, by decide⟩
  have k10 : k89 10 := ⟨by decide, by decide, by decide⟩
  have k5f : ∀ d, pl x d → giC S3 d 0 = giC S1 d 0 := fun d od => by
    have kd := pl.lt a.ci a.k1 od
    exact far d 5 kd (by decide) (ik_ne kd W.1 (by decide)) (ik_ne kd W.2.1 (by decide)) 0
  have fx8 : ∀ j, giC S3 x j = giC S1 x j := far x 0 a.k1 (by decide) (ik_ne a.k1 W.1 (by decide)) (ik_ne a.k1 W.2.1 (by decide))
  have mx1 := mo_x a.ci a.k1 kmq (j := 1) (by omega)
  have mx2 := mo_x a.ci a.k1 kmq (j := 2) (by omega)
  have mh2 := mo_h a.ci a.k1 kmq (j := 2) (by omega)
  have w0 := a.w0
  refine ⟨?_, fun g hg => ?_, ⟨?_, fun p hp => ?_, fun g hg l tt => ?_, fun g hg l tt => ?_, fun g hg l tt => ?_⟩, ?_, ⟨?_, fun z kz => ?_, by rw [p1]; exact r.2.2.2.2.1.2.2.1, by rw [q2 40 (by decide) (by decide) (by decide) (by decide) (by decide)]; exact r.2.2.2.2.1.2.2.2⟩, ?_, fun g i l tt => ?_, fun g i g' i' l tt l' tt' z0 z => ?_, fun j l tt d kd => ?_⟩
  · have k37 : iK S1 (x + 37) 1 := w0.1.1
    have w1 := a.w1
    have k38 : iK S1 (x + 38) 21 := w1.1.1
    have k39 : iK S1 (x + 39) 20 := w1.1.2.2.1
    have f37 := far (x + 37) 1 k37 (by decide) (ik_ne k37 W.1 (by decide)) (ik_ne k37 W.2.1 (by decide))
    have f38 := far (x + 38) 21 k38 (by decide) (ik_ne k38 W.1 (by decide)) (ik_ne k38 W.2.1 (by decide))
    have f39 := far (x + 39) 20 k39 (by decide) (ik_ne k39 W.1 (by decide)) (fun y => mh2.2.2 y.symm)
    obtain ⟨⟨g0, g1, g2, g3, g4, g5⟩, g6, g7, g8⟩ := r.1
    exact ⟨⟨by rw [f37, p1]; exact g0, by rw [f37, p1]; exact g1, by rw [f37, p1]; exact g2, by rw [f37, p1]; exact g3, by rw [f37, p1]; exact g4, by rw [f37, p1]; exact g5⟩, fun s h1 h2 => by rw [f38, q2 11 (by decide) (by decide) (by decide) (by decide) (by decide)]; rw [p1] at h2; exact g6 s h1 h2, fun s h1 => by rw [f39, q2 12 (by decide) (by decide) (by decide) (by decide) (by decide)]; exact g7 s h1, by rw [p1, q2 11 (by decide) (by decide) (by decide) (by decide) (by decide)]; exact g8⟩
  · rw [eN]
    refine ⟨(r.2.1 g hg).1, fun i hi => ?_⟩
    have l : hL H g i := ⟨hg, by have := (r.2.1 g hg).1; omega⟩
    have mo := (r.2.1 g hg).2 i hi
    have kz := a.m3 (gD_mem hi)
    have u4 := (h.1.2.2.2.2.1 g i l).2.1.2
    rw [eM]
    by_cases zt : g = 0 ∧ i = k
    · obtain ⟨rfl, rfl⟩ := zt
      have nfc := nf 0 i lt trivial
      rw [emq]
      have b1 := wt.2.1
      have b2 := wm.2.1
      have b3 := wm.2.2
      have b4 := cc.2
      have q19t : H2.2 19 (hM H 0 i) = H.2 19 (hM H 0 i) + x6 := by rw [q19, upd_eq]
      have sx := iAdd (x := H.2 19 (hM H 0 i)) (y := x6) (by omega) (by omega)
      have mtx := mtt.2.2.2.1.2
      have mmx := mm.2.2.2.1.2
      refine mtt.te (by rw [p1]) (mo0 mq kmq (by rw [← emq]; exact nlM 0 i lt (Or.inl trivial))) (moj mq kmq 3 (by omega) (by omega) (Or.inr rfl)) (fun j h1 h2 h3 => unf 0 i lt nfc j h1 (by omega) h3) (fun s _ => q29 _) ?_ (fun n hn => ?_)
      · rw [nm (mq + 1) 6 W.1 (by decide), q19t]
        refine iEq.mpr ?_
        rw [d1, sx]
        omega
      · rw [q19t, sx] at hn
        rw [nm (mq + 2) 20 W.2.1 (by decide), q28]
        by_cases r1 : (n : Int) < (H.2 20 (hM H 0 (i + 1))).toInt
        · rw [d3 n r1, t1 n (by omega)]
          exact mtx n (by omega)
        · by_cases r2 : (n : Int) < (H.2 20 (hM H 0 (i + 1))).toInt + (H.2 19 (hM H 0 (i + 1))).toInt
          · obtain ⟨n', hn'⟩ : ∃ n', n = (H.2 20 (hM H 0 (i + 1))).toNatClampNeg + n' := ⟨n - (H.2 20 (hM H 0 (i + 1))).toNatClampNeg, by omega⟩
            rw [hn', d4 n' (by omega), t2 n' (by omega)]
            exact mmx n' (by omega)
          · obtain ⟨n', hn'⟩ : ∃ n' : Nat, (n : Int) = n' + x6.toInt := ⟨((n : Int) - x6.toInt).toNat, by omega⟩
            rw [d5 n' n (by omega) (by omega) (by omega), t3 n' n (by omega) (by omega) hn']
            exact mtx n' (by omega)
    · have nz : (T1 (rP x g)).getD i 0 ≠ mq := fun y => by
        have u := q_uniq a.ci (r.2.1.mem l) (r.2.1.mem lt) (y.trans emq.symm)
        exact zt ⟨rP_inj u.1, u.2⟩
      obtain ⟨w9, wx⟩ := w19 g i l zt
      have same : (∀ g', ¬ lM S1 T1 x g' ((T1 (rP x g)).getD i 0)) → ¬ fC B (H.2 31 k) (f_X11_top H).1 (H.2 20 (hM H 0 (k + 1))) (hC H g i) → mR S3 ((T1 (rP x g)).getD i 0) H2 (hM H g i) := fun nl nfc => by
        refine mo.cg (fun j hj => ?_) (by rw [p1]) (fun j h1 h2 => ?_) (fun n hn => wx n (by omega)) (fun s _ => q29 _)
        · by_cases j0 : j = 0
          · subst j0
            exact mo0 _ kz nl
          · exact moj _ kz j (by omega) hj (Or.inl nz)
        · by_cases j19 : j = 19
          · rw [j19]
            exact w9
          · exact unf g i l nfc j h1 (by omega) j19
      by_cases tt : hT H g
      · exact same (nlM g i l (Or.inl tt)) (nf g i l tt)
      · have i0' := lone0 h.1 l tt
        subst i0'
        by_cases le : 2 ≤ g ∧ H.2 27 (hM H g 0) ≠ 0
        · exact same (nlM g 0 l (Or.inr le)) (ltr g l tt le)
        · have L := isM g l tt le
          have C := d10 g _ L
          have R0 := c0 (hC H g 0) (inR g 0 l).1 (inR g 0 l).2
          have eh : (hC H g 0).toNatClampNeg = hM H g 0 := rfl
          rw [eh] at R0
          have lz := r.2.2.1.2.2.1 g hg l tt
          have fo : (giC S3 ((T1 (rP x g)).getD 0 0) 11 = H2.2 26 (hM H g 0)) → (H2.2 26 (hM H g 0) = 0 → giC S3 ((T1 (rP x g)).getD 0 0) 8 = H2.2 20 (hM H g 0) ∧ giC S3 ((T1 (rP x g)).getD 0 0) 9 = H2.2 21 (hM H g 0)) → (H.2 14 (hM H g 0) ≠ 2 → H.2 14 (hM H g 0) ≠ 3 → H2.2 20 (hM H g 0) = 0 ∧ H2.2 21 (hM H g 0) = 0 ∧ H2.2 26 (hM H g 0) = 0) → mR S3 ((T1 (rP x g)).getD 0 0) H2 (hM H g 0) := fun x1 x2 x3 => mo.fo (by rw [p1]) (hQ8 g 0 l) (fun j h1 h2 => moj _ kz j h1 h2 (Or.inl nz)) (fun j h1 h2 h3 h4 h5 => by
              by_cases j19 : j = 19
              · rw [j19]
                exact w9
              · rw [q2 j j19 h3 h4 h5 (by omega)]) wx (fun s _ => q29 _) u4 x1 x2 x3
          have both : ¬ fC B (H.2 31 k) (f_X11_top H).1 (H.2 20 (hM H 0 (k + 1))) (hC H g 0) → ¬ fcC S1 mq ((T1 (rP x g)).getD 0 0) (H.2 20 (hM H 0 (k + 1))) → mR S3 ((T1 (rP x g)).getD 0 0) H2 (hM H g 0) := fun nfc nfcC => by
            have y := R0.2.2 nfc
            have z := C.2.2 nfcC
            refine fo ?_ (fun o => ?_) (fun z1 z2 => ?_)
            · rw [z.2.2, y.2.2]
              exact mo.2.1.2
            · rw [y.2.2] at o
              rw [z.1, z.2.1, y.1, y.2.1]
              exact mo.2.2.1 o
            · rw [y.1, y.2.1, y.2.2]
              exact mo.2.2.2.2.2.2 z1 z2
          have am : f_Y4_amends S1 ((T1 (rP x g)).getD 0 0) = if H.2 14 (hM H g 0) = 2 ∨ H.2 14 (hM H g 0) = 3 then 1 else 0 := by
            unfold f_Y4_amends b_Y4_amends_16 b_Y4_amends_21
            rw [mo.1.1]
            by_cases k2 : H.2 14 (hM H g 0) = 2
            · rw [if_pos k2, if_pos (Or.inl k2)]
            · rw [if_neg k2]
              by_cases k3 : H.2 14 (hM H g 0) = 3
              · rw [if_pos k3, if_pos (Or.inr k3)]
              · rw [if_neg k3, if_neg (fun y => y.elim k2 k3)]
          by_cases k23 : H.2 14 (hM H g 0) = 2 ∨ H.2 14 (hM H g 0) = 3
          rotate_left
          · refine both (nk23 g 0 l (fun z => k23 (Or.inl z)) (fun z => k23 (Or.inr z))) (fun y => y.2.1 ?_)
            rw [am, if_neg k23]
          by_cases ld : H.2 25 (hM H g 0) = 0
          · exact both (fun y => (fB _ y).2.2.1 ld) (fun y => y.1 (lz.trans ld))
          by_cases ou : H.2 26 (hM H g 0) = 0
          · have fz := mo.2.2.1 ou
            have N4 := (n4 g l tt ld k23).2.2.1 0 k lt trivial
            rw [emq] at N4
            have iff1 : fcC S1 mq ((T1 (rP x g)).getD 0 0) (H.2 20 (hM H 0 (k + 1))) → fC B (H.2 31 k) (f_X11_top H).1 (H.2 20 (hM H 0 (k + 1))) (hC H g 0) := fun y => by
              refine fB' _ ⟨(h.1.2.1 g 0 l).2.2, fun e => ?_, ld, ou, N4.mp y.2.2.1, fun n hn e => ?_, by have := y.2.2.2; rw [fz.2] at this; exact this⟩
              · have e' : hM H g 0 = hM H 0 (k + 1) := by
                  show (hC H g 0).toNatClampNeg = _
                  rw [e, em]
                have := (h.1.d l lm e').1
                rw [this] at tt
                exact tt trivial
              · have e' : hM H 0 n = hM H g 0 := congrArg Int32.toNatClampNeg e
                have := (h.1.d ⟨by omega, hn⟩ l e').1
                rw [← this] at tt
                exact tt trivial
            have iff2 : fC B (H.2 31 k) (f_X11_top H).1 (H.2 20 (hM H 0 (k + 1))) (hC H g 0) → fcC S1 mq ((T1 (rP x g)).getD 0 0) (H.2 20 (hM H 0 (k + 1))) := fun y => by
              have w := fB _ y
              refine ⟨fun e => ld (lz.symm.trans e), by rw [am, if_pos k23]; decide, N4.mpr w.2.2.2.2.1, ?_⟩
              rw [fz.2]
              exact w.2.2.2.2.2.2
            by_cases F : fC B (H.2 31 k) (f_X11_top H).1 (H.2 20 (hM H 0 (k + 1))) (hC H g 0)
            · have Fc := iff2 F
              by_cases b' : H.2 20 (hM H g 0) < H.2 21 (hM H 0 (k + 1))
              · have y := R0.1 F b'
                have z := C.1 Fc (by rw [fz.1]; exact b')
                refine fo (by rw [z.2.2, y.2.2]) (fun o => ?_) (fun z1 z2 => absurd k23 (fun w => w.elim z1 z2))
                rw [y.2.2] at o
                exact absurd o (by decide)
              · have y := R0.2.1 F b'
                have z := C.2.1 Fc (by rw [fz.1]; exact b')
                refine fo (by rw [z.2.2, y.2.2]; exact mo.2.1.2) (fun o => ?_) (fun z1 z2 => absurd k23 (fun w => w.elim z1 z2))
                rw [z.1, z.2.1, y.1, y.2.1, fz.1, fz.2, e6]
                exact ⟨rfl, rfl⟩
            · exact both F (fun y => F (iff1 y))
          · have y := R0.2.2 (fun w => ou (fB _ w).2.2.2.1)
            have b11 : giC S1 ((T1 (rP x g)).getD 0 0) 11 = 1 := by
              rcases (a.ci.wf.w3 kz).2.2.1.2.2 with w | w
              · exact absurd (mo.2.1.2.symm.trans w) ou
              · exact w
            have z11 : giC S3 ((T1 (rP x g)).getD 0 0) 11 = 1 := by
              by_cases Fc : fcC S1 mq ((T1 (rP x g)).getD 0 0) (H.2 20 (hM H 0 (k + 1)))
              · by_cases b' : giC S1 ((T1 (rP x g)).getD 0 0) 8 < H.2 21 (hM H 0 (k + 1))
                · exact (C.1 Fc b').2.2
                · exact (C.2.1 Fc b').2.2.trans b11
              · exact (C.2.2 Fc).2.2.trans b11
            refine fo ?_ (fun o => ?_) (fun z1 z2 => absurd k23 (fun w => w.elim z1 z2))
            · rw [z11, y.2.2, ← b11]
              exact mo.2.1.2
            · rw [y.2.2] at o
              exact absurd o ou
  · rw [k5f _ (Or.inl rfl), p1]
    exact r.2.2.1.1
  · rw [k5f _ (Or.inr ⟨p, hp, rfl⟩), q2 34 (by decide) (by decide) (by decide) (by decide) (by decide), q2 37 (by decide) (by decide) (by decide) (by decide) (by decide), q2 27 (by decide) (by decide) (by decide) (by decide) (by decide), eM]
    exact r.2.2.1.2.1 p hp
  · have l' := (eL g 0).mp l
    rw [hQ8 g 0 l' 10 k10, eM, q2 25 (by decide) (by decide) (by decide) (by decide) (by decide)]
    exact r.2.2.1.2.2.1 g hg l' (mt (eT g).mpr tt)
  · have l' := (eL g 0).mp l
    rw [eM, q2 25 (by decide) (by decide) (by decide) (by decide) (by decide)]
    intro z
    rw [(un g 0 l' (fun w => (fB _ w).2.2.1 z)).2.2]
    exact r.2.2.1.2.2.2.1 g hg l' (mt (eT g).mpr tt) z
  · have l' := (eL g 0).mp l
    rw [eM, q2 25 (by decide) (by decide) (by decide) (by decide) (by decide), q2 27 (by decide) (by decide) (by decide) (by decide) (by decide)]
    exact r.2.2.1.2.2.2.2 g hg l' (mt (eT g).mpr tt)
  · refine r.2.2.2.1.cg (by rw [p1]) (by rw [p1]) (q2 40 (by decide) (by decide) (by decide) (by decide) (by decide)) (q2 41 (by decide) (by decide) (by decide) (by decide) (by decide)) (fun l hl => ?_) d8 (fun z => d9 z 6)
    obtain ⟨kl, kz⟩ := zl_k a.ci a.k1 hl
    have nd := dM_l a.ci a.k1 kmq r.2.2.2.1 hl
    exact ⟨far l 2 kl (by decide) (ik_ne kl W.1 (by decide)) (ik_ne kl W.2.1 (by decide)), d7 _ _, far _ 20 kz (by decide) (ik_ne kz W.1 (by decide)) (fun y => nd ⟨by omega, by omega⟩)⟩
  · have k11 : iK S1 (x + 11) 6 := w0.1.2.2.2.2.2.2
    have k12 : iK S1 (x + 12) 20 := (a.ci.wf.w6 k11).1.1
    exact r.2.2.2.2.1.1.cg (fx8 7) (fx8 9) (far _ 6 k11 (by decide) (fun y => mx1.2.2.2.2.1 y.symm) (ik_ne k11 W.2.1 (by decide)) 1) (far _ 20 k12 (by decide) (ik_ne k12 W.1 (by decide)) (fun y => mx2.2.2.2.2.2.1 y.symm)) (by rw [p1]) (by rw [p1]) (by rw [p1]) (by rw [p1]; exact Int.le_refl _) (q2 38 (by decide) (by decide) (by decide) (by decide) (by decide))
  · have kz' := d9 z 3 kz
    rw [vCn_cg (S1 := S1) (moj z kz' 3 (by omega) (by omega) (Or.inr rfl)), mo8 z kz' 14 ⟨by decide, by decide, by decide⟩]
    exact r.2.2.2.2.1.2.1 z kz'
  · rw [fx8]
    exact r.2.2.2.2.2.1
  · have l' := (eL g i).mp l
    have t' := (eT g).mp tt
    rw [hQ8 g i l' 0 k0, fx8, eM, q2 14 (by decide) (by decide) (by decide) (by decide) (by decide), (un g i l' (nf g i l' t')).2.2]
    exact r.2.2.2.2.2.2.1 g i l' t'
  · have l1 := (eL g i).mp l
    have l2 := (eL g' i').mp l'
    rw [hQ8 g i l1 0 k0] at z0
    rw [hQ8 g i l1 0 k0, hQ8 g' i' l2 0 k0] at z
    exact r.2.2.2.2.2.2.2.1 g i g' i' l1 ((eT g).mp tt) l2 ((eT g').mp tt') z0 z
  · have l' := (eL j 0).mp l
    rw [eM, q2 25 (by decide) (by decide) (by decide) (by decide) (by decide)] at d
    rw [eM, q2 14 (by decide) (by decide) (by decide) (by decide) (by decide)] at kd
    obtain ⟨z1, z2, z3, z4⟩ := n4 j l' (mt (eT j).mpr tt) d kd
    rw [hQ8 j 0 l' 1 k1, fx8, eM, q2 23 (by decide) (by decide) (by decide) (by decide) (by decide), p1]
    refine ⟨z1, z2, fun g i lg tg => ?_, fun g lg tg => ?_⟩
    · have lg' := (eL g i).mp lg
      rw [hQ8 g i lg' 0 k0, eM, q2 22 (by decide) (by decide) (by decide) (by decide) (by decide)]
      exact z3 g i lg' ((eT g).mp tg)
    · rw [eM, q2 22 (by decide) (by decide) (by decide) (by decide) (by decide)]
      exact z4 g ((eL g 0).mp lg) (mt (eT g).mpr tg)
end
end
section
/-! ===== a free place, in both; TABLE ===== -/
section
variable {wF : Prop × (Nat → Int32) × Int32 × (Nat → Int32)} {x : Nat} {S S1 S2 S3 S4 : Cst} {T T1 T2 T3 : Nat → List Nat} {F F1 : List Nat} {col c1 c2 c3 : Nat → Nat} {H H2 G R : HS} {N M M2 : Int} {v : Int32}
/-- the first free place -/
def fpl (H : HS) (p : Nat) : Prop := p < 8 ∧ H.2 34 p = 0 ∧ ∀ p', p' < p → H.2 34 p' ≠ 0
theorem fpl_ex : ∀ n, n ≤ 8 → (∃ p, p < n ∧ H.2 34 p = 0) → ∃ p, fpl H p ∧ p < n := by
  intro n
  induction n with
  | zero => intro _ ⟨p, h, _⟩; omega
  | succ n ih =>
    intro hn ⟨p, hp, z⟩
    by_cases y : ∃ p, p < n ∧ H.2 34 p = 0
    · obtain ⟨q, a, b⟩ := ih (by omega) y
      exact ⟨q, a, by omega⟩
    · refine ⟨p, ⟨by omega, z, fun p' h' z' => y ⟨p', by omega, z'⟩⟩, hp⟩
theorem free_w {p : Nat} (f : fpl H p) : ∀ (n : Nat) (b : Int32), 0 ≤ b.toInt → b.toInt ≤ p → 8 - b.toInt < n → (lp_X11_free_2 n H b).1.toInt = p ∧ (lp_X11_free_2 n H b).2 = H := by
  have e8 : (8 : Int32).toInt = 8 := by decide
  obtain ⟨p8, z, lt⟩ := f
  intro n
  induction n with
  | zero => intro b h1 h2 h3; omega
  | succ n ih =>
    intro b h1 h2 h3
    rw [lp_X11_free_2]
    unfold st_X11_free_2
    have k := iNat h1
    rw [if_neg (fun y => by have := iLe.mp y; rw [e8] at this; omega)]
    by_cases y : b.toNatClampNeg = p
    · rw [y, if_pos z]
      refine ⟨?_, rfl⟩
      show b.toInt = _
      omega
    · rw [if_neg (lt _ (by omega))]
      have e := iAdd (x := b) (y := 1) (by rw [i1]; omega) (by rw [i1]; omega)
      rw [i1] at e
      exact ih (b + 1) (by omega) (by omega) (by omega)
theorem free_W {p : Nat} (f : fpl H p) : (f_X11_free H).1.toInt = p ∧ (f_X11_free H).2 = H := free_w f 100000 0 (by rw [i0]; omega) (by rw [i0]; omega) (by rw [i0]; omega)
theorem first_w (wf : wfS S1) (kx : iK S1 x 0) {p : Nat} (p8 : p < 8) (z : giC S1 (x + 13 + 3 * p) 0 = 0) (lt : ∀ p', p' < p → giC S1 (x + 13 + 3 * p') 0 ≠ 0) : ∀ (n : Nat) (b : Int32), 0 ≤ b.toInt → b.toInt ≤ p → 8 - b.toInt < n → lp_Y0_firstFreePlace_2 S1 x n b = some (x + 13 + 3 * p) := by
  intro n
  induction n with
  | zero => intro b h1 h2 h3; omega
  | succ n ih =>
    intro b h1 h2 h3
    rw [lp_Y0_firstFreePlace_2, st_first wf kx h1 (by omega)]
    have k := iNat h1
    by_cases y : b.toNatClampNeg = p
    · rw [y, if_pos z]
    · rw [if_neg (lt _ (by omega))]
      have e := iAdd (x := b) (y := 1) (by rw [i1]; omega) (by rw [i1]; omega)
      rw [i1] at e
      exact ih (b + 1) (by omega) (by omega) (by omega)
/-- the first free place, in both -/
theorem first_V (a : AS x S T col S1 T1 c1) (r : RR wF N S1 T1 x H) {p : Nat} (f : fpl H p) : f_Y0_firstFreePlace S1 x = some (x + 13 + 3 * p) ∧ giC S1 (x + 13 + 3 * p) 0 = 0 := by
  obtain ⟨p8, z, lt⟩ := f
  have so := r.2.2.1.2.1
  have z' := (so p p8).1 z
  refine ⟨first_w a.ci.wf a.k1 p8 z' (fun p' hp' y => ?_) 100000 0 (by rw [i0]; omega) (by rw [i0]; omega) (by rw [i0]; omega), z'⟩
  have w := (so p' (by omega)).2 (lt p' hp')
  rw [y] at w
  by_cases a : H.2 37 p' = 0
  · rw [if_pos a] at w
    by_cases b : H.2 27 (hM H (p' + 2) 0) = 0
    · rw [if_pos b] at w
      exact absurd w (by decide)
    · rw [if_neg b] at w
      exact absurd w (by decide)
  · rw [if_neg a] at w
    exact absurd w (by decide)
/-- rows behind tabling -/
theorem tabRows {p : Nat} (hp : p < 8) {u : Nat → Int32} (q34 : ∀ p', H2.2 34 p' = upd (H.2 34) p (H.1 6) p') (q37 : ∀ p', H2.2 37 p' = upd (H.2 37) p 1 p') (q33 : H2.2 33 = u) (q32 : H2.2 32 = H.2 32) (q31 : H2.2 31 = H.2 31) (q6 : H2.1 6 = 0) (q36 : H2.1 36 = H.1 36) (q35 : H2.1 35 = H.1 35) (h9 : (H.1 6).toInt ≤ 9) (u1 : ∀ i : Nat, (i : Int) < (H.1 6).toInt → u (9 * p + i) = H.2 31 i) (u2 : ∀ j : Nat, (j : Int) < 9 * (p : Int) ∨ 9 * (p : Int) + (H.1 6).toInt ≤ j → u j = H.2 33 j) :
    hN H2 0 = 0 ∧ hN H2 (p + 2) = hN H 0 ∧ (∀ g, g ≠ 0 → g ≠ p + 2 → hN H2 g = hN H g) ∧ (∀ i : Nat, (i : Int) < hN H 0 → hM H2 (p + 2) i = hM H 0 i) ∧ (∀ g i, g ≠ p + 2 → i < 9 → hM H2 g i = hM H g i) ∧ hT H2 (p + 2) ∧ ∀ g, g ≠ p + 2 → (hT H2 g ↔ hT H g) := by
  refine ⟨?_, ?_, fun g n1 n2 => ?_, fun i hi => ?_, fun g i n hi => ?_, ?_, fun g n => ?_⟩
  · show (H2.1 6).toInt = 0
    rw [q6]
    rfl
  · show (H2.2 34 p).toInt = (H.1 6).toInt
    rw [q34, upd_eq]
  · match g, n1 with
    | 1, _ => show (H2.1 35).toInt = _; rw [q35]; rfl
    | p' + 2, _ => show (H2.2 34 p').toInt = (H.2 34 p').toInt; rw [q34, upd_ne (by omega)]
  · show (H2.2 33 (9 * p + i)).toNatClampNeg = (H.2 31 i).toNatClampNeg
    rw [q33, u1 i hi]
  · unfold hM
    match g with
    | 0 => show (H2.2 31 i).toNatClampNeg = _; rw [q31]; rfl
    | 1 => show (H2.2 32 i).toNatClampNeg = _; rw [q32]; rfl
    | p' + 2 =>
      show (H2.2 33 (9 * p' + i)).toNatClampNeg = (H.2 33 (9 * p' + i)).toNatClampNeg
      rw [q33, u2 _ (by omega)]
  · show H2.2 37 p ≠ 0
    rw [q37, upd_eq]
    decide
  · match g with
    | 0 => exact Iff.rfl
    | 1 => show H2.1 36 ≠ 0 ↔ H.1 36 ≠ 0; rw [q36]
    | p' + 2 =>
      show H2.2 37 p' ≠ 0 ↔ H.2 37 p' ≠ 0
      rw [q37, upd_ne (by omega)]
/-- the pending ones are put upon a place -/
theorem tab_B (a : AS x S T col S1 T1 c1) (r : RR wF N S1 T1 x H) (h : HI M H) (z6 : ¬ H.1 6 = 0) {p : Nat} (hp : p < 8) (z0 : H.2 34 p = 0) {u : Nat → Int32} (q1 : ∀ j, j ≠ 6 → H2.1 j = H.1 j) (q6 : H2.1 6 = 0) (q2 : ∀ k, k ≠ 33 → k ≠ 34 → k ≠ 37 → H2.2 k = H.2 k) (q34 : ∀ p', H2.2 34 p' = upd (H.2 34) p (H.1 6) p') (q37 : ∀ p', H2.2 37 p' = upd (H.2 37) p 1 p') (q33 : H2.2 33 = u) (u1 : ∀ i : Nat, (i : Int) < (H.1 6).toInt → u (9 * p + i) = H.2 31 i) (u2 : ∀ j : Nat, (j : Int) < 9 * (p : Int) ∨ 9 * (p : Int) + (H.1 6).toInt ≤ j → u j = H.2 33 j) (hc2 : HC M2 H2) : ∃ S3 T3, f_Y5_pourInto (siC S1 (x + 13 + 3 * p) 0 3) (x + 1) (x + 13 + 3 * p + 1) = (0, S3) ∧ Sst noE x S T [] col S3 T3 [] c1 ∧ RR wF N S3 T3 x H2 := by
  have o : pl x (x + 13 + 3 * p) := Or.inr ⟨p, hp, rfl⟩
  have b6 := h.ra.2.1
  have z6' := mt iEq.mpr z6
  rw [i0] at z6'
  have e06 : hN H 0 = (H.1 6).toInt := rfl
  have l0 := r.2.1 (p + 2) (by omega)
  have eT0 : T1 (x + 13 + 3 * p + 1) = [] := by
    have e0 : hN H (p + 2) = (H.2 34 p).toInt := rfl
    rw [e0, z0, i0] at l0
    exact List.length_eq_zero_iff.mp (by have := l0.1; rw [rP_p] at this; omega)
  have g := a.1.sort o 3
  have ln := (r.2.1 0 (by omega)).1
  have ln : ((T1 (x + 1)).length : Int) = (H.1 6).toInt := ln
  obtain ⟨-, S3, T3, f1, f2, f3, f4, f5, f6⟩ := y_pour noE_n g (P := x + 1) (Q := x + 13 + 3 * p + 1) (Or.inr (Or.inl rfl)) (by omega) o.o.1 o.o.2.1 (by omega) (by rw [eT0]; simp; omega)
  obtain ⟨r1, r2, r3, r4, r5, r6, r7⟩ := tabRows hp q34 q37 q33 (q2 32 (by decide) (by decide) (by decide)) (q2 31 (by decide) (by decide) (by decide)) q6 (q1 36 (by decide)) (q1 35 (by decide)) (by omega) u1 u2
  have G : gX (D5 x S3.1) S1 S3 := ((gX.si S1 (x + 13 + 3 * p) 0 3).mo (fun z y => Or.inr (by rw [y]; exact o))).tr (f3.x (D := D5 x S3.1))
  have n31 : S3.1 = S1.1 := f3.2.2.2
  obtain ⟨⟨K1, K2, K3, K4⟩, K8, Kc⟩ := frD (H2 := H2) r a.ci a.k1 G f2.ci.wf (Or.inr (Nat.le_refl _)) (fun z k => Or.inr (ik_b k G.1 n31)) (fun k => absurd k.1 (Nat.lt_irrefl _)) (fun k h1 h2 => q1 k h2) (q1 39 (by decide)) ⟨q2 11 (by decide) (by decide) (by decide), q2 12 (by decide) (by decide) (by decide), q2 38 (by decide) (by decide) (by decide), q2 40 (by decide) (by decide) (by decide), q2 41 (by decide) (by decide) (by decide)⟩
  have st : ∀ d, pl x d → giC S3 d 0 = if d = x + 13 + 3 * p then 3 else giC S1 d 0 := fun d od => by
    have k5 := pl.lt g.ci g.k1 od
    rw [f3.2.1 d k5.1 (by rw [k5.2]; decide), gi_si]
    by_cases y : d = x + 13 + 3 * p
    · rw [if_pos ⟨y, rfl⟩, if_pos y]
    · rw [if_neg (fun w => y w.1), if_neg y]
  have eTp : T3 (rP x (p + 2)) = T1 (rP x 0) := by
    show T3 (x + 13 + 3 * p + 1) = T1 (x + 1)
    rw [f5, eT0]
    rfl
  have eTz : T3 (rP x 0) = [] := f4
  have eTo : ∀ g, g ≠ 0 → g ≠ p + 2 → T3 (rP x g) = T1 (rP x g) := fun g n1 n2 => f6 _ (fun y => n1 (rP_inj (x := x) (g := g) (g' := 0) y)) (fun y => n2 (rP_inj (x := x) (g := g) (g' := p + 2) y))
  refine ⟨S3, T3, f1, f2, r.ex (gs := 10) (is := 0) h.1 hc2 K1 K2 K3 K4 (q1 0 (by decide)) (fun g' hg => ?_) ?_ (fun p' hp' => ?_) ⟨by rw [K8]; exact Int.le_refl _, by rw [K8]; exact r.2.2.2.2.2.1.2⟩ (fun s h1 h2 => by rw [q1 30 (by decide)]; omega) (fun g' i l n => ?_) (fun l => absurd l.1 (by omega)) (fun l => absurd l.1 (by omega)) (fun l => absurd l.1 (by omega)) (fun l => absurd l.1 (by omega)) (fun l => absurd l.1 (by omega))⟩
  · by_cases y1 : g' = 0
    · rw [y1, eTz, r1]
      rfl
    · by_cases y2 : g' = p + 2
      · rw [y2, eTp, r2]
        exact (r.2.1 0 (by omega)).1
      · rw [eTo g' y1 y2, r3 g' y1 y2]
        exact (r.2.1 g' hg).1
  · rw [st _ (Or.inl rfl), if_neg (by omega), q1 35 (by decide), q1 36 (by decide)]
    exact r.2.2.1.1
  · rw [st _ (Or.inr ⟨p', hp', rfl⟩), q34, q37]
    by_cases y : p' = p
    · subst y
      rw [if_pos rfl, upd_eq, upd_eq]
      exact ⟨fun w => absurd w z6, fun _ => by rw [if_neg (by decide)]⟩
    · rw [if_neg (by omega), upd_ne y, upd_ne y, r5 (p' + 2) 0 (by omega) (by omega), q2 27 (by decide) (by decide) (by decide)]
      exact r.2.2.1.2.1 p' hp'
  · have fin : ∀ g2 i', hL H g2 i' → hM H2 g' i = hM H g2 i' → (hT H2 g' ↔ hT H g2) → (¬ hT H g2 → 2 ≤ g2 → 2 ≤ g') → T3 (rP x g') = T1 (rP x g2) → i = i' → ∃ g2 i', oM S1 S3 T1 T3 x H H2 g' i g2 i' := fun g2 i' l' m' t' h2 e' ei => by
      have k := a.ci.tk _ _ (gD_mem (r.2.1.mem l'))
      refine ⟨g2, i', l', m', t', h2, by rw [e', ei], Kc _ k.1 (fun y => by have := k.1.1; have := G.1.1.1; omega), fun k h1 h2 => by rw [q2 k (by omega) (by omega) (by omega)], fun _ => by rw [q2 27 (by decide) (by decide) (by decide)], fun n _ => by rw [q2 28 (by decide) (by decide) (by decide)], fun n _ => by rw [q2 29 (by decide) (by decide) (by decide)]⟩
    by_cases y1 : g' = 0
    · have := l.2
      rw [y1, r1] at this
      omega
    · by_cases y2 : g' = p + 2
      · have l2 := l.2
        rw [y2, r2] at l2
        exact fin 0 i ⟨by omega, l2⟩ (by rw [y2]; exact r4 i l2) (by rw [y2]; exact ⟨fun _ => trivial, fun _ => r6⟩) (fun t => absurd trivial t) (by rw [y2]; exact eTp) rfl
      · have l2 := l.2
        rw [r3 g' y1 y2] at l2
        have b9 := (h.1.1 g' l.1).2.1
        exact fin g' i ⟨l.1, l2⟩ (r5 g' i y2 (by omega)) (r7 g' y2) (fun _ => id) (eTo g' y1 y2) rfl
end
end
section
/-! ===== COMMIT, POSTPONE ===== -/
section
variable {wF : Prop × (Nat → Int32) × Int32 × (Nat → Int32)} {x : Nat} {S S1 S2 S3 S4 : Cst} {T T1 T2 T3 : Nat → List Nat} {F F1 : List Nat} {col c1 c2 c3 : Nat → Nat} {H H2 G R : HS} {N M M2 : Int} {v w3 w4 f25 f27 m : Int32} {p : Nat}
theorem car4_w (x1 x2 : Int32) : ∀ (n : Nat) (S : HS), 1 ≤ (S.1 6).toInt → (S.1 6).toInt ≤ 9 → (S.1 6).toInt < n + 1 → fpl S p → ∃ S' pp, lp_X11_carried_257 n S x1 x2 = b_X11_carried_a283 S' x1 x2 (S'.2 31 0) pp ∧ pp.toInt = p ∧ (∀ j, j ≠ 6 → S'.1 j = S.1 j) ∧ ∀ k, k ≠ 13 → S'.2 k = S.2 k := by
  intro n
  induction n with
  | zero => intro S h1 h9 h2; omega
  | succ n ih =>
    intro S h1 h9 h2 f
    rw [lp_X11_carried_257]
    unfold st_X11_carried_257 b_X11_carried_a269
    by_cases c : S.1 6 ≤ 1
    · rw [if_pos c]
      obtain ⟨a, b⟩ := free_W f
      rw [b, zn0]
      exact ⟨S, _, rfl, a, fun _ _ => rfl, fun _ _ => rfl⟩
    · rw [if_neg c]
      have c := mt iLe.mpr c
      rw [i1] at c
      have e6 := iSub (x := S.1 6) (y := 1) (by rw [i1]; omega) (by rw [i1]; omega)
      rw [i1] at e6
      have ge := goes_e S
      generalize (f_X11_goes S).2 = G at ge ⊢
      have g6 : G.1 6 = S.1 6 - 1 := by rw [ge]; rfl
      have g34 : G.2 34 = S.2 34 := by rw [ge]; rfl
      obtain ⟨S', pp, e, a, b, d⟩ := ih G (by rw [g6]; omega) (by rw [g6]; omega) (by rw [g6]; omega) (by unfold fpl; rw [g34]; exact f)
      refine ⟨S', pp, e, a, fun j y => ?_, fun k y => ?_⟩
      · rw [b j y, ge]
        exact if_neg y
      · rw [d k y, ge]
        exact if_neg y
/-- what a motion that is put upon a place alone leaves -/
def uR (H R : HS) (m : Int32) (p : Nat) (w3 w4 f25 f27 : Int32) : Prop :=
  (R.1 6 = 0 ∧ R.1 30 = H.1 30 + 1 ∧ ∀ j, j ≠ 6 → j ≠ 30 → R.1 j = H.1 j) ∧
  (R.2 33 = upd (H.2 33) (9 * p) m ∧ R.2 34 = upd (H.2 34) p 1 ∧ R.2 37 = upd (H.2 37) p 0) ∧
  (∀ k, k < 13 ∨ k = 14 ∨ k = 19 ∨ k = 20 ∨ k = 21 ∨ k = 23 ∨ k = 26 ∨ k = 28 ∨ k = 31 ∨ k = 32 ∨ k = 38 ∨ k = 40 ∨ k = 41 → R.2 k = H.2 k) ∧
  (∀ k i, 14 ≤ k → k ≤ 27 → i ≠ m.toNatClampNeg → R.2 k i = H.2 k i) ∧
  (R.2 15 m.toNatClampNeg = w3 ∧ R.2 16 m.toNatClampNeg = w4 ∧ R.2 17 m.toNatClampNeg = 0 ∧ R.2 18 m.toNatClampNeg = 0 ∧ R.2 24 m.toNatClampNeg = 0 ∧ R.2 25 m.toNatClampNeg = f25 ∧ R.2 27 m.toNatClampNeg = f27 ∧ R.2 22 m.toNatClampNeg = H.1 30 + 1) ∧
  (∀ s, s < 200 → R.2 29 (200 * m.toNatClampNeg + s) = 2) ∧ ∀ n i, n ≠ m.toNatClampNeg → i < 200 → R.2 29 (200 * n + i) = H.2 29 (200 * n + i)
/-- as far as the anew -/
theorem uR_0 (hm : 0 ≤ m.toInt ∧ m.toInt < 90) {S' : HS} (h1 : ∀ j, j ≠ 6 → S'.1 j = H.1 j) (h2 : ∀ k, k ≠ 13 → S'.2 k = H.2 k) : ∃ Z, (f_X11_anew (sI (sA (sA (sA S' 33 (9 * p) m) 34 p 1) 37 p (vp_nar .boolean 0)) 6 0) m).2 = Z ∧ uR H Z m p (H.2 15 m.toNatClampNeg) (H.2 16 m.toNatClampNeg) (H.2 25 m.toNatClampNeg) (H.2 27 m.toNatClampNeg) := by
  obtain ⟨D, hD⟩ : ∃ D, D = sI (sA (sA (sA S' 33 (9 * p) m) 34 p 1) 37 p (vp_nar .boolean 0)) 6 0 := ⟨_, rfl⟩
  rw [← hD]
  have d6 : D.1 6 = 0 := by rw [hD]; rfl
  have d1 : ∀ j, j ≠ 6 → D.1 j = H.1 j := fun j y => by
    rw [hD]
    show (if j = 6 then _ else S'.1 j) = _
    rw [if_neg y]
    exact h1 j y
  have d33 : D.2 33 = upd (H.2 33) (9 * p) m := by
    rw [hD, ← h2 33 (by decide)]
    rfl
  have d34 : D.2 34 = upd (H.2 34) p 1 := by
    rw [hD, ← h2 34 (by decide)]
    rfl
  have d37 : D.2 37 = upd (H.2 37) p 0 := by
    rw [hD, ← h2 37 (by decide)]
    rfl
  have d2 : ∀ k, k ≠ 13 → k ≠ 33 → k ≠ 34 → k ≠ 37 → D.2 k = H.2 k := fun k a b c d => by
    rw [hD]
    show (if k = 37 then _ else if k = 34 then _ else if k = 33 then _ else S'.2 k) = _
    rw [if_neg d, if_neg c, if_neg b]
    exact h2 k a
  clear hD
  obtain ⟨u, q1, q2, q3⟩ := anew_vv hm D
  rw [zn0] at q2 q3
  refine ⟨_, rfl, ?_⟩
  rw [q1]
  have o : ∀ k, k ≠ 29 → k ≠ 22 → k ≠ 17 → k ≠ 18 → k ≠ 24 → (sR (aN D m) 29 u).2 k = D.2 k := fun k a b c d e => by
    show (if k = 29 then u else if k = 24 then _ else if k = 18 then _ else if k = 17 then _ else if k = 22 then _ else D.2 k) = _
    rw [if_neg a, if_neg e, if_neg d, if_neg c, if_neg b]
  refine ⟨⟨?_, ?_, fun j a b => ?_⟩, ⟨?_, ?_, ?_⟩, fun k hk => ?_, fun k i a b n => ?_, ⟨?_, ?_, ?_, ?_, ?_, ?_, ?_, ?_⟩, fun s hs => ?_, fun n i hn hi => ?_⟩
  · exact d6
  · show D.1 30 + 1 = _
    rw [d1 30 (by decide)]
  · show (if j = 30 then _ else D.1 j) = _
    rw [if_neg b]
    exact d1 j a
  · rw [o 33 (by decide) (by decide) (by decide) (by decide) (by decide)]
    exact d33
  · rw [o 34 (by decide) (by decide) (by decide) (by decide) (by decide)]
    exact d34
  · rw [o 37 (by decide) (by decide) (by decide) (by decide) (by decide)]
    exact d37
  · rw [o k (by omega) (by omega) (by omega) (by omega) (by omega)]
    exact d2 k (by omega) (by omega) (by omega) (by omega)
  · have e : (sR (aN D m) 29 u).2 k i = D.2 k i := by
      by_cases y : k = 17 ∨ k = 18 ∨ k = 22 ∨ k = 24
      · rcases y with rfl | rfl | rfl | rfl <;> exact if_neg n
      · rw [o k (by omega) (by omega) (by omega) (by omega) (by omega)]
    rw [e, d2 k (by omega) (by omega) (by omega) (by omega)]
  · rw [o 15 (by decide) (by decide) (by decide) (by decide) (by decide), d2 15 (by decide) (by decide) (by decide) (by decide)]
  · rw [o 16 (by decide) (by decide) (by decide) (by decide) (by decide), d2 16 (by decide) (by decide) (by decide) (by decide)]
  · exact if_pos rfl
  · exact if_pos rfl
  · exact if_pos rfl
  · rw [o 25 (by decide) (by decide) (by decide) (by decide) (by decide), d2 25 (by decide) (by decide) (by decide) (by decide)]
  · rw [o 27 (by decide) (by decide) (by decide) (by decide) (by decide), d2 27 (by decide) (by decide) (by decide) (by decide)]
  · rw [← d1 30 (by decide)]
    exact if_pos rfl
  · exact q2 s (Nat.zero_le _) hs
  · have e : (sR (aN D m) 29 u).2 29 (200 * n + i) = (aN D m).2 29 (200 * n + i) := q3 _ (fun s _ hs y => hn (by omega))
    rw [e]
    show D.2 29 (200 * n + i) = _
    rw [d2 29 (by decide) (by decide) (by decide) (by decide)]
/-- flags -/
theorem uR.s {Z : HS} (h : uR H Z m p w3 w4 f25 f27) (a b : Int32) : uR H (sA (sA Z 25 m.toNatClampNeg a) 27 m.toNatClampNeg b) m p w3 w4 a b := by
  obtain ⟨a1, a2, a3, a4, ⟨b1, b2, b3, b4, b5, b6, b7, b8⟩, a5, a6⟩ := h
  have o : ∀ k, k ≠ 25 → k ≠ 27 → (sA (sA Z 25 m.toNatClampNeg a) 27 m.toNatClampNeg b).2 k = Z.2 k := fun k y z => by
    show (if k = 27 then _ else if k = 25 then _ else Z.2 k) = _
    rw [if_neg z, if_neg y]
  refine ⟨a1, ⟨a2.1, a2.2.1, a2.2.2⟩, fun k hk => (o k (by omega) (by omega)).trans (a3 k hk), fun k i y z n => ?_, ⟨b1, b2, b3, b4, b5, if_pos rfl, if_pos rfl, b8⟩, a5, a6⟩
  by_cases y1 : k = 25
  · subst y1
    exact (if_neg n).trans (a4 25 i y z n)
  · by_cases y2 : k = 27
    · subst y2
      exact (if_neg n).trans (a4 27 i y z n)
    · rw [o k y1 y2]
      exact a4 k i y z n
theorem uR.t {Z : HS} (h : uR H Z m p w3 w4 f25 f27) (a b : Int32) : uR H (sA (sA Z 15 m.toNatClampNeg a) 16 m.toNatClampNeg b) m p a b f25 f27 := by
  obtain ⟨a1, a2, a3, a4, ⟨b1, b2, b3, b4, b5, b6, b7, b8⟩, a5, a6⟩ := h
  have o : ∀ k, k ≠ 15 → k ≠ 16 → (sA (sA Z 15 m.toNatClampNeg a) 16 m.toNatClampNeg b).2 k = Z.2 k := fun k y z => by
    show (if k = 16 then _ else if k = 15 then _ else Z.2 k) = _
    rw [if_neg z, if_neg y]
  refine ⟨a1, ⟨a2.1, a2.2.1, a2.2.2⟩, fun k hk => (o k (by omega) (by omega)).trans (a3 k hk), fun k i y z n => ?_, ⟨if_pos rfl, if_pos rfl, b3, b4, b5, b6, b7, b8⟩, a5, a6⟩
  by_cases y1 : k = 15
  · subst y1
    exact (if_neg n).trans (a4 15 i y z n)
  · by_cases y2 : k = 16
    · subst y2
      exact (if_neg n).trans (a4 16 i y z n)
    · rw [o k y1 y2]
      exact a4 k i y z n
/-- the reference, whole -/
theorem car4_v (h : HI M H) (z6 : 1 ≤ (H.1 6).toInt) (f : fpl H p) (x1 : Int32) : (∃ R, (lp_X11_carried_257 100000 H x1 4).2 = R ∧ uR H R (H.2 31 0) p (-1) (-1) 0 1) ∧ ∃ R, (lp_X11_carried_257 100000 H x1 5).2 = R ∧ uR H R (H.2 31 0) p (H.2 15 (hM H 0 0)) (H.2 16 (hM H 0 0)) 1 0 := by
  have b6 := h.ra.2.1
  have l0 : hL H 0 0 := ⟨by omega, by show ((0 : Nat) : Int) < (H.1 6).toInt; omega⟩
  have w := h.1.2.1 0 0 l0
  have w : 0 ≤ (H.2 31 0).toInt ∧ (H.2 31 0).toInt < 90 := ⟨w.1, w.2.1⟩
  have p8 := f.1
  have main : ∀ x2 : Int32, ∃ Z, (lp_X11_carried_257 100000 H x1 x2).2 = (b_X11_carried_a322 Z x1 x2 (H.2 31 0) (Int32.ofNat p)).2 ∧ uR H Z (H.2 31 0) p (H.2 15 (hM H 0 0)) (H.2 16 (hM H 0 0)) (H.2 25 (hM H 0 0)) (H.2 27 (hM H 0 0)) := fun x2 => by
    obtain ⟨S', pp, e, ep, a, b⟩ := car4_w x1 x2 100000 H z6 b6.2 (by omega) f
    have kp := iNat (x := pp) (by omega)
    have e9 : (9 : Int32).toInt = 9 := by decide
    have e9p := iMul (x := 9) (y := pp) (n := 9 * pp.toInt) (by rw [e9]) (by omega) (by omega)
    have k9 := iNat (x := 9 * pp) (by omega)
    have epp : pp.toNatClampNeg = p := by omega
    have e9n : (9 * pp).toNatClampNeg = 9 * p := by omega
    obtain ⟨Z, e2, hz⟩ := uR_0 (p := p) w a b
    rw [e, b 31 (by decide)]
    unfold b_X11_carried_a283
    rw [epp, e9n, e2]
    exact ⟨Z, rfl, hz⟩
  refine ⟨?_, ?_⟩
  · obtain ⟨Z, e, hz⟩ := main 4
    rw [e]
    exact ⟨_, rfl, (hz.s 0 1).t (-1) (-1)⟩
  · obtain ⟨Z, e, hz⟩ := main 5
    rw [e]
    exact ⟨_, rfl, hz.s 1 0⟩
/-- the class's half: one motion, kept as a text, upon a place -/
theorem put_B (a : AS x S T col S1 T1 c1) (r : RR wF N S1 T1 x H) (h : HI M H) (bN : N ≤ 1000000) (fp : fpl H p) (z6 : 1 ≤ (H.1 6).toInt) {q0 : Nat} {l : List Nat} (tT : T1 (x + 1) = q0 :: l) (f3 : gF S1 S2) (f4 : T2 (x + 1) = []) (f5 : ∀ c, c ≠ x + 1 → c ≠ x → T2 c = T1 c) (g2 : Sst noE x S T [] col S3 T2 [q0] c1) (G3 : gX (dM q0) S2 S3) (n3 : S3.1 = S2.1) (kq : iK S3 q0 3) (u : uR H R (H.2 31 0) p w3 w4 f25 f27) (nb : (giC S3 q0 2 = 1 ∧ giC S3 q0 3 = w3 ∧ giC S3 q0 4 = w4 ∧ giC S3 q0 5 = 0 ∧ giC S3 q0 6 = 0) ∧ (giC S3 q0 7 = 0 ∧ giC S3 q0 8 = 0 ∧ giC S3 q0 9 = 0 ∧ giC S3 q0 11 = 0) ∧ giC S3 q0 10 = f25 ∧ (∀ s, s < 200 → giC S3 (q0 + 3) s = 0) ∧ (giC S3 q0 14).toInt = 0 ∧ ∀ j i, (j = 1 ∨ j = 2) → giC S3 (q0 + j) i = giC S2 (q0 + j) i) (hv : v = if f27 = 0 then 2 else 1) (hf : f27 ≠ 0 → f25 = 0) (hc2 : HC M2 R) : ∃ S4 T4, f_Y6_hold S3 (x + 13 + 3 * p) v (some q0) = (0, S4) ∧ Sst noE x S T [] col S4 T4 [] c1 ∧ RR wF (N + 1) S4 T4 x R := by
  obtain ⟨hp, z0, -⟩ := fp
  have o : pl x (x + 13 + 3 * p) := Or.inr ⟨p, hp, rfl⟩
  have b6 := h.ra.2.1
  have e0p : hN H (p + 2) = (H.2 34 p).toInt := rfl
  have eT0 : T1 (x + 13 + 3 * p + 1) = [] := by
    have l0 := (r.2.1 (p + 2) (by omega)).1
    rw [e0p, z0, i0, rP_p] at l0
    exact List.length_eq_zero_iff.mp (by omega)
  have eT2 : T2 (x + 13 + 3 * p + 1) = [] := by rw [f5 _ (by omega) (by omega)]; exact eT0
  obtain ⟨-, S4, t1, t2, t3, t4⟩ := y_hold g2 v o (noE_n _) (by rw [eT2]; decide)
  have n4 := n1_hold g2 v o (noE_n _) (by rw [eT2]; decide) t1
  have n2 : S2.1 = S1.1 := f3.2.2.2
  have kq4 : iK S4 q0 3 := kq.n t3.1
  have L0 : hL H 0 0 := ⟨by omega, by show ((0 : Nat) : Int) < (H.1 6).toInt; omega⟩
  have em : (H.2 31 0).toNatClampNeg = hM H 0 0 := rfl
  have eq0 : (T1 (rP x 0)).getD 0 0 = q0 := by
    show (T1 (x + 1)).getD 0 0 = q0
    rw [tT]
    rfl
  have kq1 : iK S1 q0 3 := a.m3 (c := x + 1) (by rw [tT]; exact List.mem_cons_self ..)
  have ci3 : CI noE S3 T2 [q0] c1 := g2.ci
  obtain ⟨⟨u6, u30, u1⟩, ⟨u33, u34, u37⟩, ur, uo, ⟨u15, u16, u17, u18, u24, u25, u27, u22⟩, u29, u29o⟩ := u
  rw [em] at uo u15 u16 u17 u18 u24 u25 u27 u22 u29 u29o
  have cq : ∀ j, j < 4 → ∀ i, giC S4 (q0 + j) i = giC S3 (q0 + j) i := t3.mo4 g2.ci.wf kq (fun j hj y => by
    obtain ⟨-, m3, -, -, -, -, m13⟩ := mo_x t2.ci t2.k1 kq4 hj
    exact m13 p hp y)
  have c0 : ∀ i, giC S4 q0 i = giC S3 q0 i := cq 0 (by omega)
  have G : gX (D5 x q0) S1 S4 := (f3.x (D := D5 x q0)).tr ((G3.mo (fun z y => Or.inl y)).tr (t3.mo (fun z y => Or.inr (by rw [y]; exact o))))
  obtain ⟨⟨K1, K2, K3, K4⟩, K8, Kc⟩ := frD (H2 := R) r a.ci a.k1 G t2.ci.wf (Or.inl kq4) (fun z k => Or.inr (ik_b (ik_b (ik_b k t3.1 n4) G3.1 n3) f3.1 n2)) (fun _ => by
    rw [c0, nb.2.2.2.2.1, vCn_0s 200 (fun s hs => (cq 3 (by omega) s).trans (nb.2.2.2.1 s hs))]
    rfl) (fun k h1 h2 => u1 k h2 (by omega)) (u1 39 (by decide) (by decide)) ⟨ur 11 (by omega), ur 12 (by omega), ur 38 (by omega), ur 40 (by omega), ur 41 (by omega)⟩
  have st : ∀ d, pl x d → giC S4 d 0 = if d = x + 13 + 3 * p then v else giC S1 d 0 := fun d od => by
    have k1 := od.lt a.ci a.k1
    have k3 := od.lt g2.ci g2.k1
    have k2' : d < S2.1 := by rw [n2]; exact k1.1
    have kd2 : kdC S2 d ≠ 4 := by rw [(f3.1.2 d k1.1).1, k1.2]; decide
    by_cases y : d = x + 13 + 3 * p
    · rw [if_pos y, y]
      exact t4
    · rw [if_neg y, t3.2.1 d k3.1 (by rw [k3.2]; decide) y, G3.2.1 d k2' kd2 (fun w => by
        obtain ⟨-, m3, -, -, -, -, m13⟩ := dM_x a.ci a.k1 kq1
        rcases od with od | ⟨p', hp', od⟩
        · exact m3 (by rw [← od]; exact w)
        · exact m13 p' hp' (by rw [← od]; exact w)), f3.2.1 d k1.1 (by rw [k1.2]; decide)]
  have rN0 : hN R 0 = 0 := by
    show (R.1 6).toInt = 0
    rw [u6]
    rfl
  have rNp : hN R (p + 2) = 1 := by
    show (R.2 34 p).toInt = 1
    rw [u34, upd_eq]
    rfl
  have rNo : ∀ g, g ≠ 0 → g ≠ p + 2 → hN R g = hN H g := fun g n1 n2 => by
    match g, n1 with
    | 1, _ => show (R.1 35).toInt = _; rw [u1 35 (by decide) (by decide)]; rfl
    | p' + 2, _ => show (R.2 34 p').toInt = (H.2 34 p').toInt; rw [u34, upd_ne (by omega)]
  have rMp : hM R (p + 2) 0 = hM H 0 0 := by
    show (R.2 33 (9 * p + 0)).toNatClampNeg = _
    rw [u33, Nat.add_zero, upd_eq]
    exact em
  have rMo : ∀ g i, g ≠ p + 2 → i < 9 → hM R g i = hM H g i := fun g i n hi => by
    unfold hM
    match g with
    | 0 => show (R.2 31 i).toNatClampNeg = _; rw [ur 31 (by omega)]; rfl
    | 1 => show (R.2 32 i).toNatClampNeg = _; rw [ur 32 (by omega)]; rfl
    | p' + 2 =>
      show (R.2 33 (9 * p' + i)).toNatClampNeg = (H.2 33 (9 * p' + i)).toNatClampNeg
      rw [u33, upd_ne (by omega)]
  have rTo : ∀ g, g ≠ p + 2 → (hT R g ↔ hT H g) := fun g n => by
    match g with
    | 0 => exact Iff.rfl
    | 1 => show R.1 36 ≠ 0 ↔ H.1 36 ≠ 0; rw [u1 36 (by decide) (by decide)]
    | p' + 2 =>
      show R.2 37 p' ≠ 0 ↔ H.2 37 p' ≠ 0
      rw [u37, upd_ne (by omega)]
  have rTp : ¬ hT R (p + 2) := fun y => y (by rw [u37, upd_eq])
  have eTp : tU T2 (x + 13 + 3 * p + 1) (T2 (x + 13 + 3 * p + 1) ++ [q0]) (rP x (p + 2)) = [q0] := by
    rw [rP_p, tU_at, eT2]
    rfl
  have eTz : tU T2 (x + 13 + 3 * p + 1) (T2 (x + 13 + 3 * p + 1) ++ [q0]) (rP x 0) = [] := by
    rw [tU_ne _ _ (by show x + 1 ≠ _; omega)]
    exact f4
  have eTo : ∀ g, g < 10 → g ≠ 0 → g ≠ p + 2 → tU T2 (x + 13 + 3 * p + 1) (T2 (x + 13 + 3 * p + 1) ++ [q0]) (rP x g) = T1 (rP x g) := fun g hg n1 n2 => by
    rw [tU_ne _ _ (show rP x g ≠ x + 13 + 3 * p + 1 from fun y => n2 (rP_inj (x := x) (g := g) (g' := p + 2) y))]
    exact f5 _ (fun y => n1 (rP_inj (x := x) (g := g) (g' := 0) y)) (rP_own hg).2
  have k14 : H.2 14 (hM H 0 0) = 1 := h.1.2.2.2.1 0 L0 trivial
  have ko : H.2 20 (hM H 0 0) = 0 ∧ H.2 21 (hM H 0 0) = 0 ∧ H.2 26 (hM H 0 0) = 0 := by
    have mu := (r.2.1 0 (by omega)).2 0 (r.2.1.mem L0)
    exact mu.2.2.2.2.2.2 (by rw [k14]; decide) (by rw [k14]; decide)
  have tx : giC S4 (q0 + 1) 1 = H.2 19 (hM H 0 0) ∧ ∀ i : Nat, (i : Int) < (H.2 19 (hM H 0 0)).toInt → giC S4 (q0 + 2) i = H.2 28 (400 * hM H 0 0 + i) := by
    have mu := ((r.2.1 0 (by omega)).2 0 (r.2.1.mem L0)).2.2.2.1
    rw [eq0] at mu
    have w3' := a.ci.wf.w3 kq1
    have k1 : iK S1 (q0 + 1) 6 := w3'.1.1
    have k2 : iK S1 (q0 + 2) 20 := (a.ci.wf.w6 k1).1.1
    refine ⟨?_, fun i hi => ?_⟩
    · rw [cq 1 (by omega), nb.2.2.2.2.2 1 _ (Or.inl rfl), f3.2.1 _ k1.1 (by rw [k1.2]; decide)]
      exact mu.1
    · rw [cq 2 (by omega), nb.2.2.2.2.2 2 _ (Or.inr rfl), f3.2.1 _ k2.1 (by rw [k2.2]; decide)]
      exact mu.2 i hi
  have n4' := r.2.2.2.2.2.2.2.2
  refine ⟨S4, _, t1, t2, r.ex (gs := p + 2) (is := 0) h.1 hc2 K1 K2 K3 K4 (u1 0 (by decide) (by decide)) (fun g hg => ?_) ?_ (fun p' hp' => ?_) ⟨by rw [K8]; exact Int.le_refl _, by rw [K8]; have := r.2.2.2.2.2.1.2; omega⟩ (fun s h1 h2 => by rw [u30, ageS ⟨h1, h2⟩ bN]; omega) (fun g i l n => ?_) (fun l => ?_) (fun l t => ?_) (fun l t => absurd t rTp) (fun l j lj t d k => ?_) (fun l t d k => ?_)⟩
  · by_cases y1 : g = 0
    · rw [y1, eTz, rN0]
      rfl
    · by_cases y2 : g = p + 2
      · rw [y2, eTp, rNp]
        rfl
      · rw [eTo g hg y1 y2, rNo g y1 y2]
        exact (r.2.1 g hg).1
  · rw [st _ (Or.inl rfl), if_neg (by omega), u1 35 (by decide) (by decide), u1 36 (by decide) (by decide)]
    exact r.2.2.1.1
  · rw [st _ (Or.inr ⟨p', hp', rfl⟩), u34, u37]
    by_cases y : p' = p
    · subst y
      rw [if_pos rfl, upd_eq, upd_eq, rMp, u27, if_pos rfl]
      exact ⟨fun w => absurd w (by decide), fun _ => hv⟩
    · rw [if_neg (by omega), upd_ne y, upd_ne y, rMo (p' + 2) 0 (by omega) (by omega)]
      refine ⟨(r.2.2.1.2.1 p' hp').1, fun w => ?_⟩
      have w' := mt iEq.mpr w
      rw [i0] at w'
      have b := (h.1.1 (p' + 2) (by omega)).1
      have e0 : hN H (p' + 2) = (H.2 34 p').toInt := rfl
      have l' : hL H (p' + 2) 0 := ⟨by omega, by omega⟩
      rw [uo 27 _ (by omega) (by omega) (fun y => by have := (h.1.d l' L0 y).1; omega)]
      exact (r.2.2.1.2.1 p' hp').2 w
  · have y1 : g ≠ 0 := fun y => by
      have := l.2
      rw [y, rN0] at this
      omega
    have y2 : g ≠ p + 2 := fun y => by
      have := l.2
      rw [y, rNp] at this
      exact n ⟨y, by omega⟩
    have l2 := l.2
    rw [rNo g y1 y2] at l2
    have b9 := (h.1.1 g l.1).2.1
    have l' : hL H g i := ⟨l.1, l2⟩
    have e := rMo g i y2 (by omega)
    have nm : hM H g i ≠ hM H 0 0 := fun y => y1 (h.1.d l' L0 y).1
    have nq : (T1 (rP x g)).getD i 0 ≠ q0 := fun y => by
      have := (q_uniq a.ci (r.2.1.mem l') (r.2.1.mem L0) (by rw [y, eq0])).1
      exact y1 (rP_inj this)
    have k := a.m3 (gD_mem (r.2.1.mem l'))
    refine ⟨g, i, l', e, rTo g y2, fun _ => id, by rw [eTo g l.1 y1 y2], Kc _ k nq, fun k h1 h2 => uo k _ (by omega) (by omega) nm, fun _ => uo 27 _ (by omega) (by omega) nm, fun n' _ => by rw [ur 28 (by omega)], fun n' hn => u29o _ _ nm hn⟩
  · rw [eTp, rMp]
    show mR S4 q0 R (hM H 0 0)
    have r14 : R.2 14 (hM H 0 0) = 1 := by rw [ur 14 (by omega)]; exact k14
    have r26 : R.2 26 (hM H 0 0) = 0 := by rw [ur 26 (by omega)]; exact ko.2.2
    have r20 : R.2 20 (hM H 0 0) = 0 := by rw [ur 20 (by omega)]; exact ko.1
    have r21 : R.2 21 (hM H 0 0) = 0 := by rw [ur 21 (by omega)]; exact ko.2.1
    obtain ⟨⟨a2, a3, a4, a5, a6⟩, ⟨a7, a8, a9, a11⟩, a10, av, a14, -⟩ := nb
    refine ⟨⟨by rw [c0, a2, r14], by rw [c0, a3, u15], by rw [c0, a4, u16], by rw [c0, a5, u17], by rw [c0, a6, u18]⟩, ⟨by rw [c0, a7, u24], by rw [c0, a11, r26]⟩, fun _ => ⟨by rw [c0, a8, r20], by rw [c0, a9, r21]⟩, ⟨by rw [ur 19 (by omega)]; exact tx.1, fun i hi => ?_⟩, fun s hs => Or.inl ⟨u29 s hs, (cq 3 (by omega) s).trans (av s hs)⟩, ⟨fun s hs _ => (cq 3 (by omega) s).trans (av s hs), ?_⟩, fun _ _ => ⟨r20, r21, r26⟩⟩
    · rw [ur 19 (by omega)] at hi
      rw [ur 28 (by omega)]
      exact tx.2 i hi
    · rw [c0, a14, vCn_0s 200 (fun s hs => (cq 3 (by omega) s).trans (av s hs))]
      rfl
  · rw [eTp, rMp, u25, u27, ur 26 (by omega)]
    exact ⟨(c0 10).trans nb.2.2.1, fun _ => ko.2.2, fun y => ⟨by omega, hf y⟩⟩
  · rw [rMp, u22]
    exact ageN (n4' j lj t d k).2.1 bN
  · rw [rMp, ur 14 (by omega), k14] at k
    rcases k with k | k <;> exact absurd k (by decide)
/-- COMMIT -/
theorem commit_B (a : AS x S T col S1 T1 c1) (r : RR wF N S1 T1 x H) (h : HI M H) (bN : N ≤ 1000000) (fp : fpl H p) (z6 : 1 ≤ (H.1 6).toInt) (u : uR H R (H.2 31 0) p (-1) (-1) 0 1) (hc2 : HC M2 R) : ∃ S4 T4, f_Y7_commit S1 x = (0, S4) ∧ Sst noE x S T [] col S4 T4 [] c1 ∧ RR wF (N + 1) S4 T4 x R := by
  have L0 : hL H 0 0 := ⟨by omega, by show ((0 : Nat) : Int) < (H.1 6).toInt; omega⟩
  have fr := (first_V a r fp).1
  obtain ⟨q0, l, tT⟩ : ∃ q0 l, T1 (x + 1) = q0 :: l := by
    have := r.2.1.mem L0
    cases t : T1 (x + 1) with
    | nil =>
      have t : T1 (rP x 0) = [] := t
      rw [t] at this
      exact absurd this (Nat.not_lt_zero _)
    | cons q0 l => exact ⟨q0, l, rfl⟩
  obtain ⟨-, S2, T2, f1, f2, f3, f4, f5⟩ := y_lowest noE_n a.1 tT
  have kq := (f2.ci.tf.2 q0 (List.mem_cons_self ..)).1
  have sv := r.2.2.2.2.1.2.1.gx (f3.x (D := fun _ => False)) a.ci.wf (fun _ _ _ _ y => y) (fun q k => ik_b k f3.1 f3.2.2.2)
  obtain ⟨S3, g1, g2, nm, n3, gt⟩ := keep_v f2 kq (f2.fc q0 (List.mem_cons_self ..)) 1 (sv q0 kq)
  obtain ⟨⟨m0, m1, m2, m3, m4, m5, m6⟩, ⟨m7, m8, m9, m10, m11⟩, mv, m14⟩ := nm
  obtain ⟨S4, T4, t1, t2, t3⟩ := put_B a r h bN fp z6 tT f3 f4 f5 g2.1 g2.2.1 n3 g2.2.2.1 u (v := 1) ⟨⟨m2, m3, m4, m5, m6⟩, ⟨m7, m8, m9, m11⟩, m10, mv, m14, gt⟩ (by decide) (fun _ => rfl) hc2
  refine ⟨S4, T4, ?_, t2, t3⟩
  unfold f_Y7_commit b_Y7_commit_9a b_Y7_commit_23a b_Y7_commit_29
  rw [fr, f1]
  simp only [reduceCtorEq, if_false, Option.getD_some]
  rw [g1]
  simp only
  rw [t1]
/-- POSTPONE -/
theorem postpone_B (a : AS x S T col S1 T1 c1) (r : RR wF N S1 T1 x H) (h : HI M H) (bN : N ≤ 1000000) (fp : fpl H p) (z6 : 1 ≤ (H.1 6).toInt) (u : uR H R (H.2 31 0) p (H.2 15 (hM H 0 0)) (H.2 16 (hM H 0 0)) 1 0) (hc2 : HC M2 R) : ∃ S4 T4, f_Y7_postpone S1 x = (0, S4) ∧ Sst noE x S T [] col S4 T4 [] c1 ∧ RR wF (N + 1) S4 T4 x R := by
  have L0 : hL H 0 0 := ⟨by omega, by show ((0 : Nat) : Int) < (H.1 6).toInt; omega⟩
  have fr := (first_V a r fp).1
  obtain ⟨q0, l, tT⟩ : ∃ q0 l, T1 (x + 1) = q0 :: l := by
    have := r.2.1.mem L0
    cases t : T1 (x + 1) with
    | nil =>
      have t : T1 (rP x 0) = [] := t
      rw [t] at this
      exact absurd this (Nat.not_lt_zero _)
    | cons q0 l => exact ⟨q0, l, rfl⟩
  have eq0 : (T1 (rP x 0)).getD 0 0 = q0 := by
    show (T1 (x + 1)).getD 0 0 = q0
    rw [tT]
    rfl
  obtain ⟨-, S2, T2, f1, f2, f3, f4, f5⟩ := y_lowest noE_n a.1 tT
  have kq := (f2.ci.tf.2 q0 (List.mem_cons_self ..)).1
  have kq1 : iK S1 q0 3 := a.m3 (c := x + 1) (by rw [tT]; exact List.mem_cons_self ..)
  have sv := r.2.2.2.2.1.2.1.gx (f3.x (D := fun _ => False)) a.ci.wf (fun _ _ _ _ y => y) (fun q k => ik_b k f3.1 f3.2.2.2)
  have mu := ((r.2.1 0 (by omega)).2 0 (r.2.1.mem L0)).1
  rw [eq0] at mu
  have gq : ∀ i, giC S2 q0 i = giC S1 q0 i := f3.2.1 q0 kq1.1 (by rw [kq1.2]; decide)
  have k14 : H.2 14 (hM H 0 0) = 1 := h.1.2.2.2.1 0 L0 trivial
  obtain ⟨S3, g1, g2, nm, n3, gt⟩ := keep_v f2 kq (f2.fc q0 (List.mem_cons_self ..)) (giC S2 q0 2) (sv q0 kq)
  have g5 := ((g2.si 3 (giC S2 q0 3) (by omega)).si 4 (giC S2 q0 4) (by omega)).si 10 1 (fun _ => bz1)
  have n5 : (siC (siC (siC S3 q0 3 (giC S2 q0 3)) q0 4 (giC S2 q0 4)) q0 10 1).1 = S2.1 := n3
  have e3 : giC S2 q0 3 = H.2 15 (hM H 0 0) := (gq 3).trans mu.2.1
  have e4 : giC S2 q0 4 = H.2 16 (hM H 0 0) := (gq 4).trans mu.2.2.1
  have e2 : giC S2 q0 2 = 1 := ((gq 2).trans mu.1).trans k14
  obtain ⟨⟨m0, m1, m2, m3, m4, m5, m6⟩, ⟨m7, m8, m9, m10, m11⟩, mv, m14⟩ := nm
  obtain ⟨X, hX⟩ : ∃ X, X = siC (siC (siC S3 q0 3 (giC S2 q0 3)) q0 4 (giC S2 q0 4)) q0 10 1 := ⟨_, rfl⟩
  have gX' : ∀ i, giC X q0 i = if i = 10 then 1 else if i = 4 then H.2 16 (hM H 0 0) else if i = 3 then H.2 15 (hM H 0 0) else giC S3 q0 i := fun i => by
    rw [hX, e3, e4]
    simp only [gi_si, true_and]
  have oX : ∀ j i, 0 < j → giC X (q0 + j) i = giC S3 (q0 + j) i := fun j i hj => by
    rw [hX]
    simp only [gi_si]
    rw [if_neg (fun y => by omega), if_neg (fun y => by omega), if_neg (fun y => by omega)]
  rw [← hX] at g5 n5
  have nb : (giC X q0 2 = 1 ∧ giC X q0 3 = H.2 15 (hM H 0 0) ∧ giC X q0 4 = H.2 16 (hM H 0 0) ∧ giC X q0 5 = 0 ∧ giC X q0 6 = 0) ∧ (giC X q0 7 = 0 ∧ giC X q0 8 = 0 ∧ giC X q0 9 = 0 ∧ giC X q0 11 = 0) ∧ giC X q0 10 = 1 ∧ (∀ s, s < 200 → giC X (q0 + 3) s = 0) ∧ (giC X q0 14).toInt = 0 ∧ ∀ j i, (j = 1 ∨ j = 2) → giC X (q0 + j) i = giC S2 (q0 + j) i := by
    refine ⟨⟨?_, ?_, ?_, ?_, ?_⟩, ⟨?_, ?_, ?_, ?_⟩, ?_, fun s hs => (oX 3 s (by omega)).trans (mv s hs), ?_, fun j i hj => (oX j i (by omega)).trans (gt j i hj)⟩
    · rw [gX' 2]; simp; exact m2.trans e2
    · rw [gX' 3]; simp
    · rw [gX' 4]; simp
    · rw [gX' 5]; simp; exact m5
    · rw [gX' 6]; simp; exact m6
    · rw [gX' 7]; simp; exact m7
    · rw [gX' 8]; simp; exact m8
    · rw [gX' 9]; simp; exact m9
    · rw [gX' 11]; simp; exact m11
    · rw [gX' 10]; simp
    · rw [gX' 14]; simp; exact m14
  obtain ⟨S4, T4, t1, t2, t3⟩ := put_B a r h bN fp z6 tT f3 f4 f5 g5.1 g5.2.1 n5 g5.2.2.1 u (v := 2) nb (by decide) (fun y => absurd rfl y) hc2
  refine ⟨S4, T4, ?_, t2, t3⟩
  unfold f_Y7_postpone b_Y7_postpone_9a b_Y7_postpone_37a b_Y7_postpone_59
  rw [fr, f1]
  simp only [reduceCtorEq, if_false, Option.getD_some]
  rw [g1]
  simp only
  rw [← hX, t1]
end
end
section
/-! ===== the deeds: a result told, what is carried ===== -/
section
variable {wF : Prop × (Nat → Int32) × Int32 × (Nat → Int32)} {x : Nat} {S S1 S2 S3 S4 : Cst} {T T1 T2 T3 : Nat → List Nat} {F F1 : List Nat} {col c1 c2 c3 : Nat → Nat} {H H2 G R : HS} {N M M2 : Int} {v w3 w4 f25 f27 m hd Y Z o : Int32} {p q : Nat}
theorem uR.f5 (h : uR G R m p w3 w4 f25 f27) (v : Int32) : uR (sI G 5 v) (sI R 5 v) m p w3 w4 f25 f27 := by
  obtain ⟨⟨a1, a2, a3⟩, b⟩ := h
  refine ⟨⟨a1, a2, fun j y z => ?_⟩, b⟩
  show (if j = 5 then v else R.1 j) = (if j = 5 then v else G.1 j)
  by_cases w : j = 5
  · rw [if_pos w, if_pos w]
  · rw [if_neg w, if_neg w]
    exact a3 j y z
theorem end_B (s : Sst noE x S T [] col S1 T1 [] c1) (r : RR wF N S1 T1 x (sI R 5 v)) (g5 : R.1 5 = -1) (x1 : Option Nat) (hd Y Z o z : Int32) : ∃ S2, b_Y7_announce_195 S1 x x1 hd Y Z o z = (o, S2) ∧ Sst noE x S T [] col S2 T1 [] c1 ∧ RR wF N S2 T1 x R := by
  have w0 := s.ci.wf.w0 s.k1
  refine ⟨siC S1 (x + 37) 6 (-1), ?_, ((QU.rf s).hI 6 (-1) (by omega)).1, RF.fin r s.ci s.k1 g5⟩
  unfold b_Y7_announce_195
  rw [w0.2.1.1]
  rfl
theorem p173 (a : AS x S T col S1 T1 c1) (r : RR wF N S1 T1 x (sI G 5 v)) (h : RA G) (z6 : ¬ G.1 6 = 0) (g5 : G.1 5 = -1) (o4 : o = 4 → RA (f_X11_goes G).2 ∧ ¬ (f_X11_goes G).2.1 6 = 0) (x1 : Option Nat) (hd Y Z z : Int32) : ∃ S4 T4, b_Y7_announce_173 S1 x x1 hd Y Z o z = (o, S4) ∧ Sst noE x S T [] col S4 T4 [] c1 ∧ RR wF N S4 T4 x (if o = 4 then (f_X11_goes (f_X11_goes G).2).2 else (f_X11_goes G).2) := by
  obtain ⟨S2, T2, f1, a2, r2, -⟩ := goF a r h z6
  have g5' : (f_X11_goes G).2.1 5 = -1 := by
    rw [goes_e]
    exact g5
  unfold b_Y7_announce_173 b_Y7_announce_181a
  rw [a.g1, Option.getD_some, f1]
  simp only
  by_cases y : o = 4
  · obtain ⟨h2, z2⟩ := o4 y
    obtain ⟨S3, T3, f3, a3, r3, -⟩ := goF a2 r2 h2 z2
    rw [if_pos y, if_pos y, a2.g1, Option.getD_some, f3]
    have g5'' : (f_X11_goes (f_X11_goes G).2).2.1 5 = -1 := by
      rw [goes_e]
      exact g5'
    obtain ⟨S4, e, s, rr⟩ := end_B a3.1 r3 g5'' x1 hd Y Z o z
    exact ⟨S4, T3, e, s, rr⟩
  · rw [if_neg y, if_neg y]
    obtain ⟨S4, e, s, rr⟩ := end_B a2.1 r2 g5' x1 hd Y Z o z
    exact ⟨S4, T2, e, s, rr⟩
/-- the words of another one change: the row stays -/
theorem chg_f (h : HI M G) (hp : 2 ≤ (G.1 6).toInt) (hk : G.2 14 (f_X11_top G).1.toNatClampNeg = 2 ∨ G.2 14 (f_X11_top G).1.toNatClampNeg = 3) : (f_X11_change G (G.2 31 (G.1 6 - 2).toNatClampNeg) (f_X11_top G).1).2.1 = G.1 ∧ RA (f_X11_change G (G.2 31 (G.1 6 - 2).toNatClampNeg) (f_X11_top G).1).2 := by
  have hr := h.ra
  have t := top_in hr (by omega)
  have n0 := h.1.1 0 (by omega)
  have e0 : hN G 0 = (G.1 6).toInt := rfl
  have n6 := iNat (x := G.1 6) (by omega)
  have i2 : (2 : Int32).toInt = 2 := by decide
  have e2 := iSub (x := G.1 6) (y := 2) (by rw [i2]; omega) (by rw [i2]; omega)
  rw [i2] at e2
  have k2 := iNat (x := G.1 6 - 2) (by omega)
  obtain ⟨k, hkk⟩ : ∃ k : Nat, (G.1 6).toInt = k + 2 := ⟨(G.1 6).toNatClampNeg - 2, by omega⟩
  have ek : (G.1 6 - 2).toNatClampNeg = k := by omega
  have em : (f_X11_top G).1.toNatClampNeg = hM G 0 (k + 1) := by
    rw [top_m (by omega)]
    congr 1
    omega
  have lm : hL G 0 (k + 1) := ⟨by omega, by omega⟩
  have lt : hL G 0 k := ⟨by omega, by omega⟩
  have vt := h.1.2.1 0 k lt
  have wm := h.1.2.2.2.2.1 0 (k + 1) lm
  have wt := h.1.2.2.2.2.1 0 k lt
  have ch := h.1.2.2.2.2.2.2.2.1 0 k lm
  rw [em] at hk
  have cc := ch.2.1 hk
  rw [ek]
  have v1 : vp_in (G.2 31 k) 90 := vIn vt.1 vt.2.1
  have v2 : vp_in (f_X11_top G).1 90 := vIn t.1 t.2
  have et : (G.2 31 k).toNatClampNeg = hM G 0 k := rfl
  obtain ⟨-, x6, e6, q1, q2, q3, q4⟩ := change_i hr v1 v2 (by rw [et]; exact wt.2.1) (by rw [em]; exact wm.2.1) (by rw [em, et]; exact ⟨wm.2.2.1, wm.2.2.2.1, cc.2.1⟩) (by rw [em, et]; exact cc.2.2)
  refine ⟨q1, ?_⟩
  unfold RA
  rw [q1, q2 31 (by omega) (by omega) (by omega) (by omega) (by omega), q2 32 (by omega) (by omega) (by omega) (by omega) (by omega)]
  exact hr
theorem fpl_of (h : ∃ p, p < 8 ∧ G.2 34 p = 0) : ∃ p, fpl G p := by
  obtain ⟨p, f, -⟩ := fpl_ex 8 (by omega) h
  exact ⟨p, f⟩
/-- carried: what comes of it, in both -/
theorem car_B (a : AS x S T col S1 T1 c1) (r : RR wF N S1 T1 x (sI G 5 v)) (h : HI M G) (bM : 0 ≤ M ∧ M ≤ 1000000) (bN : N ≤ 1000000) (z6 : ¬ G.1 6 = 0) (g5 : G.1 5 = -1) (h98 : (G.1 9).toInt + 1 ≤ (G.1 8).toInt ∧ (G.1 8).toInt ≤ 1000) (mu : mR S1 q G (f_X11_top G).1.toNatClampNeg) (mq : q ∈ T1 (x + 1)) (eq : q = (T1 (x + 1)).getD (G.1 6 - 1).toNatClampNeg 0) (hd Y Z : Int32) (k9 : G.2 14 (f_X11_top G).1.toNatClampNeg ≠ 9) : ∃ S4 T4, b_Y7_announce_100 S1 x (some q) hd Y Z 1 1 = (1, S4) ∧ Sst noE x S T [] col S4 T4 [] c1 ∧ RR wF (N + 1) S4 T4 x (f_X11_carried G (f_X11_top G).1 (G.2 14 (f_X11_top G).1.toNatClampNeg)).2 := by
  have kq := a.m3 mq
  have hr := h.ra
  have p1 := pend_pos hr z6
  have b6 := hr.2.1
  have n6 := iNat (x := G.1 6) (by omega)
  have lt : hL G 0 ((G.1 6).toNatClampNeg - 1) := ⟨by omega, by show _ < (G.1 6).toInt; omega⟩
  have ti := top_in hr p1
  have em1 := topN p1
  have e1n : (G.1 6 - 1).toNatClampNeg = (G.1 6).toNatClampNeg - 1 := by omega
  have wk := h.1.2.2.2.2.1 0 _ lt
  rw [← top_m p1] at wk
  have wp : G.2 14 (f_X11_top G).1.toNatClampNeg = 4 ∨ G.2 14 (f_X11_top G).1.toNatClampNeg = 5 ∨ G.2 14 (f_X11_top G).1.toNatClampNeg = 7 → pF G := fun q => h.2.1.pf ⟨_, lt, by rw [← top_m p1]; exact q⟩
  have tw := two_p h p1
  have co := (carried_i h bM.1 bM.2 p1 k9).2
  have k2 := mu.1.1
  have hv : HI M (sI G 5 v) := hi_5 h v
  have n4 : ¬ ((1 : Int32) = 4) := by decide
  have no4 : (1 : Int32) = 4 → RA (f_X11_goes G).2 ∧ ¬ (f_X11_goes G).2.1 6 = 0 := fun y => absurd y n4
  have e163 : ∀ (R : HS) (S2 : Cst) (v' : Int32), f_Y7_carryAlone S1 x (some q) = (0, S2) → AS x S T col S2 T1 c1 → RR wF N S2 T1 x (sI R 5 v') → RA R → ¬ R.1 6 = 0 → R.1 5 = -1 → ∃ S4 T4, b_Y7_announce_163 S1 x (some q) hd Y Z 1 1 = (1, S4) ∧ Sst noE x S T [] col S4 T4 [] c1 ∧ RR wF N S4 T4 x (f_X11_goes R).2 := fun R S2 v' f a2 r2 hR z5 y5 => by
    obtain ⟨S4, T4, e, s, rr⟩ := p173 (o := 1) a2 r2 hR z5 y5 (fun y => absurd y n4) (some q) hd Y Z 1
    rw [if_neg n4] at rr
    refine ⟨S4, T4, ?_, s, rr⟩
    unfold b_Y7_announce_163
    rw [if_neg h10, f]
    exact e
  obtain ⟨t, ht⟩ : ∃ t, t = (f_X11_top G).1 := ⟨_, rfl⟩
  obtain ⟨k, hk⟩ : ∃ k, k = G.2 14 (f_X11_top G).1.toNatClampNeg := ⟨_, rfl⟩
  unfold b_Y7_announce_100 b_Y7_announce_122 b_Y7_announce_142 b_Y7_announce_119a b_Y7_announce_139a b_Y7_announce_160a b_Y7_announce_181a
  rw [if_neg h10, if_neg h10, if_neg h10]
  simp only [if_neg n4, Option.getD_some, k2]
  have w3q := a.ci.wf.w3 kq
  -- what stands before a case of carryAlone
  have ca : f_Y7_carryAlone S1 x (some q) = b_Y7_carryAlone_16a S1 x (some q) (f_Y5_at S1 (x + 1) (giC S1 (x + 1) 1 - 2)) := by
    unfold f_Y7_carryAlone
    rw [a.g1, Option.getD_some]
  unfold f_X11_carried at co ⊢
  have w14 : 1 ≤ k.toInt ∧ k.toInt ≤ 9 := by rw [hk]; exact wk.1
  rw [← hk] at co k2 wp tw ⊢
  rw [← ht] at co ⊢
  by_cases z1 : k = 1
  · rw [if_neg (by rw [z1]; decide), if_neg (by rw [z1]; decide), if_neg (by rw [z1]; decide)]
    rw [if_pos z1]
    obtain ⟨u, e, hu, -⟩ := main_w t k (by rw [ht]; exact ti) 100000 (sI (sI G 9 (G.1 9 + 1)) 39 (G.2 19 t.toNatClampNeg)) 0 (by rw [ht]; exact wk.2.1.2) (by rw [i0]; omega) (by rw [i0]; omega) (by rw [i0]; omega)
    have hu : ∀ i : Nat, (i : Int) < (G.2 19 t.toNatClampNeg).toInt → u i = G.2 28 (400 * t.toNatClampNeg + i) := fun i hi => hu i (by rw [i0]; omega) hi
    have e : (lp_X11_carried_70 100000 (sI (sI G 9 ((G.1 9) + 1)) 39 ((sI G 9 ((G.1 9) + 1)).2 19 t.toNatClampNeg)) t k 0).2 = (f_X11_goes (sR (sI (sI G 9 (G.1 9 + 1)) 39 (G.2 19 t.toNatClampNeg)) 38 u)).2 := e
    rw [e]
    rw [← ht] at mu wk
    obtain ⟨S2, f, a2, r2⟩ := adopt_v (H2 := sI (sR (sI (sI G 9 (G.1 9 + 1)) 39 (G.2 19 t.toNatClampNeg)) 38 u) 5 v) a r (m := t.toNatClampNeg) mu kq wk.2.1.1 hu h98 (by
      refine Prod.ext (funext fun j => ?_) rfl
      show (if j = 5 then v else if j = 39 then _ else if j = 9 then _ else G.1 j) = (if j = 39 then _ else if j = 9 then _ else if j = 5 then v else G.1 j)
      by_cases y1 : j = 5
      · rw [if_pos y1, if_neg (by omega), if_neg (by omega), if_pos y1]
      · rw [if_neg y1, if_neg y1]
        rfl)
    obtain ⟨S4, T4, q1, q2, q3⟩ := e163 (sR (sI (sI G 9 (G.1 9 + 1)) 39 (G.2 19 t.toNatClampNeg)) 38 u) _ v (by
      rw [ca]
      unfold b_Y7_carryAlone_16a b_Y7_carryAlone_36a b_Y7_carryAlone_106
      rw [Option.getD_some, k2, if_pos z1, a.w0.2.1.2.2.2.2.2.2, w3q.2.1.1, Option.getD_some, Option.getD_some, f]) a2 r2 hr z6 g5
    exact ⟨S4, T4, q1, q2, q3.up (by omega)⟩
  rw [if_neg z1] at co ⊢
  have tw := tw z1
  have z26 : ¬ (f_X11_goes G).2.1 6 = 0 := fun y => by
    rw [goes_e] at y
    have y : G.1 6 - 1 = 0 := y
    have := congrArg Int32.toInt y
    rw [i0] at this
    omega
  obtain ⟨bm, f0, bmu, bmm, beq, bl⟩ := below_v a r.2.1 hv (by show 2 ≤ (G.1 6).toInt; exact tw)
  have ca : f_Y7_carryAlone S1 x (some q) = b_Y7_carryAlone_16a S1 x (some q) (some bm) := by rw [ca, f0]
  by_cases z23 : k = 2 ∨ k = 3
  · rw [if_neg (by rcases z23 with y | y <;> rw [y] <;> decide), if_neg (by rcases z23 with y | y <;> rw [y] <;> decide), if_neg (by rcases z23 with y | y <;> rw [y] <;> decide)]
    have e : (if k = 2 then b_X11_carried_111 G t k else if k = 3 then b_X11_carried_111 G t k else if k = 6 then b_X11_carried_a138 (f_X11_goes G).2 t k else if k = 7 then b_X11_carried_a190 (f_X11_goes G).2 t k else if k = 8 then b_X11_carried_a155 (f_X11_goes G).2 t k else lp_X11_carried_257 100000 G t k) = b_X11_carried_111 G t k := by
      by_cases y2 : k = 2
      · rw [if_pos y2]
      · rw [if_neg y2, if_pos (z23.resolve_left y2)]
    rw [e]
    rw [hk] at z23
    have hp : 2 ≤ (G.1 6).toInt := tw
    obtain ⟨q1, hra⟩ := chg_f h hp z23
    rw [← ht] at q1 hra
    obtain ⟨S3, f, a3, r3⟩ := amendR (G := G) a r hv (fun j y => by
      show G.1 j = if j = 5 then v else G.1 j
      rw [if_neg y]) rfl hp z23 (q := q) (mq := bm) (by rw [eq, e1n]; rfl) beq
    have r3 := r3 (sI (f_X11_change G (G.2 31 (G.1 6 - 2).toNatClampNeg) t).2 5 v) (by
      funext j
      show (if j = 5 then v else (f_X11_change G (G.2 31 (G.1 6 - 2).toNatClampNeg) t).2.1 j) = if j = 5 then v else G.1 j
      rw [q1]) (by rw [ht]; rfl)
    have am : f_Y4_amends S1 q = 1 := by
      rw [am_v mu]
      rcases z23 with y | y
      · rw [if_pos y]
      · rw [if_neg (by rw [y]; decide), if_pos y]
    rw [← hk] at z23
    obtain ⟨S4, T4, g1, g2, g3⟩ := e163 (f_X11_change G (G.2 31 (G.1 6 - 2).toNatClampNeg) t).2 S3 v (by
      rw [ca]
      unfold b_Y7_carryAlone_16a b_Y7_carryAlone_89 b_Y7_carryAlone_106
      rw [Option.getD_some, k2, if_neg z1, if_neg (by rcases z23 with y | y <;> rw [y] <;> decide), if_neg (by simp), if_neg (by rcases z23 with y | y <;> rw [y] <;> decide), if_neg (by simp), am, if_neg h10, f]) a3 r3 hra (by rw [q1]; exact z6) (by rw [q1]; exact g5)
    exact ⟨S4, T4, g1, g2, g3.up (by omega)⟩
  rw [if_neg (fun y => z23 (Or.inl y)), if_neg (fun y => z23 (Or.inr y))] at co ⊢
  by_cases zz6 : k = 6
  · rw [if_neg (by rw [zz6]; decide), if_neg (by rw [zz6]; decide), if_neg (by rw [zz6]; decide), if_pos zz6]
    obtain ⟨a2, r2⟩ := close_v a r hv bl beq rfl bmu bmm
    obtain ⟨S4, T4, g1, g2, g3⟩ := e163 (sA G 24 (hM G 0 ((G.1 6).toNatClampNeg - 2)) 1) _ v (by
      rw [ca]
      unfold b_Y7_carryAlone_16a b_Y7_carryAlone_106
      rw [Option.getD_some, k2, if_neg z1, if_neg (by rw [zz6]; decide), if_neg (by simp), if_pos zz6]
      rfl) a2 r2 hr z6 g5
    have e : (b_X11_carried_a138 (f_X11_goes G).2 t k).2 = (f_X11_goes (sA G 24 (hM G 0 ((G.1 6).toNatClampNeg - 2)) 1)).2 := by
      have et : (f_X11_top (f_X11_goes G).2).1.toNatClampNeg = hM G 0 ((G.1 6).toNatClampNeg - 2) := by
        have hp' : 1 ≤ ((f_X11_goes G).2.1 6).toInt := by
          rw [goes_e]
          show 1 ≤ (G.1 6 - 1).toInt
          omega
        rw [top_m hp']
        have e6 : (f_X11_goes G).2.1 6 = G.1 6 - 1 := by rw [goes_e]; rfl
        have e31 : (f_X11_goes G).2.2 31 = G.2 31 := by rw [goes_e]; rfl
        show ((f_X11_goes G).2.2 31 _).toNatClampNeg = (G.2 31 _).toNatClampNeg
        have e3 : (G.1 6 - 1).toNatClampNeg - 1 = (G.1 6).toNatClampNeg - 2 := by omega
        rw [e31, e6, e3]
      unfold b_X11_carried_a138 b_X11_carried_a146 b_X11_carried_373
      rw [et, top_s, goes_e, goes_e]
      refine Prod.ext rfl (funext fun j => ?_)
      show (if j = 24 then _ else if j = 13 then _ else G.2 j) = if j = 13 then _ else if j = 24 then _ else G.2 j
      by_cases y : j = 24
      · rw [if_pos y, if_neg (by omega), if_pos y]
        rfl
      · rw [if_neg y, if_neg y]
        rfl
    rw [e]
    exact ⟨S4, T4, g1, g2, g3.up (by omega)⟩
  rw [if_neg zz6] at co ⊢
  by_cases z7 : k = 7
  · rw [if_neg (by rw [z7]; decide), if_neg (by rw [z7]; decide), if_pos z7]
    rw [if_pos z7] at co ⊢
    obtain ⟨p, fp⟩ := fpl_of (wp (Or.inr (Or.inr z7))).1
    have hp := fp.1
    have ff := (first_V (H := sI G 5 v) a r fp).1
    obtain ⟨S2, T2, f1, a2, r2, -⟩ := goF a r hr z6
    have hg := goes_i h p1
    have e34 : (f_X11_goes G).2.2 34 = G.2 34 := by rw [goes_e]; rfl
    have fp2 : fpl (f_X11_goes G).2 p := by unfold fpl; rw [e34]; exact fp
    have g5' : (f_X11_goes G).2.1 5 = -1 := by
      rw [goes_e]
      exact g5
    obtain ⟨K, hK⟩ : ∃ K, K = (f_X11_goes G).2 := ⟨_, rfl⟩
    rw [← hK] at co r2 hg e34 fp2 g5' z26 ⊢
    have bK := hg.ra.2.1
    obtain ⟨fw1, fw2⟩ := free_W fp2
    have e3 : b_X11_carried_a190 K t k = lp_X11_carried_198 100000 K t k (f_X11_free K).1 0 := by
      unfold b_X11_carried_a190 b_X11_carried_a194
      rw [fw2]
    have kf := iNat (x := (f_X11_free K).1) (by omega)
    have ef : (f_X11_free K).1.toNatClampNeg = p := by omega
    obtain ⟨u, e4, u1, u2⟩ := table_l (x3 := (f_X11_free K).1) ⟨by omega, by omega⟩ t k 100000 K 0 bK.2 (by rw [i0]; omega) (by rw [i0]; omega) (by rw [i0]; omega)
    rw [i0, ef] at u1
    rw [ef] at e4
    rw [i0, fw1] at u2
    rw [e3, e4] at co ⊢
    have pB := tab_B (H2 := sI (sI (sA (sA (sR K 33 u) 34 p (K.1 6)) 37 p 1) 6 0) 5 v) a2 r2 (hi_5 hg v) z26 hp fp2.2.1 (u := u) (fun j y => by
      show (if j = 5 then v else if j = 6 then 0 else K.1 j) = if j = 5 then v else K.1 j
      rw [if_neg y]) rfl (fun k y y2 y3 => by
      show (if k = 37 then _ else if k = 34 then _ else if k = 33 then _ else K.2 k) = K.2 k
      rw [if_neg y3, if_neg y2, if_neg y]) (fun _ => rfl) (fun _ => rfl) rfl (fun i hi => u1 i (by omega) hi) (fun j hj => u2 j (by
        have hj : (j : Int) < 9 * (p : Int) ∨ 9 * (p : Int) + (K.1 6).toInt ≤ j := hj
        omega)) (hi_5 co.1 v).1
    obtain ⟨S3, T3, t1, t2, t3⟩ := pB
    obtain ⟨S4, q1, q2, q3⟩ := end_B t2 t3 g5' (some q) hd Y Z 1 1
    refine ⟨S4, T3, ?_, q2, q3.up (by omega)⟩
    rw [← q1]
    unfold f_Y7_table b_Y7_table_13a b_Y7_table_33
    have w2 := a2.w0
    have o : pl x (x + 13 + 3 * p) := Or.inr ⟨p, hp, rfl⟩
    have w5 := a2.ci.wf.w5 (o.lt a2.ci a2.k1)
    rw [ff, a.g1, Option.getD_some, f1]
    simp only [reduceCtorEq, if_false, Option.getD_some, gr_si, w2.2.1.2.1, w5.2, t1]
  simp only [if_neg z7] at co ⊢
  by_cases z8 : k = 8
  · rw [if_neg (by rw [z8]; decide), if_neg (by rw [z8]; decide), if_pos z8]
    obtain ⟨u, e, hu, -⟩ := adj_w t k 100000 (f_X11_goes G).2 0 (by rw [i0]; omega) (by rw [i0]; omega) (by rw [goes_e]; exact hr.1.2) (by rw [i0]; omega)
    have e : (b_X11_carried_a155 (f_X11_goes G).2 t k).2 = sI (sR (f_X11_goes G).2 11 u) 1 0 := e
    have e0 : (f_X11_goes G).2.1 0 = G.1 0 := by rw [goes_e]; rfl
    obtain ⟨S2, f, a2, r2⟩ := recess_v a r (u := u) (fun s hs => hu s (by rw [i0]; omega) (by rw [e0]; exact hs))
    have ec : sI (sI (sR (sI G 5 v) 11 u) 1 0) 5 (-1) = sI (sI (sR G 11 u) 1 0) 5 (-1) := by
      refine Prod.ext (funext fun j => ?_) rfl
      show (if j = 5 then _ else if j = 1 then _ else if j = 5 then v else G.1 j) = (if j = 5 then _ else if j = 1 then _ else G.1 j)
      by_cases y1 : j = 5
      · rw [if_pos y1, if_pos y1]
      · rw [if_neg y1, if_neg y1, if_neg y1]
    rw [ec] at r2
    obtain ⟨S4, T4, g1, g2, g3⟩ := e163 (sI (sR G 11 u) 1 0) S2 (-1) (by
      rw [ca]
      unfold b_Y7_carryAlone_16a b_Y7_carryAlone_65a b_Y7_carryAlone_106
      rw [Option.getD_some, k2, if_neg z1, if_pos z8, a.g0, Option.getD_some, f]) a2 r2 hr z6 g5
    have ee : (f_X11_goes (sI (sR G 11 u) 1 0)).2 = sI (sR (f_X11_goes G).2 11 u) 1 0 := by
      rw [goes_e, goes_e]
      refine Prod.ext (funext fun j => ?_) (funext fun j => ?_)
      · show (if j = 6 then _ else if j = 1 then _ else G.1 j) = (if j = 1 then _ else if j = 6 then _ else G.1 j)
        by_cases y : j = 6
        · rw [if_pos y, if_neg (by omega), if_pos y]
          rfl
        · rw [if_neg y, if_neg y]
      · show (if j = 13 then _ else if j = 11 then _ else G.2 j) = (if j = 11 then _ else if j = 13 then _ else G.2 j)
        by_cases y : j = 13
        · rw [if_pos y, if_neg (by omega), if_pos y]
          rfl
        · rw [if_neg y, if_neg y]
    rw [e, ← ee]
    exact ⟨S4, T4, g1, g2, g3.up (by omega)⟩
  rw [if_neg z8] at co ⊢
  have i45 : k = 4 ∨ k = 5 := by
    have y1 := mt iEq.mpr z1
    have y2 := mt iEq.mpr (fun y => z23 (Or.inl y))
    have y3 := mt iEq.mpr (fun y => z23 (Or.inr y))
    have y6 := mt iEq.mpr zz6
    have y7 := mt iEq.mpr z7
    have y8 := mt iEq.mpr z8
    have y9 := mt iEq.mpr (by rw [hk]; exact k9 : k ≠ 9)
    have f2 : (2 : Int32).toInt = 2 := by decide
    have f3 : (3 : Int32).toInt = 3 := by decide
    have f6 : (6 : Int32).toInt = 6 := by decide
    have f7 : (7 : Int32).toInt = 7 := by decide
    have f8 : (8 : Int32).toInt = 8 := by decide
    have f9 : (9 : Int32).toInt = 9 := by decide
    have e4 : (4 : Int32).toInt = 4 := by decide
    have e5 : (5 : Int32).toInt = 5 := by decide
    rw [i1] at y1
    rw [f2] at y2
    rw [f3] at y3
    rw [f6] at y6
    rw [f7] at y7
    rw [f8] at y8
    rw [f9] at y9
    by_cases q : k.toInt = 4
    · exact Or.inl (iEq.mpr (by rw [e4]; exact q))
    · exact Or.inr (iEq.mpr (by rw [e5]; omega))
  obtain ⟨p, fp⟩ := fpl_of (wp (i45.imp id Or.inl)).1
  obtain ⟨⟨R4, c4, u4⟩, R5, c5, u5⟩ := car4_v h p1 fp t
  rcases i45 with z4 | z5
  · rw [if_pos z4]
    rw [z4, c4] at co
    rw [z4, c4]
    obtain ⟨S4, T4, t1, t2, t3⟩ := commit_B a r hv bN fp p1 (u4.f5 v) (hi_5 co.1 v).1
    obtain ⟨S5, q1, q2, q3⟩ := end_B t2 t3 (by rw [u4.1.2.2 5 (by decide) (by decide)]; exact g5) (some q) hd Y Z 1 1
    rw [t1]
    exact ⟨S5, T4, q1, q2, q3⟩
  · rw [if_neg (by rw [z5]; decide), if_pos z5]
    rw [z5, c5] at co
    rw [z5, c5]
    obtain ⟨S4, T4, t1, t2, t3⟩ := postpone_B a r hv bN fp p1 (u5.f5 v) (hi_5 co.1 v).1
    obtain ⟨S5, q1, q2, q3⟩ := end_B t2 t3 (by rw [u5.1.2.2 5 (by decide) (by decide)]; exact g5) (some q) hd Y Z 1 1
    rw [t1]
    exact ⟨S5, T4, q1, q2, q3⟩
end
end
section
/-! ===== the deeds: a result told, whole ===== -/
section
variable {wF : Prop × (Nat → Int32) × Int32 × (Nat → Int32)} {x : Nat} {S S1 S2 S3 S4 : Cst} {T T1 T2 T3 : Nat → List Nat} {F F1 : List Nat} {col c1 c2 c3 : Nat → Nat} {H H2 G R : HS} {N M M2 : Int} {v w3 w4 f25 f27 m hd Y Z o : Int32} {p q : Nat}
theorem ds_21 (a : AS x S T col S1 T1 c1) (r : RR wF N S1 T1 x H) (h : HA H) (bN : 0 ≤ N ∧ N ≤ 1000000) (i b c d : Int32) (z : ¬ H.1 6 = 0) (h7 : (H.1 7).toInt < 600) : DS wF (N + 1) x S T col (f_Y1_perform S1 x 21 i b c d) (f_X11_does H 21 i b c d) := by
  have hra := h.1.ra
  obtain ⟨q, eu, mu, mq, eq⟩ := (rr_top a r.2.1 hra).2 z
  have kq := a.m3 mq
  have e1 : f_Y1_perform S1 x 21 i b c d = f_Y7_announce S1 x (some q) := by
    have e : f_Y1_perform S1 x 21 i b c d = if (f_Y5_top S1 ((grC S1 x 1).getD 0)) = none then (b_Y1_perform_296 S1 x 21 i b c d (f_Y5_top S1 ((grC S1 x 1).getD 0)) 0) else (b_Y1_perform_296 ((f_Y7_announce S1 x (f_Y5_top S1 ((grC S1 x 1).getD 0))).2) x 21 i b c d (f_Y5_top S1 ((grC S1 x 1).getD 0)) ((f_Y7_announce S1 x (f_Y5_top S1 ((grC S1 x 1).getD 0))).1)) := rfl
    rw [e, a.g1, Option.getD_some, eu, if_neg (by simp)]
    rfl
  have e2 : f_X11_does H 21 i b c d = f_X11_told H := rfl
  rw [e1, e2]
  clear e1 e2
  by_cases qu : (H.1 1).toInt < (H.1 3).toInt
  · have q1 : f_Y2_hasQuorum S1 (x + 37) = 0 := by
      unfold f_Y2_hasQuorum b_Y2_hasQuorum_16
      rw [r.1.1.2.1, r.1.1.2.2.2.1, if_pos (iLt.mpr qu)]
    refine ⟨S1, T1, c1, ?_, a.1, ?_⟩
    · unfold f_Y7_announce f_X11_told
      rw [a.g0, Option.getD_some, q1, if_pos rfl, if_neg (fun y => by have := iLe.mp y; omega)]
    · unfold f_X11_told
      rw [if_neg (fun y => by have := iLe.mp y; omega)]
      exact r.up (by omega)
  · have h80 := h.2.2
    have h8 : (H.1 8).toInt < 600 := by omega
    obtain ⟨hd, Y, Z, o, ea, et, k9, k4⟩ := ann_v a r h h8 z qu mu kq
    obtain ⟨S2, c2, f, g, -, r2⟩ := keepR_v a r ⟨h80.1, h8⟩ (H.2 14 (f_X11_top H).1.toNatClampNeg) o Y Z
    have a2 : AS x S T col S2 T1 c2 := a.led (Or.inr rfl) g
    rw [ea, f, et]
    obtain ⟨K, hK⟩ : ∃ K, K = kpH H (H.2 14 (f_X11_top H).1.toNatClampNeg) o Y Z := ⟨_, rfl⟩
    rw [← hK] at r2 ⊢
    have K1 : ∀ j, j ≠ 8 → K.1 j = H.1 j := fun j y => by rw [hK]; exact if_neg y
    have K8 : K.1 8 = H.1 8 + 1 := by rw [hK]; rfl
    have K2 : ∀ k, k ≠ 41 → K.2 k = H.2 k := fun k y => by rw [hK]; exact kpH_q _ _ _ _ _ y
    have hKi : HI (H.1 7).toInt K := by
      rw [hK]
      exact hi_8 (hi_41 (hi_41 (hi_41 (hi_41 (hi_41 h.1 _ _) _ _) _ _) _ _) _ _) _
    clear hK
    obtain ⟨G, hG⟩ : ∃ G, G = sI K 5 (-1) := ⟨_, rfl⟩
    rw [← hG]
    have G1 : ∀ j, j ≠ 5 → G.1 j = K.1 j := fun j y => by rw [hG]; exact if_neg y
    have G5 : G.1 5 = -1 := by rw [hG]; rfl
    have G2 : G.2 = K.2 := by rw [hG]; rfl
    have hGi : HI (H.1 7).toInt G := by rw [hG]; exact hi_5 hKi _
    have r3 : RR wF N S2 T1 x (sI G 5 (K.1 5)) := by
      rw [hG, sI_bk]
      exact r2
    clear hG
    have G6 : G.1 6 = H.1 6 := (G1 6 (by decide)).trans (K1 6 (by decide))
    have et' : (f_X11_top G).1 = (f_X11_top H).1 := by
      show G.2 31 (G.1 6 - 1).toNatClampNeg = H.2 31 (H.1 6 - 1).toNatClampNeg
      rw [G6, G2, K2 31 (by decide)]
    have ek : G.2 14 (f_X11_top G).1.toNatClampNeg = H.2 14 (f_X11_top H).1.toNatClampNeg := by rw [et', G2, K2 14 (by decide)]
    have mu2 : mR S2 q G (f_X11_top G).1.toNatClampNeg := by
      obtain ⟨q', -, m', -, e'⟩ := (rr_top a2 r3.2.1 (hi_5 hGi (K.1 5)).ra).2 (by show ¬ G.1 6 = 0; rw [G6]; exact z)
      have e' : q' = (T1 (x + 1)).getD (G.1 6 - 1).toNatClampNeg 0 := e'
      rw [e', G6, ← eq] at m'
      exact m'
    have eq2 : q = (T1 (x + 1)).getD (G.1 6 - 1).toNatClampNeg 0 := by rw [G6]; exact eq
    have z2 : ¬ G.1 6 = 0 := by rw [G6]; exact z
    have bM : 0 ≤ (H.1 7).toInt ∧ (H.1 7).toInt ≤ 1000000 := by omega
    have h98 : (G.1 9).toInt + 1 ≤ (G.1 8).toInt ∧ (G.1 8).toInt ≤ 1000 := by
      have p9 := r.2.2.2.2.1.1.2.1
      have e8 := iAdd (x := H.1 8) (y := 1) (by rw [i1]; omega) (by rw [i1]; omega)
      rw [i1] at e8
      rw [G1 9 (by decide), K1 9 (by decide), G1 8 (by decide), K8, e8]
      omega
    unfold b_Y7_announce_89a
    by_cases o1 : o = 1
    · rw [if_pos o1]
      subst o1
      obtain ⟨S4, T4, q1, q2, q3⟩ := car_B a2 r3 hGi bM bN.2 z2 G5 h98 mu2 mq eq2 hd Y Z (by rw [ek]; exact k9 rfl)
      rw [ek, et'] at q3
      refine ⟨S4, T4, c2, q1, q2, ?_⟩
      rw [if_pos rfl]
      exact q3
    · rw [if_neg o1]
      have hr := hGi.ra
      have p1 := pend_pos hr z2
      obtain ⟨S4, T4, q1, q2, q3⟩ := p173 (o := o) a2 r3 hr z2 G5 (fun o4 => by
        have tw := two_p hGi p1 (by rw [ek, k4 o4]; decide)
        have em := topN p1
        refine ⟨(goes_i hGi p1).ra, fun y => ?_⟩
        rw [goes_e] at y
        have y : G.1 6 - 1 = 0 := y
        have := congrArg Int32.toInt y
        rw [i0] at this
        omega) (some q) hd Y Z 0
      refine ⟨S4, T4, c2, ?_, q2, ?_⟩
      · unfold b_Y7_announce_100 b_Y7_announce_122 b_Y7_announce_142 b_Y7_announce_163
        rw [if_pos rfl, if_pos rfl, if_pos rfl, if_pos rfl]
        exact q1
      · rw [if_neg o1]
        exact q3.up (by omega)
end
end
section
/-! ===== all deeds ===== -/
section
variable {wF : Prop × (Nat → Int32) × Int32 × (Nat → Int32)} {x : Nat} {S S1 S2 S3 S4 : Cst} {T T1 T2 T3 : Nat → List Nat} {F F1 : List Nat} {col c1 c2 c3 : Nat → Nat} {H H2 G R : HS} {N N2 M M2 : Int}
theorem DS.up {f : Int32 × Cst} {g : Int32 × HS} (h : DS wF N x S T col f g) (q : N ≤ N2) : DS wF N2 x S T col f g := by
  obtain ⟨S2, T2, c2, a, b, r⟩ := h
  exact ⟨S2, T2, c2, a, b, r.up q⟩
theorem se_of (h : RA H) {i : Int32} (q : ¬ (f_X11_isSeat H i).1 = 0) : sE H i := by
  rw [seat_f h] at q
  by_cases z : 0 ≤ i.toInt ∧ i.toInt < (H.1 0).toInt
  · exact z
  · rw [if_neg z] at q
    exact absurd rfl q
theorem mv26_1 {k m x1 : Int32} (hk : k = 2 ∨ k = 3) (t : H.1 36 = 0) (r : (b_X11_reasonOfMove_161 H x1 m k).1 = 0) : H.2 26 m.toNatClampNeg = 0 := by
  unfold b_X11_reasonOfMove_161 at r
  have e : (b_X11_reasonOfMove_191 H x1 m k).1 = 0 → H.2 26 m.toNatClampNeg = 0 := fun g => by
    unfold b_X11_reasonOfMove_191 b_X11_reasonOfMove_196 at g
    rw [if_neg h10] at g
    by_cases z : H.2 26 m.toNatClampNeg = 0
    · exact z
    · rw [if_neg z] at g
      exact absurd (show (5 : Int32) = 0 from g) (by decide)
  by_cases q : H.1 3 ≤ H.1 1
  · rw [if_pos q, if_pos t] at r
    rcases hk with y | y
    · rw [if_pos y] at r
      exact e r
    · rw [if_neg (by rw [y]; decide), if_pos y] at r
      exact e r
  · rw [if_neg q] at r
    exact absurd (show (4 : Int32) = 0 from r) (by decide)
theorem mv26_2 {k m x1 : Int32} (hk : k = 2 ∨ k = 3) (t : H.1 36 = 0) (r : (b_X11_reasonOfMove_127 H x1 m k).1 = 0) : H.2 26 m.toNatClampNeg = 0 := by
  unfold b_X11_reasonOfMove_127 b_X11_reasonOfMove_143 b_X11_reasonOfMove_a156 at r
  by_cases a : H.1 5 = -1
  · rw [if_pos a] at r
    exact absurd (show (2 : Int32) = 0 from r) (by decide)
  rw [if_neg a] at r
  by_cases b : H.1 5 = x1
  · rw [if_pos b] at r
    by_cases c : H.1 6 ≤ 0
    · rw [if_pos c] at r
      exact mv26_1 hk t r
    · rw [if_neg c] at r
      by_cases d : (f_X11_hasSeconder H).1 = 0
      · rw [if_pos d] at r
        exact absurd (show (3 : Int32) = 0 from r) (by decide)
      · rw [if_neg d, seconder_s] at r
        exact mv26_1 hk t r
  · rw [if_neg b] at r
    exact absurd (show (2 : Int32) = 0 from r) (by decide)
theorem mv26 (r : RR wF N S1 T1 x H) (h : HA H) {i : Int32} (z1 : ¬ H.1 35 = 0) (t : H.1 36 = 0) (q : (f_X11_reasonOfMove H i).1 = 0) : H.2 26 (hM H 1 0) = 0 := by
  have m0 : hM H 1 0 = (H.2 32 (0 : Int32).toNatClampNeg).toNatClampNeg := by rw [zn0]; rfl
  have z1' := mt iEq.mpr z1
  rw [i0] at z1'
  have b35 := (h.1.1.1 1 (by omega)).1
  have e35 : hN H 1 = (H.1 35).toInt := rfl
  have L : hL H 1 0 := ⟨by omega, by omega⟩
  have mu := (r.2.1 1 (by omega)).2 0 (r.2.1.mem L)
  by_cases k2 : H.2 14 (hM H 1 0) = 2 ∨ H.2 14 (hM H 1 0) = 3
  · unfold f_X11_reasonOfMove at q
    rw [if_neg z1, if_pos t, ← m0] at q
    unfold b_X11_reasonOfMove_34 at q
    rw [if_neg (by rcases k2 with y | y <;> rw [y] <;> decide), if_neg (by rcases k2 with y | y <;> rw [y] <;> decide), isAbout_s] at q
    unfold b_X11_reasonOfMove_a59 at q
    by_cases a : (f_X11_isAbout H (H.2 14 (hM H 1 0))).1 = 0
    · rw [if_pos a] at q
      exact absurd (show (1 : Int32) = 0 from q) (by decide)
    · rw [if_neg a] at q
      have := mv26_2 k2 t q
      rw [← m0] at this
      exact this
  · exact (mu.2.2.2.2.2.2 (fun y => k2 (Or.inl y)) (fun y => k2 (Or.inr y))).2.2
theorem lay_ab (h : HA H) {i : Int32} (q : (f_X11_reasonOfLay H i).1 = 0) (t : H.1 36 = 0) (a : H.2 25 (hM H 1 0) = 0) (k : H.2 14 (hM H 1 0) = 2 ∨ H.2 14 (hM H 1 0) = 3) : ¬ H.1 6 = 0 ∧ H.2 14 (f_X11_top H).1.toNatClampNeg ≠ 9 := by
  have m0 : hM H 1 0 = (H.2 32 (0 : Int32).toNatClampNeg).toNatClampNeg := by rw [zn0]; rfl
  rw [m0] at a k
  unfold f_X11_reasonOfLay at q
  by_cases z1 : f_X12_in i 0 7 = 0
  · rw [if_pos z1] at q
    exact absurd (show (9 : Int32) = 0 from q) (by decide)
  rw [if_neg z1] at q
  by_cases z2 : H.1 35 = 0
  · rw [if_pos z2] at q
    exact absurd (show (11 : Int32) = 0 from q) (by decide)
  rw [if_neg z2] at q
  have z2 := mt iEq.mpr z2
  rw [i0] at z2
  have hd : 1 ≤ (H.1 35).toInt := by have := h.1.ra.2.2.1; omega
  by_cases z3 : H.2 34 i.toNatClampNeg ≤ 0
  · rw [if_pos z3, hasDraft_s] at q
    unfold b_X11_reasonOfLay_a38 at q
    by_cases z4 : (f_X11_hasDraft H 2 3).1 = 0
    · rw [hasDraft_1 hd t k] at z4
      exact absurd z4 (by decide)
    rw [if_neg z4, if_pos a, isAbout_s] at q
    unfold b_X11_reasonOfLay_a70 at q
    by_cases z6 : (f_X11_isAbout H (H.2 14 (H.2 32 (0 : Int32).toNatClampNeg).toNatClampNeg)).1 = 0
    · rw [if_pos z6] at q
      exact absurd (show (1 : Int32) = 0 from q) (by decide)
    have p := isAbout_pos h.1.ra z6
    have ka := isAbout_k z6
    refine ⟨fun y => ?_, ?_⟩
    · have := congrArg Int32.toInt y
      rw [i0] at this
      omega
    · by_cases k2 : H.2 14 (H.2 32 (0 : Int32).toNatClampNeg).toNatClampNeg = 2
      · rcases ka.1 k2 with y | y | y <;> rw [y] <;> decide
      · rw [ka.2 k2]
        decide
  · rw [if_neg z3] at q
    exact absurd (show (11 : Int32) = 0 from q) (by decide)
theorem act_22 {act : Int32} (h1 : 1 ≤ act.toInt) (h2 : act.toInt ≤ 22) : act = 1 ∨ act = 2 ∨ act = 3 ∨ act = 4 ∨ act = 5 ∨ act = 6 ∨ act = 7 ∨ act = 8 ∨ act = 9 ∨ act = 10 ∨ act = 11 ∨ act = 12 ∨ act = 13 ∨ act = 14 ∨ act = 15 ∨ act = 16 ∨ act = 17 ∨ act = 18 ∨ act = 19 ∨ act = 20 ∨ act = 21 ∨ act = 22 := by
  obtain ⟨n, rfl, h3, h4⟩ : ∃ n : Nat, act = Int32.ofNat n ∧ 1 ≤ n ∧ n ≤ 22 := by
    have k := iNat (x := act) (by omega)
    refine ⟨act.toNatClampNeg, ?_, by omega, by omega⟩
    refine iEq.mpr ?_
    rw [Int32.toInt_ofNat_of_lt (by omega)]
    omega
  rcases (show n = 1 ∨ n = 2 ∨ n = 3 ∨ n = 4 ∨ n = 5 ∨ n = 6 ∨ n = 7 ∨ n = 8 ∨ n = 9 ∨ n = 10 ∨ n = 11 ∨ n = 12 ∨ n = 13 ∨ n = 14 ∨ n = 15 ∨ n = 16 ∨ n = 17 ∨ n = 18 ∨ n = 19 ∨ n = 20 ∨ n = 21 ∨ n = 22 by omega) with rfl | rfl | rfl | rfl | rfl | rfl | rfl | rfl | rfl | rfl | rfl | rfl | rfl | rfl | rfl | rfl | rfl | rfl | rfl | rfl | rfl | rfl <;> decide
theorem dq_1 (a : AS x S T col S1 T1 c1) (r : RR wF N S1 T1 x H) (h : HA H) (eN : N = (H.1 7).toInt) (h7 : (H.1 7).toInt < 600) (i b c d : Int32) (q : (f_X11_reason H 1 i b c d).1 = 0) : DS wF (N + 1) x S T col (f_Y1_perform S1 x 1 i b c d) (f_X11_does H 1 i b c d) := by
  have le : N ≤ N + 1 := by omega
  have q : (b_X11_reason_a105 (f_X11_isSeat H i).2 1 i b c d (f_X11_isSeat H i).1).1 = 0 := q
  have s := rf_105 q
  refine (ds_1 a r h i b c d (se_of h.1.ra s) ?_).up le
  unfold b_X11_reason_a105 at q
  rw [if_neg s, seat_f h.1.ra] at q
  by_cases z : H.2 11 i.toNatClampNeg = 0
  · exact z
  · have q : (if H.2 11 i.toNatClampNeg = 0 then (b_X11_reason_128 H 1 i b c d 0) else (b_X11_reason_128 H 1 i b c d 11)).1 = 0 := q
    rw [if_neg z] at q
    exact absurd (show (11 : Int32) = 0 from q) (by decide)
theorem dq_2 (a : AS x S T col S1 T1 c1) (r : RR wF N S1 T1 x H) (h : HA H) (eN : N = (H.1 7).toInt) (h7 : (H.1 7).toInt < 600) (i b c d : Int32) (q : (f_X11_reason H 2 i b c d).1 = 0) : DS wF (N + 1) x S T col (f_Y1_perform S1 x 2 i b c d) (f_X11_does H 2 i b c d) := by
  have le : N ≤ N + 1 := by omega
  have q : (b_X11_reason_129 H 2 i b c d).1 = 0 := q
  have s := rf_129 q
  refine (ds_2 a r h i b c d (se_of h.1.ra s) ?_).up le
  unfold b_X11_reason_129 b_X11_reason_a134 at q
  rw [if_neg s, seat_f h.1.ra] at q
  have q : (if H.2 11 i.toNatClampNeg = 0 then (b_X11_reason_157 H 2 i b c d 8) else (b_X11_reason_157 H 2 i b c d 0)).1 = 0 := q
  intro z
  rw [if_pos z] at q
  exact absurd (show (8 : Int32) = 0 from q) (by decide)
theorem dq_3 (a : AS x S T col S1 T1 c1) (r : RR wF N S1 T1 x H) (h : HA H) (eN : N = (H.1 7).toInt) (h7 : (H.1 7).toInt < 600) (i b c d : Int32) (q : (f_X11_reason H 3 i b c d).1 = 0) : DS wF (N + 1) x S T col (f_Y1_perform S1 x 3 i b c d) (f_X11_does H 3 i b c d) := by
  have le : N ≤ N + 1 := by omega
  exact (ds_3 a r i b c d).up le
theorem dq_4 (a : AS x S T col S1 T1 c1) (r : RR wF N S1 T1 x H) (h : HA H) (eN : N = (H.1 7).toInt) (h7 : (H.1 7).toInt < 600) (i b c d : Int32) (q : (f_X11_reason H 4 i b c d).1 = 0) : DS wF (N + 1) x S T col (f_Y1_perform S1 x 4 i b c d) (f_X11_does H 4 i b c d) := by
  have le : N ≤ N + 1 := by omega
  have q : (b_X11_reason_129 H 4 i b c d).1 = 0 := q
  exact (ds_4 a r i b c d (se_of h.1.ra (rf_129 q))).up le
theorem dq_5 (a : AS x S T col S1 T1 c1) (r : RR wF N S1 T1 x H) (h : HA H) (eN : N = (H.1 7).toInt) (h7 : (H.1 7).toInt < 600) (i b c d : Int32) (q : (f_X11_reason H 5 i b c d).1 = 0) : DS wF (N + 1) x S T col (f_Y1_perform S1 x 5 i b c d) (f_X11_does H 5 i b c d) := by
  have le : N ≤ N + 1 := by omega
  have e8 : (8 : Int32).toInt = 8 := by decide
  unfold f_X11_reason at q
  rw [if_neg (by decide), if_neg (by decide), if_neg (by decide), if_neg (by decide), if_pos rfl] at q
  by_cases z : f_X12_in i 1 8 = 0
  · rw [if_pos z] at q
    exact absurd (show (9 : Int32) = 0 from q) (by decide)
  · have s := in_of z
    rw [i1, e8] at s
    exact (ds_5 a r i b c d s).up le
theorem dq_6 (a : AS x S T col S1 T1 c1) (r : RR wF N S1 T1 x H) (h : HA H) (eN : N = (H.1 7).toInt) (h7 : (H.1 7).toInt < 600) (i b c d : Int32) (q : (f_X11_reason H 6 i b c d).1 = 0) : DS wF (N + 1) x S T col (f_Y1_perform S1 x 6 i b c d) (f_X11_does H 6 i b c d) := by
  have le : N ≤ N + 1 := by omega
  have q : (if (f_X12_in i 0 99) = 0 then (b_X11_reason_254 H 6 i b c d 9) else if (H.1 6) ≤ 0 then (b_X11_reason_254 H 6 i b c d 0) else (b_X11_reason_254 H 6 i b c d 11)).1 = 0 := q
  by_cases z : f_X12_in i 0 99 = 0
  · rw [if_pos z] at q
    exact absurd (show (9 : Int32) = 0 from q) (by decide)
  · have s := in_of z
    rw [i0] at s
    exact (ds_6 a r i b c d s.1).up le
theorem dq_7 (a : AS x S T col S1 T1 c1) (r : RR wF N S1 T1 x H) (h : HA H) (eN : N = (H.1 7).toInt) (h7 : (H.1 7).toInt < 600) (i b c d : Int32) (q : (f_X11_reason H 7 i b c d).1 = 0) : DS wF (N + 1) x S T col (f_Y1_perform S1 x 7 i b c d) (f_X11_does H 7 i b c d) := by
  have le : N ≤ N + 1 := by omega
  exact (ds_7 a r h i b c d).up le
theorem dq_8 (a : AS x S T col S1 T1 c1) (r : RR wF N S1 T1 x H) (h : HA H) (eN : N = (H.1 7).toInt) (h7 : (H.1 7).toInt < 600) (i b c d : Int32) (q : (f_X11_reason H 8 i b c d).1 = 0) : DS wF (N + 1) x S T col (f_Y1_perform S1 x 8 i b c d) (f_X11_does H 8 i b c d) := by
  have le : N ≤ N + 1 := by omega
  exact (ds_8 a r i b c d).up le
theorem dq_9 (a : AS x S T col S1 T1 c1) (r : RR wF N S1 T1 x H) (h : HA H) (eN : N = (H.1 7).toInt) (h7 : (H.1 7).toInt < 600) (i b c d : Int32) (q : (f_X11_reason H 9 i b c d).1 = 0) : DS wF (N + 1) x S T col (f_Y1_perform S1 x 9 i b c d) (f_X11_does H 9 i b c d) := by
  have le : N ≤ N + 1 := by omega
  by_cases z : H.1 6 = 0
  · have q : (if (H.1 6) = 0 then ((7 : Int32), H) else if (H.1 5) = (-1) then (b_X11_reason_401 H 9 i b c d) else if (H.1 5) = i then (b_X11_reason_a407 (f_X11_hasSeconder H).2 9 i b c d (f_X11_hasSeconder H).1) else (b_X11_reason_401 H 9 i b c d)).1 = 0 := q
    rw [if_pos z] at q
    exact absurd (show (7 : Int32) = 0 from q) (by decide)
  · exact (ds_9 a r h i b c d z).up le
theorem dq_10 (a : AS x S T col S1 T1 c1) (r : RR wF N S1 T1 x H) (h : HA H) (eN : N = (H.1 7).toInt) (h7 : (H.1 7).toInt < 600) (i b c d : Int32) (q : (f_X11_reason H 10 i b c d).1 = 0) : DS wF (N + 1) x S T col (f_Y1_perform S1 x 10 i b c d) (f_X11_does H 10 i b c d) := by
  have bN : 0 ≤ N ∧ N ≤ 1000000 := by have := h.2.1; omega
  have e8 : (8 : Int32).toInt = 8 := by decide
  have q : (if (f_X12_in i 1 8) = 0 then (b_X11_reason_454 H 10 i b c d 9) else (b_X11_reason_454 H 10 i b c d 0)).1 = 0 := q
  by_cases z : f_X12_in i 1 8 = 0
  · rw [if_pos z] at q
    exact absurd (show (9 : Int32) = 0 from q) (by decide)
  · have s := in_of z
    rw [i1, e8] at s
    exact ds_10 a r h bN i b c d s
theorem dq_11 (a : AS x S T col S1 T1 c1) (r : RR wF N S1 T1 x H) (h : HA H) (eN : N = (H.1 7).toInt) (h7 : (H.1 7).toInt < 600) (i b c d : Int32) (q : (f_X11_reason H 11 i b c d).1 = 0) : DS wF (N + 1) x S T col (f_Y1_perform S1 x 11 i b c d) (f_X11_does H 11 i b c d) := by
  have le : N ≤ N + 1 := by omega
  have q : (b_X11_reason_a461 (f_X11_hasDraft H 2 3).2 11 i b c d (f_X11_hasDraft H 2 3).1).1 = 0 := q
  have f := rf_461 q
  have z1 : ¬ H.1 35 = 0 := fun y => by
    have := congrArg Int32.toInt y
    rw [i0] at this
    omega
  refine (ds_11 a r h i b c d z1 f.2.1 ?_).up le
  rw [hasDraft_s] at q
  unfold b_X11_reason_a461 at q
  by_cases y : (f_X11_hasDraft H 2 3).1 = 0
  · rw [if_pos y] at q
    exact absurd (show (11 : Int32) = 0 from q) (by decide)
  · rw [hd_v h.1.ra, if_neg z1, if_pos f.2.1, am_in] at y
    by_cases k2 : H.2 14 (H.2 32 0).toNatClampNeg = 2
    · exact Or.inl k2
    · rw [if_neg k2] at y
      by_cases k3 : H.2 14 (H.2 32 0).toNatClampNeg = 3
      · exact Or.inr k3
      · rw [if_neg k3] at y
        exact absurd rfl y
theorem dq_12 (a : AS x S T col S1 T1 c1) (r : RR wF N S1 T1 x H) (h : HA H) (eN : N = (H.1 7).toInt) (h7 : (H.1 7).toInt < 600) (i b c d : Int32) (q : (f_X11_reason H 12 i b c d).1 = 0) : DS wF (N + 1) x S T col (f_Y1_perform S1 x 12 i b c d) (f_X11_does H 12 i b c d) := by
  have le : N ≤ N + 1 := by omega
  have q : (f_X11_reasonOfWord H i b c d).1 = 0 := q
  have f := rf_word (S := H) q (fun a b => (h.1.1.2.2.2.2.1 1 0 ⟨by omega, by have := one_n h.1 a b; omega⟩).2.1)
  have z1 : ¬ H.1 35 = 0 := fun y => by
    have := congrArg Int32.toInt y
    rw [i0] at this
    omega
  exact (ds_12 a r h i b c d z1 f.2.1 f.2.2).up le
theorem dq_13 (a : AS x S T col S1 T1 c1) (r : RR wF N S1 T1 x H) (h : HA H) (eN : N = (H.1 7).toInt) (h7 : (H.1 7).toInt < 600) (i b c d : Int32) (q : (f_X11_reason H 13 i b c d).1 = 0) : DS wF (N + 1) x S T col (f_Y1_perform S1 x 13 i b c d) (f_X11_does H 13 i b c d) := by
  have q : (f_X11_reasonOfLay H i).1 = 0 := q
  have f := rf_lay (S := H) h.1.ra q
  have w := lay_w (S := H) h.1 q
  have z1 : ¬ H.1 35 = 0 := fun y => by
    have := congrArg Int32.toInt y
    rw [i0] at this
    omega
  have n34 := (h.1.1.1 (i.toNatClampNeg + 2) (by have := iNat f.1.1; omega)).1
  have e34 : hN H (i.toNatClampNeg + 2) = (H.2 34 i.toNatClampNeg).toInt := rfl
  exact ds_13 a r h (by omega) i b c d f.1 z1 (iEq.mpr (by rw [i0]; omega)) w (lay_ab h q)
theorem dq_14 (a : AS x S T col S1 T1 c1) (r : RR wF N S1 T1 x H) (h : HA H) (eN : N = (H.1 7).toInt) (h7 : (H.1 7).toInt < 600) (i b c d : Int32) (q : (f_X11_reason H 14 i b c d).1 = 0) : DS wF (N + 1) x S T col (f_Y1_perform S1 x 14 i b c d) (f_X11_does H 14 i b c d) := by
  have q : (if (f_X12_in i 0 7) = 0 then (b_X11_reason_571 H 14 i b c d 9) else if 0 < (H.1 35) then (b_X11_reason_565 H 14 i b c d) else if (H.2 34 i.toNatClampNeg) = 0 then (b_X11_reason_565 H 14 i b c d) else (b_X11_reason_571 H 14 i b c d 0)).1 = 0 := q
  by_cases z : f_X12_in i 0 7 = 0
  · rw [if_pos z] at q
    exact absurd (show (9 : Int32) = 0 from q) (by decide)
  rw [if_neg z] at q
  by_cases y : 0 < H.1 35
  · rw [if_pos y] at q
    exact absurd (show (11 : Int32) = 0 from q) (by decide)
  rw [if_neg y] at q
  have y := mt iLt.mpr y
  rw [i0] at y
  by_cases w : H.2 34 i.toNatClampNeg = 0
  · rw [if_pos w] at q
    exact absurd (show (11 : Int32) = 0 from q) (by decide)
  have b35 := h.1.ra.2.2.1
  exact ds_14 a r h i b c d (in_07 z) (iEq.mpr (by rw [i0]; omega)) w
theorem dq_15 (a : AS x S T col S1 T1 c1) (r : RR wF N S1 T1 x H) (h : HA H) (eN : N = (H.1 7).toInt) (h7 : (H.1 7).toInt < 600) (i b c d : Int32) (q : (f_X11_reason H 15 i b c d).1 = 0) : DS wF (N + 1) x S T col (f_Y1_perform S1 x 15 i b c d) (f_X11_does H 15 i b c d) := by
  have bN : 0 ≤ N ∧ N ≤ 1000000 := by have := h.2.1; omega
  have q : (f_X11_reasonOfMove H i).1 = 0 := q
  have f := rf_move h.1 (by have := h.2.1; omega) q
  have z1 : ¬ H.1 35 = 0 := fun y => by
    have := congrArg Int32.toInt y
    rw [i0] at this
    omega
  exact ds_15 a r h bN i b c d z1 f.2.1 f.2.2 (fun t => mv26 r h z1 t q)
theorem dq_16 (a : AS x S T col S1 T1 c1) (r : RR wF N S1 T1 x H) (h : HA H) (eN : N = (H.1 7).toInt) (h7 : (H.1 7).toInt < 600) (i b c d : Int32) (q : (f_X11_reason H 16 i b c d).1 = 0) : DS wF (N + 1) x S T col (f_Y1_perform S1 x 16 i b c d) (f_X11_does H 16 i b c d) := by
  have le : N ≤ N + 1 := by omega
  by_cases z : H.1 6 = 0
  · have q : (if (H.1 6) = 0 then ((7 : Int32), H) else (b_X11_reason_a593 (f_X11_isSeat H i).2 16 i b c d (f_X11_isSeat H i).1)).1 = 0 := q
    rw [if_pos z] at q
    exact absurd (show (7 : Int32) = 0 from q) (by decide)
  · exact (ds_16 a r h 16 i b c d (Or.inl rfl) z).up le
theorem dq_17 (a : AS x S T col S1 T1 c1) (r : RR wF N S1 T1 x H) (h : HA H) (eN : N = (H.1 7).toInt) (h7 : (H.1 7).toInt < 600) (i b c d : Int32) (q : (f_X11_reason H 17 i b c d).1 = 0) : DS wF (N + 1) x S T col (f_Y1_perform S1 x 17 i b c d) (f_X11_does H 17 i b c d) := by
  have le : N ≤ N + 1 := by omega
  have q : (if (H.1 6) = 0 then ((7 : Int32), H) else (b_X11_reason_a676 (f_X11_isSeat H i).2 17 i b c d (f_X11_isSeat H i).1)).1 = 0 := q
  by_cases z : H.1 6 = 0
  · rw [if_pos z] at q
    exact absurd (show (7 : Int32) = 0 from q) (by decide)
  rw [if_neg z] at q
  unfold b_X11_reason_a676 at q
  by_cases s : (f_X11_isSeat H i).1 = 0
  · rw [if_pos s] at q
    exact absurd (show (9 : Int32) = 0 from q) (by decide)
  rw [if_neg s] at q
  by_cases w : f_X12_in b 0 2 = 0
  · rw [if_pos w] at q
    exact absurd (show (9 : Int32) = 0 from q) (by decide)
  have ww := in_of w
  have e2 : (2 : Int32).toInt = 2 := by decide
  rw [i0, e2] at ww
  exact (ds_17 a r h i b c d z (se_of h.1.ra s) ww).up le
theorem dq_18 (a : AS x S T col S1 T1 c1) (r : RR wF N S1 T1 x H) (h : HA H) (eN : N = (H.1 7).toInt) (h7 : (H.1 7).toInt < 600) (i b c d : Int32) (q : (f_X11_reason H 18 i b c d).1 = 0) : DS wF (N + 1) x S T col (f_Y1_perform S1 x 18 i b c d) (f_X11_does H 18 i b c d) := by
  have le : N ≤ N + 1 := by omega
  by_cases z : H.1 6 = 0
  · have q : (if (H.1 6) = 0 then ((7 : Int32), H) else (b_X11_reason_a734 (f_X11_top H).2 18 i b c d (f_X11_top H).1)).1 = 0 := q
    rw [if_pos z] at q
    exact absurd (show (7 : Int32) = 0 from q) (by decide)
  · exact (ds_18 a r h i b c d z).up le
theorem dq_19 (a : AS x S T col S1 T1 c1) (r : RR wF N S1 T1 x H) (h : HA H) (eN : N = (H.1 7).toInt) (h7 : (H.1 7).toInt < 600) (i b c d : Int32) (q : (f_X11_reason H 19 i b c d).1 = 0) : DS wF (N + 1) x S T col (f_Y1_perform S1 x 19 i b c d) (f_X11_does H 19 i b c d) := by
  have bN : 0 ≤ N ∧ N ≤ 1000000 := by have := h.2.1; omega
  have q : (b_X11_reason_a778 (f_X11_isHere H (H.1 2)).2 19 i b c d (f_X11_isHere H (H.1 2)).1).1 = 0 := q
  rw [sf_X11_isHere] at q
  unfold b_X11_reason_a778 at q
  by_cases y : (f_X11_isHere H (H.1 2)).1 = 0
  · rw [if_pos y] at q
    exact absurd (show (8 : Int32) = 0 from q) (by decide)
  rw [if_neg y] at q
  by_cases z : H.1 6 = 0
  · rw [if_pos z] at q
    exact absurd (show (7 : Int32) = 0 from q) (by decide)
  rw [if_neg z, top_s] at q
  unfold b_X11_reason_a802 at q
  by_cases w : H.2 14 (f_X11_top H).1.toNatClampNeg = 9
  · rw [if_pos w] at q
    exact absurd (show (11 : Int32) = 0 from q) (by decide)
  rw [if_neg w] at q
  by_cases u : H.1 6 = 9
  · rw [if_pos u] at q
    exact absurd (show (10 : Int32) = 0 from q) (by decide)
  have u := mt iEq.mpr u
  have e9 : (9 : Int32).toInt = 9 := by decide
  rw [e9] at u
  have n6 := h.1.ra.2.1
  exact ds_19 a r h bN i b c d ⟨pend_pos h.1.ra z, by omega⟩
theorem dq_20 (a : AS x S T col S1 T1 c1) (r : RR wF N S1 T1 x H) (h : HA H) (eN : N = (H.1 7).toInt) (h7 : (H.1 7).toInt < 600) (i b c d : Int32) (q : (f_X11_reason H 20 i b c d).1 = 0) : DS wF (N + 1) x S T col (f_Y1_perform S1 x 20 i b c d) (f_X11_does H 20 i b c d) := by
  have le : N ≤ N + 1 := by omega
  by_cases z : H.1 6 = 0
  · have q : (if (H.1 6) = 0 then ((7 : Int32), H) else (b_X11_reason_a845 (f_X11_top H).2 20 i b c d (f_X11_top H).1)).1 = 0 := q
    rw [if_pos z] at q
    exact absurd (show (7 : Int32) = 0 from q) (by decide)
  · exact (ds_16 a r h 20 i b c d (Or.inr rfl) z).up le
theorem dq_21 (a : AS x S T col S1 T1 c1) (r : RR wF N S1 T1 x H) (h : HA H) (eN : N = (H.1 7).toInt) (h7 : (H.1 7).toInt < 600) (i b c d : Int32) (q : (f_X11_reason H 21 i b c d).1 = 0) : DS wF (N + 1) x S T col (f_Y1_perform S1 x 21 i b c d) (f_X11_does H 21 i b c d) := by
  have bN : 0 ≤ N ∧ N ≤ 1000000 := by have := h.2.1; omega
  have q : (b_X11_reason_a906 (f_X11_isHere H (H.1 2)).2 21 i b c d (f_X11_isHere H (H.1 2)).1).1 = 0 := q
  rw [sf_X11_isHere] at q
  unfold b_X11_reason_a906 at q
  by_cases y : (f_X11_isHere H (H.1 2)).1 = 0
  · rw [if_pos y] at q
    exact absurd (show (8 : Int32) = 0 from q) (by decide)
  rw [if_neg y] at q
  by_cases z : H.1 6 = 0
  · rw [if_pos z] at q
    exact absurd (show (7 : Int32) = 0 from q) (by decide)
  exact ds_21 a r h bN i b c d z h7
theorem dq_22 (a : AS x S T col S1 T1 c1) (r : RR wF N S1 T1 x H) (h : HA H) (eN : N = (H.1 7).toInt) (h7 : (H.1 7).toInt < 600) (i b c d : Int32) (q : (f_X11_reason H 22 i b c d).1 = 0) : DS wF (N + 1) x S T col (f_Y1_perform S1 x 22 i b c d) (f_X11_does H 22 i b c d) := by
  have bN : 0 ≤ N ∧ N ≤ 1000000 := by have := h.2.1; omega
  exact ds_22 a r h bN i b c d
theorem ds_all (a : AS x S T col S1 T1 c1) (r : RR wF N S1 T1 x H) (h : HA H) (eN : N = (H.1 7).toInt) (h7 : (H.1 7).toInt < 600) (act i b c d : Int32) (h1 : 1 ≤ act.toInt) (h2 : act.toInt ≤ 22) (q : (f_X11_reason H act i b c d).1 = 0) : DS wF (N + 1) x S T col (f_Y1_perform S1 x act i b c d) (f_X11_does H act i b c d) := by
  rcases act_22 h1 h2 with rfl | rfl | rfl | rfl | rfl | rfl | rfl | rfl | rfl | rfl | rfl | rfl | rfl | rfl | rfl | rfl | rfl | rfl | rfl | rfl | rfl | rfl
  · exact dq_1 a r h eN h7 i b c d q
  · exact dq_2 a r h eN h7 i b c d q
  · exact dq_3 a r h eN h7 i b c d q
  · exact dq_4 a r h eN h7 i b c d q
  · exact dq_5 a r h eN h7 i b c d q
  · exact dq_6 a r h eN h7 i b c d q
  · exact dq_7 a r h eN h7 i b c d q
  · exact dq_8 a r h eN h7 i b c d q
  · exact dq_9 a r h eN h7 i b c d q
  · exact dq_10 a r h eN h7 i b c d q
  · exact dq_11 a r h eN h7 i b c d q
  · exact dq_12 a r h eN h7 i b c d q
  · exact dq_13 a r h eN h7 i b c d q
  · exact dq_14 a r h eN h7 i b c d q
  · exact dq_15 a r h eN h7 i b c d q
  · exact dq_16 a r h eN h7 i b c d q
  · exact dq_17 a r h eN h7 i b c d q
  · exact dq_18 a r h eN h7 i b c d q
  · exact dq_19 a r h eN h7 i b c d q
  · exact dq_20 a r h eN h7 i b c d q
  · exact dq_21 a r h eN h7 i b c d q
  · exact dq_22 a r h eN h7 i b c d q
end
end
section
/-! ===== an act, in both ===== -/
section
variable {wF : Prop × (Nat → Int32) × Int32 × (Nat → Int32)} {x : Nat} {S S1 S2 S3 S4 : Cst} {T T1 T2 T3 : Nat → List Nat} {F F1 : List Nat} {col c1 c2 c3 : Nat → Nat} {H H2 G R : HS} {N N2 M M2 : Int} {z : (Nat → Int32) × Int32 × (Nat → Int32)}
/-- nothing known of the reason kept -/
theorem RR.lo (r : RR wF N S T x H) (w : Int32) : RR (False, wF.2) N S T x (sI H 10 w) := by
  obtain ⟨a, b, c, d, ⟨⟨e1, e2⟩, s⟩, n⟩ := r
  exact ⟨a, b, c, d, ⟨⟨⟨e1.1, fun f => f.elim⟩, e2⟩, s⟩, n⟩
theorem RR.lo0 (r : RR wF N S T x H) : RR (False, wF.2) N S T x H := by
  obtain ⟨a, b, c, d, ⟨⟨e1, e2⟩, s⟩, n⟩ := r
  exact ⟨a, b, c, d, ⟨⟨⟨e1.1, fun f => f.elim⟩, e2⟩, s⟩, n⟩
theorem RR.hi (r : RR (False, z) N S T x H) (e : giC S x 9 = H.1 10) : RR (True, z) N S T x H := by
  obtain ⟨a, b, c, d, ⟨⟨e1, e2⟩, s⟩, n⟩ := r
  exact ⟨a, b, c, d, ⟨⟨⟨e1.1, fun _ => e⟩, e2⟩, s⟩, n⟩
/-- the reason kept, in both -/
theorem RR.w9 (a : AS x S T col S1 T1 c1) (r : RR wF N S1 T1 x H) (v : Int32) : AS x S T col (siC S1 x 9 v) T1 c1 ∧ RR (True, wF.2) N (siC S1 x 9 v) T1 x (sI H 10 v) := by
  have u := (QU.rf a.1).aI 9 v
  have G : gX (fun z => z = x) S1 (siC S1 x 9 v) := gX.si S1 x 9 v
  have r0 := r.lo v
  have gx : ∀ k, k ≠ 9 → giC (siC S1 x 9 v) x k = giC S1 x k := fun k n => by rw [gi_si, if_neg (fun y => n y.2)]
  refine ⟨⟨u.1, a.2.kp a.ci a.k1 u.2.1 (fun _ _ _ => rfl)⟩, RR.hi (r0.fr a.ci a.k1 G rfl ⟨⟨rfl, rfl, rfl, rfl, rfl⟩, fun _ _ _ => rfl⟩ (fun q k j hj y => (mo_x a.ci a.k1 k hj).1 y) (fun d o y => ik_ne (pl.lt a.ci a.k1 o) a.k1 (by decide) y) (fun l hl => ⟨fun y => ?_, fun y => ?_⟩) (gx 8 (by decide)) (r0.1.gx G a.ci a.k1 (fun y => by omega) (fun y => by omega) (fun y => by omega) (fun _ _ => rfl) ⟨rfl, rfl⟩) ?_ ⟨rfl, rfl, rfl, rfl⟩) (by rw [gi_si, if_pos ⟨rfl, rfl⟩]; rfl)⟩
  · rcases hl with rfl | rfl <;> omega
  · exact ik_ne (zl_k a.ci a.k1 hl).2 a.k1 (by decide) y
  · obtain ⟨⟨e1, e2⟩, e3, e4, e5, e6⟩ := r0.2.2.2.2.1.1
    refine ⟨⟨(gx 7 (by decide)).trans e1, fun f => f.elim⟩, e3, fun y => ?_, fun y => ?_, fun i hi => ?_⟩
    · rw [gi_si, if_neg (fun y => by omega)]
      exact e4 y
    · rw [gi_si, if_neg (fun y => by omega)]
      exact e5 y
    · rw [gi_si, if_neg (fun y => by omega)]
      exact e6 i hi
/-- the reason does not hang on the one kept -/
theorem rz_10 (a : AS x S T col S1 T1 c1) (r : RR wF N S1 T1 x H) (h : HA H) (w act i b c d : Int32) (h1 : 1 ≤ act.toInt) (h2 : act.toInt ≤ 22) : rz (sI H 10 w) act i b c d = rz H act i b c d := by
  rw [← rs_all a r h act i b c d h1 h2, ← rs_all a (r.lo w) (ha_10 h w) act i b c d h1 h2]
theorem rz_0 {act i b c d : Int32} (e : rz H act i b c d = 0) : (f_X11_reason H act i b c d).1 = 0 ∧ H.1 7 ≠ 600 := by
  unfold rz at e
  by_cases z : (f_X11_reason H act i b c d).1 = 0
  · rw [if_pos z] at e
    refine ⟨z, fun y => ?_⟩
    rw [if_pos y] at e
    exact absurd e (by decide)
  · rw [if_neg z] at e
    exact absurd e z
theorem rz_n (H : HS) (act i b c d : Int32) : 0 ≤ (rz H act i b c d).toInt := by
  have n := nf_X11_reason H act i b c d
  unfold NN at n
  have n := iLe.mp n
  rw [i0] at n
  unfold rz
  split
  · split <;> decide
  · exact n
/-- piles are the state's -/
theorem T_eq (a : CI noE S1 T1 F c1) (b : CI noE S1 T2 F1 c2) {P : Nat} (k : iK S1 P 4) : T1 P = T2 P := by
  obtain ⟨a1, a2, a3⟩ := a.tp P (noE_n _) k
  obtain ⟨b1, b2, b3⟩ := b.tp P (noE_n _) k
  have l : (T1 P).length = (T2 P).length := by omega
  refine List.ext_getElem l (fun i h1 h2 => ?_)
  have e1 := a3 i h1
  have e2 := b3 i h2
  rw [e1] at e2
  have e := Option.some.inj e2
  rw [List.getD_eq_getElem?_getD, List.getD_eq_getElem?_getD, List.getElem?_eq_getElem h1, List.getElem?_eq_getElem h2] at e
  exact e
theorem rP_k (wf : wfS S1) (k : iK S1 x 0) {g : Nat} (hg : g < 10) : iK S1 (rP x g) 4 := by
  have w0 := wf.w0 k
  match g, hg with
  | 0, _ => exact w0.1.2.1
  | 1, _ => exact (wf.w5 w0.1.2.2.1).1
  | p + 2, hg => exact (wf.w5 (dk_ix wf k (show p < 8 by omega)).2).1
theorem RR.tP (r : RR wF N S1 T1 x H) (e : ∀ g, g < 10 → T2 (rP x g) = T1 (rP x g)) : RR wF N S1 T2 x H := by
  obtain ⟨a, b, ⟨c1, c2, c3, c4, c5⟩, d, f, n1, n2, n3, n4⟩ := r
  refine ⟨a, fun g hg => ?_, ⟨c1, c2, fun g hg l t => ?_, c4, c5⟩, d, f, n1, fun g i l t => ?_, fun g i g' i' l t l' t' => ?_, fun j l t y k => ?_⟩
  · rw [e g hg]
    exact b g hg
  · rw [e g hg]
    exact c3 g hg l t
  · rw [e g l.1]
    exact n2 g i l t
  · rw [e g l.1, e g' l'.1]
    exact n3 g i g' i' l t l' t'
  · obtain ⟨p1, p2, p3, p4⟩ := n4 j l t y k
    rw [e j l.1]
    refine ⟨p1, p2, fun g i l' t' => ?_, p4⟩
    rw [e g l'.1]
    exact p3 g i l' t'
/-- numbers beyond the act's are 0 -/
def nz (act i b c d : Int32) : Prop := (f_X12_numbers act ≤ 0 → i = 0) ∧ (f_X12_numbers act ≤ 1 → b = 0) ∧ (f_X12_numbers act ≤ 2 → c = 0) ∧ (f_X12_numbers act ≤ 3 → d = 0)
theorem n6 {y : Int32} (hy : 0 ≤ y.toInt ∧ y.toInt < 600) {j : Int32} (hj : 0 ≤ j.toInt ∧ j.toInt ≤ 5) : (6 * y).toNatClampNeg = 6 * y.toNatClampNeg ∧ ((6 * y) + j).toNatClampNeg = 6 * y.toNatClampNeg + j.toNatClampNeg := by
  have e6 : (6 : Int32).toInt = 6 := by decide
  have m := iMul (x := 6) (y := y) (n := 6 * y.toInt) (by rw [e6]) (by omega) (by omega)
  have a := iAdd (x := 6 * y) (y := j) (by rw [m]; omega) (by rw [m]; omega)
  rw [m] at a
  have k := iNat (x := (6 * y) + j) (by omega)
  have k0 := iNat (x := 6 * y) (by omega)
  have k1 := iNat hy.1
  have k2 := iNat hj.1
  exact ⟨by omega, by omega⟩
theorem a58_v (h7 : 0 ≤ (G.1 7).toInt ∧ (G.1 7).toInt < 600) {act i b c d : Int32} (z : nz act i b c d) (x6 v : Int32) : b_X11_act_a58 G act i b c d x6 v = (v, miH G act i b c d v) := by
  obtain ⟨z1, z2, z3, z4⟩ := z
  have e0 := (n6 h7 (j := 0) (by decide)).1
  have e1 := (n6 h7 (j := 1) (by decide)).2
  have e2 := (n6 h7 (j := 2) (by decide)).2
  have e3 := (n6 h7 (j := 3) (by decide)).2
  have e4 := (n6 h7 (j := 4) (by decide)).2
  have e5 := (n6 h7 (j := 5) (by decide)).2
  have m1 : (1 : Int32).toNatClampNeg = 1 := by decide
  have m2 : (2 : Int32).toNatClampNeg = 2 := by decide
  have m3 : (3 : Int32).toNatClampNeg = 3 := by decide
  have m4 : (4 : Int32).toNatClampNeg = 4 := by decide
  have m5 : (5 : Int32).toNatClampNeg = 5 := by decide
  rw [m1] at e1
  rw [m2] at e2
  rw [m3] at e3
  rw [m4] at e4
  rw [m5] at e5
  have l4 : ∀ (P : HS) (y0 y1 : Int32), b_X11_act_142 P act i b c d x6 v (6 * G.1 7) (f_X12_numbers act) y0 y1 = b_X11_act_163 (sA P 40 y1.toNatClampNeg y0) act i b c d x6 v (6 * G.1 7) (f_X12_numbers act) d ((6 * G.1 7) + 4) := fun P y0 y1 => by
    unfold b_X11_act_142
    by_cases q : f_X12_numbers act ≤ 3
    · rw [if_pos q, z4 q]
    · rw [if_neg q]
  have l3 : ∀ (P : HS) (y0 y1 : Int32), b_X11_act_121 P act i b c d x6 v (6 * G.1 7) (f_X12_numbers act) y0 y1 = b_X11_act_142 (sA P 40 y1.toNatClampNeg y0) act i b c d x6 v (6 * G.1 7) (f_X12_numbers act) c ((6 * G.1 7) + 3) := fun P y0 y1 => by
    unfold b_X11_act_121
    by_cases q : f_X12_numbers act ≤ 2
    · rw [if_pos q, z3 q]
    · rw [if_neg q]
  have l2 : ∀ (P : HS) (y0 y1 : Int32), b_X11_act_101 P act i b c d x6 v (6 * G.1 7) (f_X12_numbers act) y0 y1 = b_X11_act_121 (sA P 40 y1.toNatClampNeg y0) act i b c d x6 v (6 * G.1 7) (f_X12_numbers act) b ((6 * G.1 7) + 2) := fun P y0 y1 => by
    unfold b_X11_act_101
    by_cases q : f_X12_numbers act ≤ 1
    · rw [if_pos q, z2 q]
    · rw [if_neg q]
  have l1 : b_X11_act_a58 G act i b c d x6 v = b_X11_act_101 (sA G 40 (6 * (G.1 7)).toNatClampNeg act) act i b c d x6 v (6 * G.1 7) (f_X12_numbers act) i ((6 * G.1 7) + 1) := by
    unfold b_X11_act_a58
    by_cases q : f_X12_numbers act ≤ 0
    · rw [if_pos q, z1 q]
    · rw [if_neg q]
  rw [l1, l2, l3, l4]
  unfold b_X11_act_163
  rw [e0, e1, e2, e3, e4, e5]
  rfl
/-- an act, in both -/
theorem act_sim (a : AS x S T col S1 T1 c1) (r : RR wF N S1 T1 x H) (h : HA H) (eN : N = (H.1 7).toInt) {act i b c d : Int32} (h1 : 1 ≤ act.toInt) (h2 : act.toInt ≤ 22) (z : nz act i b c d) : ∃ S3 T3 c3, f_Y0_enact S1 x act i b c d = ((f_X11_act H act i b c d).1, S3) ∧ AS x S T col S3 T3 c3 ∧ (rz H act i b c d ≠ 0 → f_X11_act H act i b c d = (-(rz H act i b c d), sI H 10 (rz H act i b c d)) ∧ S3 = siC S1 x 9 (rz H act i b c d) ∧ T3 = T1 ∧ RR (True, wF.2) N S3 T3 x (sI H 10 (rz H act i b c d))) ∧ (rz H act i b c d = 0 → ∃ v D, f_X11_act H act i b c d = (v, miH D act i b c d v) ∧ (D.1 7 = H.1 7 ∧ (H.1 7).toInt < 600 ∧ D.1 0 = H.1 0 ∧ D.2 40 = H.2 40) ∧ RR (True, upd wF.2.1 (H.1 7).toNatClampNeg (D.1 6), wF.2.2.1, (miH D act i b c d v).2 40) (N + 1) S3 T3 x (miH D act i b c d v)) := by
  have e1 := rs_all a r h act i b c d h1 h2
  have hn := rz_n H act i b c d
  have e9 : giC (siC S1 x 9 (rz H act i b c d)) x 9 = rz H act i b c d := by rw [gi_si, if_pos ⟨rfl, rfl⟩]
  obtain ⟨a2, r2⟩ := r.w9 a (rz H act i b c d)
  by_cases q : rz H act i b c d = 0
  · obtain ⟨q1, q2⟩ := rz_0 q
    have q2' := mt iEq.mpr q2
    have e6 : (600 : Int32).toInt = 600 := by decide
    rw [e6] at q2'
    have h7 := h.2.1
    have q3 : (f_X11_reason (sI H 10 0) act i b c d).1 = 0 := (rz_0 ((rz_10 a r h 0 act i b c d h1 h2).trans q)).1
    rw [q] at a2 r2
    obtain ⟨S2, T2, c2, f2, s2, r3⟩ := ds_all a2 r2 (ha_10 h 0) eN (by show (H.1 7).toInt < 600; omega) act i b c d h1 h2 q3
    have D7 := (does_i h.1 h7.1 (by omega) ⟨h.2.2.1, by have := h.2.2.2; omega⟩ 0 act i b c d q1).2.2.1
    have D7 : (f_X11_does (sI H 10 0) act i b c d).2.1 7 = H.1 7 := D7
    have ea : f_X11_act H act i b c d = b_X11_act_a58 (f_X11_does (sI H 10 0) act i b c d).2 act i b c d 0 (f_X11_does (sI H 10 0) act i b c d).1 := by
      unfold f_X11_act b_X11_act_a11 b_X11_act_32
      rw [sf_X11_reason, q1, if_pos rfl, if_neg q2, if_pos (by decide)]
    rw [a58_v (by rw [D7]; omega) z] at ea
    have ec : f_Y0_enact S1 x act i b c d = b_Y0_enact_39a S2 x act i b c d (f_X11_does (sI H 10 0) act i b c d).1 := by
      unfold f_Y0_enact b_Y0_enact_36a
      rw [e1, e9, if_pos q, q, f2]
    generalize (f_X11_does (sI H 10 0) act i b c d).2 = D at *
    generalize (f_X11_does (sI H 10 0) act i b c d).1 = v at *
    obtain ⟨S3, c3, f3, g3, -, r4, -⟩ := min_v s2 r3 (by rw [D7]; omega) act i b c d v
    obtain ⟨v', S4, T4, c4, f4, -, a4, -⟩ := y_enact a act i b c d
    obtain ⟨-, rfl⟩ := Prod.mk.inj ((ec.trans f3).symm.trans f4)
    have k1 : D.1 0 = H.1 0 := r3.2.2.2.2.1.2.2.1.trans r2.2.2.2.2.1.2.2.1.symm
    have k2 : D.2 40 = H.2 40 := r3.2.2.2.2.1.2.2.2.trans r2.2.2.2.2.1.2.2.2.symm
    refine ⟨S3, T4, c4, ?_, a4, fun y => absurd q y, fun _ => ⟨v, D, ea, ⟨D7, by omega, k1, k2⟩, ?_⟩⟩
    · rw [ec, f3, ea]
    · rw [← D7]
      exact RR.tP r4 (fun g hg => T_eq a4.ci g3.1 (rP_k a4.ci.wf a4.k1 hg))
  · have q' := mt iEq.mpr q
    rw [i0] at q'
    have ea : f_X11_act H act i b c d = (-(rz H act i b c d), sI H 10 (rz H act i b c d)) := by
      have l : ∀ w, rz H act i b c d = w → b_X11_act_32 H act i b c d w = (-w, sI H 10 w) := fun w e => by
        unfold b_X11_act_32
        rw [if_neg (fun y => by have := iLe.mp y; rw [i0, ← e] at this; omega)]
      unfold f_X11_act b_X11_act_a11
      rw [sf_X11_reason]
      by_cases z1 : (f_X11_reason H act i b c d).1 = 0
      · rw [if_pos z1]
        by_cases z2 : H.1 7 = 600
        · have e : rz H act i b c d = 10 := by
            unfold rz
            rw [if_pos z1, if_pos z2]
          rw [if_pos z2, l 10 e, e]
        · exfalso
          apply q
          unfold rz
          rw [if_pos z1, if_neg z2]
      · have e : rz H act i b c d = (f_X11_reason H act i b c d).1 := by
          unfold rz
          rw [if_neg z1]
        rw [if_neg z1, l _ e, e]
    refine ⟨_, T1, c1, ?_, a2, fun _ => ⟨ea, rfl, rfl, r2⟩, fun y => absurd y q⟩
    rw [ea]
    unfold f_Y0_enact
    rw [e1, e9, if_neg q]
end
end
section
/-! ===== begun anew, in both ===== -/
section
variable {wF : Prop × (Nat → Int32) × Int32 × (Nat → Int32)} {x y : Nat} {S S1 S2 S3 S4 : Cst} {T T1 T2 T3 : Nat → List Nat} {F F1 : List Nat} {col c1 c2 c3 : Nat → Nat} {H H2 G R : HS} {N N2 M M2 : Int}
theorem bg141 (x1 : Int32) : ∀ (n : Nat) (S : HS) (x : Int32), 0 ≤ x.toInt → x.toInt ≤ 8 → 8 - x.toInt < n → ∃ u, (lp_X11_begin_141 n S x1 x).2 = sR S 34 u := by
  intro n
  induction n with
  | zero => intro S x a b c; omega
  | succ n ih =>
    intro S x a b c
    rw [lp_X11_begin_141]
    unfold st_X11_begin_141
    have e8 : (8 : Int32).toInt = 8 := by decide
    by_cases z : 8 ≤ x
    · rw [if_pos z]
      exact ⟨S.2 34, by rw [sR_id]⟩
    · rw [if_neg z]
      have z := mt iLe.mpr z
      rw [e8] at z
      have e := iAdd (x := x) (y := 1) (by rw [i1]; omega) (by rw [i1]; omega)
      rw [i1] at e
      obtain ⟨u, g⟩ := ih (sA S 34 x.toNatClampNeg 0) (x + 1) (by omega) (by omega) (by omega)
      rw [sR_sA] at g
      exact ⟨u, g⟩
theorem bg120 (x1 : Int32) : ∀ (n : Nat) (S : HS) (x : Int32), 0 ≤ x.toInt → x.toInt ≤ 90 → 90 - x.toInt < n → ∃ w u, (lp_X11_begin_120 n S x1 x).2 = sR (sR S 13 w) 34 u := by
  intro n
  induction n with
  | zero => intro S x a b c; omega
  | succ n ih =>
    intro S x a b c
    rw [lp_X11_begin_120]
    unfold st_X11_begin_120
    have e9 : (90 : Int32).toInt = 90 := by decide
    by_cases z : 90 ≤ x
    · rw [if_pos z]
      obtain ⟨u, g⟩ := bg141 x1 100000 S 0 (by rw [i0]; omega) (by rw [i0]; omega) (by rw [i0]; omega)
      exact ⟨S.2 13, u, by rw [sR_id]; exact g⟩
    · rw [if_neg z]
      have z := mt iLe.mpr z
      rw [e9] at z
      have e := iAdd (x := x) (y := 1) (by rw [i1]; omega) (by rw [i1]; omega)
      rw [i1] at e
      obtain ⟨w, u, g⟩ := ih (sA S 13 x.toNatClampNeg 0) (x + 1) (by omega) (by omega) (by omega)
      rw [sR_sA] at g
      exact ⟨w, u, g⟩
/-- the majorities at the start -/
def mj0 (k : Nat) : Int32 := if k = 6 then 2 else 1
theorem bg89 (x1 : Int32) : ∀ (n : Nat) (S : HS) (x : Int32), 0 ≤ x.toInt → x.toInt ≤ 9 → 9 - x.toInt < n → ∃ v w u, (lp_X11_begin_89 n S x1 x).2 = sR (sR (sR S 12 v) 13 w) 34 u ∧ (∀ j, x.toNatClampNeg ≤ j → j < 9 → v j = mj0 j) ∧ ∀ j, j < x.toNatClampNeg → v j = S.2 12 j := by
  intro n
  induction n with
  | zero => intro S x a b c; omega
  | succ n ih =>
    intro S x a b c
    rw [lp_X11_begin_89]
    unfold st_X11_begin_89 b_X11_begin_111
    have e9 : (9 : Int32).toInt = 9 := by decide
    have k := iNat a
    by_cases z : 9 ≤ x
    · rw [if_pos z]
      have z := iLe.mp z
      rw [e9] at z
      obtain ⟨w, u, g⟩ := bg120 x1 100000 S 0 (by rw [i0]; omega) (by rw [i0]; omega) (by rw [i0]; omega)
      exact ⟨S.2 12, w, u, by rw [sR_id]; exact g, fun j h1 h2 => by omega, fun _ _ => rfl⟩
    · rw [if_neg z]
      have z := mt iLe.mpr z
      rw [e9] at z
      have e := iAdd (x := x) (y := 1) (by rw [i1]; omega) (by rw [i1]; omega)
      rw [i1] at e
      have k2 := iNat (x := x + 1) (by omega)
      have e6 : (6 : Int32).toInt = 6 := by decide
      have m : ∀ w : Int32, mj0 x.toNatClampNeg = w → ∃ v w' u, (lp_X11_begin_89 n (sA S 12 x.toNatClampNeg w) x1 (x + 1)).2 = sR (sR (sR S 12 v) 13 w') 34 u ∧ (∀ j, x.toNatClampNeg ≤ j → j < 9 → v j = mj0 j) ∧ ∀ j, j < x.toNatClampNeg → v j = S.2 12 j := fun w hw => by
        obtain ⟨v, w', u, g, g2, g3⟩ := ih (sA S 12 x.toNatClampNeg w) (x + 1) (by omega) (by omega) (by omega)
        rw [sR_sA] at g
        have g3 : ∀ j, j < (x + 1).toNatClampNeg → v j = upd (S.2 12) x.toNatClampNeg w j := g3
        refine ⟨v, w', u, g, fun j h1 h2 => ?_, fun j h1 => ?_⟩
        · by_cases q : j = x.toNatClampNeg
          · rw [g3 j (by omega), q, upd_eq, hw]
          · exact g2 j (by omega) h2
        · rw [g3 j (by omega)]
          exact upd_ne (by omega)
      by_cases q : x = 6
      · rw [if_pos q]
        exact m 2 (by rw [q]; decide)
      · rw [if_neg q]
        have q' := mt iEq.mpr q
        rw [e6] at q'
        exact m 1 (if_neg (by omega))
theorem bg67 (x1 : Int32) : ∀ (n : Nat) (S : HS) (x : Int32), 0 ≤ x.toInt → x.toInt ≤ 200 → 200 - x.toInt < n → ∃ t v w u, (lp_X11_begin_67 n S x1 x).2 = sR (sR (sR (sR S 11 t) 12 v) 13 w) 34 u ∧ (∀ s, x.toNatClampNeg ≤ s → s < 200 → t s = 0) ∧ (∀ s, s < x.toNatClampNeg → t s = S.2 11 s) ∧ ∀ j, j < 9 → v j = mj0 j := by
  intro n
  induction n with
  | zero => intro S x a b c; omega
  | succ n ih =>
    intro S x a b c
    rw [lp_X11_begin_67]
    unfold st_X11_begin_67
    have k := iNat a
    by_cases z : 200 ≤ x
    · rw [if_pos z]
      have z := iLe.mp z
      rw [i200] at z
      obtain ⟨v, w, u, g, g2, -⟩ := bg89 x1 100000 S 0 (by rw [i0]; omega) (by rw [i0]; omega) (by rw [i0]; omega)
      rw [zn0] at g2
      exact ⟨S.2 11, v, w, u, by rw [sR_id]; exact g, fun s h1 h2 => by omega, fun _ _ => rfl, fun j hj => g2 j (Nat.zero_le _) hj⟩
    · rw [if_neg z]
      have z := mt iLe.mpr z
      rw [i200] at z
      have e := iAdd (x := x) (y := 1) (by rw [i1]; omega) (by rw [i1]; omega)
      rw [i1] at e
      have k2 := iNat (x := x + 1) (by omega)
      obtain ⟨t, v, w, u, g, g2, g3, g4⟩ := ih (sA S 11 x.toNatClampNeg 0) (x + 1) (by omega) (by omega) (by omega)
      rw [sR_sA] at g
      have g3 : ∀ j, j < (x + 1).toNatClampNeg → t j = upd (S.2 11) x.toNatClampNeg 0 j := g3
      refine ⟨t, v, w, u, g, fun s h1 h2 => ?_, fun s h1 => ?_, g4⟩
      · by_cases q : s = x.toNatClampNeg
        · rw [g3 s (by omega), q, upd_eq]
        · exact g2 s (by omega) h2
      · rw [g3 s (by omega)]
        exact upd_ne (by omega)
/-- the reference begun -/
theorem beg_v (H : HS) (x1 : Int32) : ∃ R, (f_X11_begin H x1).2 = R ∧ (R.1 0 = x1 ∧ R.1 1 = 0 ∧ R.1 2 = -1 ∧ R.1 3 = 0 ∧ R.1 4 = 0 ∧ R.1 5 = -1) ∧ (R.1 6 = 0 ∧ R.1 7 = 0 ∧ R.1 8 = 0 ∧ R.1 9 = 0 ∧ R.1 10 = 0) ∧ (R.1 35 = 0 ∧ R.1 39 = -1) ∧ (∀ s, s < 200 → R.2 11 s = 0) ∧ (∀ j, j < 9 → R.2 12 j = mj0 j) ∧ (∀ p, p < 8 → R.2 34 p = 0) ∧ R.2 40 = H.2 40 := by
  have g := (beg_67 x1 100000 (sI (sI (sI (sI (sI (sI (sI (sI (sI (sI (sI (sI (sI H 0 x1) 1 0) 2 (-1)) 3 0) 4 0) 5 (-1)) 6 0) 7 0) 8 0) 9 0) 10 0) 35 0) 39 (-1)) 0 (by rw [i0]; omega) (by rw [i0]; omega) (by rw [i0]; omega)).2
  obtain ⟨t, v, w, u, e, q1, -, q3⟩ := bg67 x1 100000 (sI (sI (sI (sI (sI (sI (sI (sI (sI (sI (sI (sI (sI H 0 x1) 1 0) 2 (-1)) 3 0) 4 0) 5 (-1)) 6 0) 7 0) 8 0) 9 0) 10 0) 35 0) 39 (-1)) 0 (by rw [i0]; omega) (by rw [i0]; omega) (by rw [i0]; omega)
  rw [zn0] at q1
  unfold f_X11_begin
  obtain ⟨g1, -, g3, -⟩ := g
  refine ⟨_, rfl, ?_⟩
  generalize (lp_X11_begin_67 100000 (sI (sI (sI (sI (sI (sI (sI (sI (sI (sI (sI (sI (sI H 0 x1) 1 0) 2 (-1)) 3 0) 4 0) 5 (-1)) 6 0) 7 0) 8 0) 9 0) 10 0) 35 0) 39 (-1)) x1 0).2 = R at g1 g3 e ⊢
  subst e
  exact ⟨⟨rfl, rfl, rfl, rfl, rfl, rfl⟩, ⟨rfl, rfl, rfl, rfl, rfl⟩, ⟨rfl, rfl⟩, fun s hs => q1 s (Nat.zero_le _) hs, q3, g3, rfl⟩
/-- the class: no new cell -/
theorem n1_clear_lp : ∀ (n : Nat) (S1 : Cst) (T1 : Nat → List Nat) (b : Int32), Sst noE x S T F col S1 T1 F1 c1 → 0 ≤ b.toInt → b.toInt ≤ 8 → 8 - b.toInt < n → (lp_Y0_clear_18 x n S1 b).2.1 = S1.1 := by
  have e8 : (8 : Int32).toInt = 8 := by decide
  intro n
  induction n with
  | zero => intro S1 T1 b h h1 h2 h3; omega
  | succ n ih =>
    intro S1 T1 b h h1 h2 h3
    rw [lp_Y0_clear_18]
    have hb := iNat h1
    unfold st_Y0_clear_18
    by_cases c : b.toInt = 8
    · have c8 : 8 ≤ b := iLe.mpr (by rw [e8]; omega)
      rw [if_pos c8]
    · have c8 : ¬ 8 ≤ b := fun z => by have := iLe.mp z; rw [e8] at this; omega
      rw [if_neg c8]
      have dk := dk_ix h.ci.wf h.k1 (i := b.toNatClampNeg) (by omega)
      rw [dk.1, Option.getD_some]
      have o : pl x (x + 13 + 3 * b.toNatClampNeg) := Or.inr ⟨_, by omega, rfl⟩
      obtain ⟨-, S2, T2, f1, f2, f3, f4, f5, f6⟩ := y_discard h o (noE_n _)
      have n1 := n1_discard h o (noE_n _) f1
      rw [f1]
      have e := iAdd (x := b) (y := 1) (by rw [i1]; omega) (by rw [i1]; omega)
      rw [i1] at e
      unfold b_Y0_clear_34a
      exact (ih S2 T2 (b + 1) f2 (by omega) (by omega) (by omega)).trans n1
theorem n1_clear (h : Sst noE x S T F col S1 T1 F1 c1) : (f_Y0_clear S1 x).2.1 = S1.1 := by
  have w0 := h.ci.wf.w0 h.k1
  obtain ⟨-, S2, T2, f1, f2, f3, f4, f5⟩ := y_release h (noE_n _) (show own x (x + 1) from Or.inr (Or.inl rfl)) (by omega)
  have o3 : pl x (x + 3) := Or.inl rfl
  obtain ⟨-, S3, T3, g1, g2, g3, g4, g5, g6⟩ := y_discard f2 o3 (noE_n _)
  have n1 := n1_discard f2 o3 (noE_n _) g1
  have w2 := f2.ci.wf.w0 f2.k1
  unfold f_Y0_clear b_Y0_clear_8a b_Y0_clear_16a
  rw [w0.2.1.2.1, Option.getD_some, f1]
  simp only
  rw [w2.2.1.2.2.1, Option.getD_some, g1]
  exact ((n1_clear_lp 100000 S3 T3 0 g2 (by rw [i0]; omega) (by rw [i0]; omega) (by rw [i0]; omega)).trans n1).trans f3.2.2.2
/-- a row filled -/
theorem fill5 {z : Nat} (v : Int32) : ∀ (n : Nat) (S2 : Cst) (b : Int32), 0 ≤ b.toInt → b.toInt ≤ 9 → 9 - b.toInt < n → ∃ S3, lp_K7_fill_53178_5 z n S2 v b (Int32.ofNat 9) = (0, S3) ∧ (∀ s, b.toNatClampNeg ≤ s → s < 9 → giC S3 z s = v) ∧ (∀ s, s < b.toNatClampNeg → giC S3 z s = giC S2 z s) ∧ (∀ q k, q ≠ z → giC S3 q k = giC S2 q k) ∧ (∀ q k, grC S3 q k = grC S2 q k) ∧ (∀ q, lnC S3 q = lnC S2 q) ∧ ∀ q c, iK S3 q c → iK S2 q c := by
  have h9 : (Int32.ofNat 9).toInt = 9 := by decide
  intro n
  induction n with
  | zero => intro S2 b h1 h3 h4; omega
  | succ n ih =>
    intro S2 b h1 h3 h4
    have k := iNat h1
    rw [lp_K7_fill_53178_5]
    unfold st_K7_fill_53178_5
    by_cases c : Int32.ofNat 9 ≤ b
    · have := iLe.mp c
      rw [h9] at this
      rw [if_pos c]
      exact ⟨S2, rfl, fun s h5 h6 => by omega, fun _ _ => rfl, fun _ _ _ => rfl, fun _ _ => rfl, fun _ => rfl, fun _ _ h => h⟩
    · rw [if_neg c]
      have c := mt iLe.mpr c
      rw [h9] at c
      have e := iAdd (x := b) (y := 1) (by rw [i1]; omega) (by rw [i1]; omega)
      rw [i1] at e
      have k2 := iNat (x := b + 1) (by omega)
      obtain ⟨S3, f, q1, q2, q3, q4, q5, q6⟩ := ih (siC S2 z b.toNatClampNeg v) (b + 1) (by omega) (by omega) (by omega)
      refine ⟨S3, f, fun s h5 h6 => ?_, fun s h5 => ?_, fun q k n => ?_, fun q k => ?_, fun q => ?_, fun q c k => ik_si.mp (q6 q c k)⟩
      · by_cases w : s = b.toNatClampNeg
        · rw [q2 s (by omega), gi_si, if_pos ⟨rfl, w⟩]
        · exact q1 s (by omega) h6
      · rw [q2 s (by omega), gi_si, if_neg (fun w => by omega)]
      · rw [q3 q k n, gi_si, if_neg (fun w => n w.1)]
      · rw [q4, gr_si]
      · rw [q5, ln_si]
/-- the house begun -/
theorem hbeg_v (wf : wfS S1) (kx : iK S1 x 0) (n : Int32) : ∃ S2, f_Y2_begin S1 (x + 37) n = (0, S2) ∧ hC' x S1 S2 ∧ (giC S2 (x + 37) 0 = n ∧ giC S2 (x + 37) 2 = 0 ∧ giC S2 (x + 37) 3 = -1 ∧ giC S2 (x + 37) 4 = 0 ∧ giC S2 (x + 37) 5 = 0 ∧ giC S2 (x + 37) 6 = -1) ∧ (∀ s, s < 200 → giC S2 (x + 38) s = 0) ∧ ∀ j, j < 9 → giC S2 (x + 39) j = mj0 j := by
  have w1 := wf.w1 (wf.w0 kx).1.1
  obtain ⟨X, hX⟩ : ∃ X, X = siC (siC (siC (siC S1 (x + 37) 0 n) (x + 37) 4 0) (x + 37) 5 0) (x + 37) 3 (-1) := ⟨_, rfl⟩
  have gX' : ∀ k, grC X (x + 37) k = grC S1 (x + 37) k := fun k => by rw [hX]; simp only [gr_si]
  have lX : ∀ q, lnC X q = lnC S1 q := fun q => by rw [hX]; simp only [ln_si]
  obtain ⟨S3, f, p1, -, p3, p4, p5, p6⟩ := empty_l (y := x + 37) 100000 X 0 (by rw [gX']; exact w1.2.1.1) (by rw [lX]; exact w1.1.2.1) (by rw [i0]; omega) (by rw [i0]; omega) (by rw [i0]; omega)
  rw [zn0] at p1
  have f : f_Y2_empty X (x + 37) = (0, siC (siC S3 (x + 37) 2 0) (x + 37) 6 (-1)) := f
  obtain ⟨Y, hY⟩ : ∃ Y, Y = siC (siC S3 (x + 37) 2 0) (x + 37) 6 (-1) := ⟨_, rfl⟩
  rw [← hY] at f
  have y7 : grC Y (x + 37) 7 = some (x + 39) := by
    rw [hY]
    simp only [gr_si]
    rw [p4, gX']
    exact w1.2.1.2
  have yl : lnC Y (x + 39) = 9 := by
    rw [hY]
    simp only [ln_si]
    rw [p5, lX]
    exact w1.1.2.2.2
  obtain ⟨Z, f2, q1, -, q3, q4, q5, q6⟩ := fill5 (z := x + 39) 1 100000 Y 0 (by rw [i0]; omega) (by rw [i0]; omega) (by rw [i0]; omega)
  rw [zn0] at q1
  have z7 : grC Z (x + 37) 7 = some (x + 39) := (q4 _ _).trans y7
  have n6 : (6 : Int32).toNatClampNeg = 6 := by decide
  have eB : f_Y2_begin S1 (x + 37) n = (0, siC Z (x + 39) 6 2) := by
    unfold f_Y2_begin b_Y2_begin_24a b_Y2_begin_32a f_K7_fill_53178
    rw [← hX, f]
    simp only
    rw [y7, Option.getD_some, yl, f2]
    simp only
    rw [z7, Option.getD_some, n6]
  have v : ∀ k, giC (siC Z (x + 39) 6 2) (x + 37) k = giC Y (x + 37) k := fun k => by rw [gi_si, if_neg (fun w => by omega), q3 _ _ (by omega)]
  have vY : ∀ k, giC Y (x + 37) k = if k = 6 then -1 else if k = 2 then 0 else if k = 3 then -1 else if k = 5 then 0 else if k = 4 then 0 else if k = 0 then n else giC S1 (x + 37) k := fun k => by
    rw [hY]
    simp only [gi_si, true_and]
    rw [p3 _ _ (by omega), hX]
    simp only [gi_si, true_and]
  refine ⟨_, eB, ⟨fun q k h1 h2 h3 => ?_, fun q k => ?_, fun q => ?_, fun q c k => ?_⟩, ⟨?_, ?_, ?_, ?_, ?_, ?_⟩, fun s hs => ?_, fun j hj => ?_⟩
  · rw [gi_si, if_neg (fun w => h3 w.1), q3 _ _ h3, hY]
    simp only [gi_si]
    rw [if_neg (fun w => h1 w.1), if_neg (fun w => h1 w.1), p3 _ _ (by omega), hX]
    simp only [gi_si]
    rw [if_neg (fun w => h1 w.1), if_neg (fun w => h1 w.1), if_neg (fun w => h1 w.1), if_neg (fun w => h1 w.1)]
  · rw [gr_si, q4, hY]
    simp only [gr_si]
    rw [p4, hX]
    simp only [gr_si]
  · rw [ln_si, q5, hY]
    simp only [ln_si]
    rw [p5, lX]
  · have k := q6 q c (ik_si.mp k)
    rw [hY] at k
    have k := p6 q c (ik_si.mp (ik_si.mp k))
    rw [hX] at k
    exact ik_si.mp (ik_si.mp (ik_si.mp (ik_si.mp k)))
  · rw [v, vY]; rfl
  · rw [v, vY]; rfl
  · rw [v, vY]; rfl
  · rw [v, vY]; rfl
  · rw [v, vY]; rfl
  · rw [v, vY]; rfl
  · rw [gi_si, if_neg (fun w => by omega), q3 _ _ (by omega), hY]
    simp only [gi_si]
    rw [if_neg (fun w => by omega), if_neg (fun w => by omega)]
    exact p1 s (Nat.zero_le _) hs
  · rw [gi_si]
    by_cases w : j = 6
    · rw [if_pos ⟨rfl, w⟩, w]
      rfl
    · rw [if_neg (fun y => w y.2), q1 j (Nat.zero_le _) hj]
      exact (if_neg w).symm
/-- what an assembly is whatever it holds -/
def jS (S : Cst) (x : Nat) : Prop := (giC S (x + 7) 0 = 7 ∧ giC S (x + 9) 0 = 5) ∧ oz S (x + 7) ∧ oz S (x + 9) ∧ (grC S (x + 7) 2).getD 0 ≠ (grC S (x + 9) 2).getD 0 ∧ (grC S (x + 7) 2).getD 0 ≠ x + 39 ∧ (grC S (x + 9) 2).getD 0 ≠ x + 39
theorem RR.jS (r : RR wF N S T x H) : jS S x := by
  obtain ⟨-, -, -, ⟨-, -, c, d1, d2, d3, d4, d5, -⟩, -⟩ := r
  exact ⟨c, d1, d2, d3, d4, d5⟩
theorem begin_sim (h : Sst noE x S T [] col S1 T1 [] c1) (j : jS S1 x) (sv : sV S1) {n : Int32} (hn : 0 ≤ n.toInt ∧ n.toInt ≤ 200) : ∃ S2 T2, f_Y0_begin S1 x n = (0, S2) ∧ AS x S T col S2 T2 c1 ∧ ∀ (H : HS) (z : Nat → Int32), RR (True, z, n, H.2 40) 0 S2 T2 x (f_X11_begin H n).2 := by
  obtain ⟨-, S2, T2, f1, f2, f3, f4⟩ := y_clear noE_n h
  have n1 : S2.1 = S1.1 := by
    have := n1_clear h
    rw [f1] at this
    exact this
  have w2 := f2.ci.wf.w0 f2.k1
  obtain ⟨-, v, S3, g1, u3⟩ := y_hbegin f2 (n := n) hn
  obtain ⟨S3', g1', hc, hv, hs, hj⟩ := hbeg_v f2.ci.wf f2.k1 n
  obtain ⟨-, rfl⟩ := Prod.mk.inj (g1.symm.trans g1')
  have w3 := u3.w0
  have r0 : rg 0 0 600 := ⟨by rw [i0]; omega, by rw [i0]; omega⟩
  have r4 : rg 0 0 400 := ⟨by rw [i0]; omega, by rw [i0]; omega⟩
  have u4 := u3.lN (j := 7) (Or.inl rfl) 0 r0
  have w4 := u4.w0
  have u5 := u4.lN (j := 9) (Or.inr rfl) 0 r0
  have w5 := u5.w0
  have u6 := u5.tI w5.1.2.2.2.2.2.2 (f2.cx 11 (by omega)) 0 r4
  have u7 := ((u6.aI 7 0).aI 8 0).aI 9 0
  have e : f_Y0_begin S1 x n = (0, siC (siC (siC (siC (siC (siC S3 (x + 7) 3 0) (x + 9) 3 0) (x + 11) 1 0) x 7 0) x 8 0) x 9 0) := by
    unfold f_Y0_begin b_Y0_begin_4a b_Y0_begin_12a b_Y0_begin_36a
    rw [f1]
    simp only
    rw [w2.2.1.1, Option.getD_some, g1]
    simp only
    rw [w3.2.1.2.2.2.2.1, Option.getD_some, w4.2.1.2.2.2.2.2.1, Option.getD_some, w5.2.1.2.2.2.2.2.2, Option.getD_some]
  have as : AS x S T col (siC (siC (siC (siC (siC (siC S3 (x + 7) 3 0) (x + 9) 3 0) (x + 11) 1 0) x 7 0) x 8 0) x 9 0) T2 c1 := ⟨u7.1, (PI.clr f4).kp f2.ci f2.k1 u7.2.1 (fun _ _ _ => rfl)⟩
  refine ⟨_, T2, e, as, fun H z => ?_⟩
  obtain ⟨X, hX⟩ : ∃ X, X = siC (siC (siC (siC (siC (siC S3 (x + 7) 3 0) (x + 9) 3 0) (x + 11) 1 0) x 7 0) x 8 0) x 9 0 := ⟨_, rfl⟩
  rw [← hX] at as ⊢
  obtain ⟨R, eR, ⟨v0, v1, v2, v3, v4, v5⟩, ⟨v6, v7, v8, v9, v10⟩, ⟨v35, v39⟩, v11, v12, v34, v40⟩ := beg_v H n
  rw [eR]
  have gx : ∀ q k, giC X q k = if q = x ∧ k = 9 then 0 else if q = x ∧ k = 8 then 0 else if q = x ∧ k = 7 then 0 else if q = x + 11 ∧ k = 1 then 0 else if q = x + 9 ∧ k = 3 then 0 else if q = x + 7 ∧ k = 3 then 0 else giC S3 q k := fun q k => by
    rw [hX]
    simp only [gi_si]
  have gr : ∀ q k, grC X q k = grC S3 q k := fun q k => by
    rw [hX]
    simp only [gr_si]
  have ln : ∀ q, lnC X q = lnC S3 q := fun q => by
    rw [hX]
    simp only [ln_si]
  have ik : ∀ q c, iK X q c → iK S2 q c := fun q c k => by
    rw [hX] at k
    exact hc.2.2.2 q c (ik_si.mp (ik_si.mp (ik_si.mp (ik_si.mp (ik_si.mp (ik_si.mp k))))))
  have gh : ∀ k, giC X (x + 37) k = giC S3 (x + 37) k := fun k => by
    rw [gx, if_neg (fun y => by omega), if_neg (fun y => by omega), if_neg (fun y => by omega), if_neg (fun y => by omega), if_neg (fun y => by omega), if_neg (fun y => by omega)]
  have gt : ∀ k, giC X (x + 38) k = giC S3 (x + 38) k := fun k => by
    rw [gx, if_neg (fun y => by omega), if_neg (fun y => by omega), if_neg (fun y => by omega), if_neg (fun y => by omega), if_neg (fun y => by omega), if_neg (fun y => by omega)]
  have gm : ∀ k, giC X (x + 39) k = giC S3 (x + 39) k := fun k => by
    rw [gx, if_neg (fun y => by omega), if_neg (fun y => by omega), if_neg (fun y => by omega), if_neg (fun y => by omega), if_neg (fun y => by omega), if_neg (fun y => by omega)]
  have so : ∀ d, pl x d → giC X d 0 = giC S2 d 0 := fun d o => by
    have k := pl.lt f2.ci f2.k1 o
    have h1 : d ≠ x + 37 := fun y => ik_ne k w2.1.1 (by decide) y
    have w1 := f2.ci.wf.w1 w2.1.1
    have h2 : d ≠ x + 38 := fun y => ik_ne k w1.1.1 (by decide) y
    have h3 : d ≠ x + 39 := fun y => ik_ne k w1.1.2.2.1 (by decide) y
    rw [gx, if_neg (fun y => absurd y.2 (by decide)), if_neg (fun y => absurd y.2 (by decide)), if_neg (fun y => absurd y.2 (by decide)), if_neg (fun y => absurd y.2 (by decide)), if_neg (fun y => absurd y.2 (by decide)), if_neg (fun y => absurd y.2 (by decide))]
    exact hc.1 d 0 h1 h2 h3
  have N0 : ∀ g, g < 10 → hN R g = 0 := fun g hg => by
    match g with
    | 0 => show (R.1 6).toInt = 0; rw [v6]; rfl
    | 1 => show (R.1 35).toInt = 0; rw [v35]; rfl
    | p + 2 => show (R.2 34 p).toInt = 0; rw [v34 p (by omega)]; rfl
  have nL : ∀ g i, ¬ hL R g i := fun g i l => by
    have := l.2
    rw [N0 g l.1] at this
    omega
  have T0 : ∀ g, g < 10 → T2 (rP x g) = [] := fun g hg => by
    match g, hg with
    | 0, _ => exact f4.1
    | 1, _ => exact f4.2.1
    | p + 2, hg =>
      have := (f4.2.2.2 p (by omega)).2
      rw [rP_p, show x + 13 + 3 * p + 1 = x + 14 + 3 * p by omega]
      exact this
  have z7 : (0 : Int32).toInt = 0 := i0
  have k7 : iK S1 (x + 7) 2 := (h.ci.wf.w0 h.k1).1.2.2.2.2.1
  have k9 : iK S1 (x + 9) 2 := (h.ci.wf.w0 h.k1).1.2.2.2.2.2.1
  have rl : ∀ l, iK S1 l 2 → grC X l 2 = grC S1 l 2 := fun l k => by rw [gr, hc.2.1, f3.2.2 l k.1 k.2]
  have vl : ∀ l, iK S1 l 2 → l ≠ x → giC X l 0 = giC S1 l 0 := fun l k n => by
    have h1 : l ≠ x + 37 := fun y => ik_ne k (h.ci.wf.w0 h.k1).1.1 (by decide) y
    have w1 := h.ci.wf.w1 (h.ci.wf.w0 h.k1).1.1
    have h2 : l ≠ x + 38 := fun y => ik_ne k w1.1.1 (by decide) y
    have h3 : l ≠ x + 39 := fun y => ik_ne k w1.1.2.2.1 (by decide) y
    rw [gx, if_neg (fun y => absurd y.2 (by decide)), if_neg (fun y => absurd y.2 (by decide)), if_neg (fun y => absurd y.2 (by decide)), if_neg (fun y => absurd y.2 (by decide)), if_neg (fun y => absurd y.2 (by decide)), if_neg (fun y => absurd y.2 (by decide)), hc.1 l 0 h1 h2 h3]
    exact f3.2.1 l k.1 (by rw [k.2]; decide) (fun y => absurd (k.2.symm.trans y) (by decide)) 0
  have i6 : ∀ q c, iK X q c → iK S1 q c := fun q c k => ik_b (ik q c k) f3.1 n1
  have lc : ∀ l, (0 : Int) ≤ lcl X l := fun l => Int.natCast_nonneg _
  refine ⟨⟨⟨?_, ?_, ?_, ?_, ?_, ?_⟩, fun s hs' _ => ?_, fun k hk => ?_, ?_⟩, fun g hg => ⟨?_, fun i hi => ?_⟩, ⟨⟨fun _ => ?_, fun y => absurd v35 y⟩, fun p hp => ⟨fun _ => ?_, fun y => absurd (v34 p hp) y⟩, fun g _ l => absurd l (nL g 0), fun g _ l => absurd l (nL g 0), fun g _ l => absurd l (nL g 0)⟩, ⟨⟨?_, ?_, fun i j hi => ?_⟩, ⟨?_, ?_, fun i j hi => ?_⟩, ⟨?_, ?_⟩, fun q k => ?_, fun q k => ?_, ?_, ?_, ?_, fun i hi => ?_⟩, ⟨⟨⟨?_, fun _ => ?_⟩, ?_, fun _ => ⟨v39, ?_⟩, fun y => absurd v9 y, fun i hi => ?_⟩, fun q k => ?_, v0, v40⟩, ⟨?_, ?_⟩, fun g i l => absurd l (nL g i), fun g i g' i' l => absurd l (nL g i), fun j l => absurd l (nL j 0)⟩
  · rw [gh, hv.1, v0]
  · rw [gh, hv.2.1, v1]
  · rw [gh, hv.2.2.1, v2]
  · rw [gh, hv.2.2.2.1, v3]
  · rw [gh, hv.2.2.2.2.1, v4]
  · rw [gh, hv.2.2.2.2.2, v5]
  · rw [gt, hs s hs', v11 s hs']
  · rw [gm, hj k hk, v12 k hk]
  · rw [v4, i0]
    refine ⟨Int.le_refl _, fun s hs' => Or.inl (v11 s ?_)⟩
    rw [v0] at hs'
    omega
  · rw [T0 g hg, N0 g hg]
    rfl
  · rw [T0 g hg] at hi
    exact absurd hi (Nat.not_lt_zero _)
  · rw [so _ (Or.inl rfl)]
    exact f4.2.2.1
  · rw [so _ (Or.inr ⟨p, hp, rfl⟩)]
    exact (f4.2.2.2 p hp).1
  · rw [gx, if_neg (fun y => by omega), if_neg (fun y => by omega), if_neg (fun y => by omega), if_neg (fun y => by omega), if_neg (fun y => by omega), if_pos ⟨rfl, rfl⟩, v7]
  · rw [v7, i0]
    have := lc (x + 7)
    omega
  · rw [v7, i0] at hi
    omega
  · rw [gx, if_neg (fun y => by omega), if_neg (fun y => by omega), if_neg (fun y => by omega), if_neg (fun y => by omega), if_pos ⟨rfl, rfl⟩, v8]
  · rw [v8, i0]
    have := lc (x + 9)
    omega
  · rw [v8, i0] at hi
    omega
  · rw [vl _ k7 (by omega)]
    exact j.1.1
  · rw [vl _ k9 (by omega)]
    exact j.1.2
  · rw [rl _ k7]
    exact j.2.1 q (i6 q 6 k)
  · rw [rl _ k9]
    exact j.2.2.1 q (i6 q 6 k)
  · rw [rl _ k7, rl _ k9]
    exact j.2.2.2.1
  · rw [rl _ k7]
    exact j.2.2.2.2.1
  · rw [rl _ k9]
    exact j.2.2.2.2.2
  · rw [v7, i0] at hi
    omega
  · rw [gx, if_neg (fun y => absurd y.2 (by decide)), if_neg (fun y => absurd y.2 (by decide)), if_pos ⟨rfl, rfl⟩, v9]
  · rw [gx, if_pos ⟨rfl, rfl⟩, v10]
  · rw [v9, v8, i0]
    omega
  · rw [gx, if_neg (fun y => by omega), if_neg (fun y => by omega), if_neg (fun y => by omega), if_pos ⟨rfl, rfl⟩]
  · have em : (-1 : Int32).toInt = -1 := by decide
    rw [v39, em] at hi
    omega
  · have kq := i6 q 3 k
    have W := W3k h.ci.wf kq
    have c : ∀ i, i < 4 → ∀ k, giC X (q + i) k = giC S1 (q + i) k := fun i hi k => by
      obtain ⟨m0, m3, m7, m9, m11, m12, mp⟩ := mo_x h.ci h.k1 kq hi
      obtain ⟨h1, h2, h3⟩ := mo_h h.ci h.k1 kq hi
      rw [gx, if_neg (fun y => m0 y.1), if_neg (fun y => m0 y.1), if_neg (fun y => m0 y.1), if_neg (fun y => m11 y.1), if_neg (fun y => m9 y.1), if_neg (fun y => m7 y.1), hc.1 _ k h1 h2 h3]
      rcases (show i = 0 ∨ i = 1 ∨ i = 2 ∨ i = 3 by omega) with rfl | rfl | rfl | rfl
      · exact f3.2.1 q kq.1 (by rw [kq.2]; decide) (fun y => absurd (kq.2.symm.trans y) (by decide)) k
      · exact f3.2.1 _ W.1.1 (by rw [W.1.2]; decide) (fun y => absurd (W.1.2.symm.trans y) (by decide)) k
      · exact f3.2.1 _ W.2.1.1 (by rw [W.2.1.2]; decide) (fun y => absurd (W.2.1.2.symm.trans y) (by decide)) k
      · exact f3.2.1 _ W.2.2.1 (by rw [W.2.2.2]; decide) (fun y => absurd (W.2.2.2.symm.trans y) (by decide)) k
    rw [vCn_cg (c 3 (by omega)), show giC X q 14 = giC S1 q 14 from c 0 (by omega) 14]
    exact sv q kq
  · rw [gx, if_neg (fun y => absurd y.2 (by decide)), if_pos ⟨rfl, rfl⟩, i0]
    exact Int.le_refl _
  · rw [gx, if_neg (fun y => absurd y.2 (by decide)), if_pos ⟨rfl, rfl⟩, i0]
    exact Int.le_refl _
end
end
section
/-! ===== copies ===== -/
section
variable {wF : Prop × (Nat → Int32) × Int32 × (Nat → Int32)} {E : Nat → Prop} {x y : Nat} {S S1 S2 S3 S4 : Cst} {T T1 T2 T3 : Nat → List Nat} {F F1 : List Nat} {col c1 c2 c3 : Nat → Nat} {H H2 G R : HS} {N N2 M M2 : Int}
/-- a motion is another one's copy -/
def cq (S : Cst) (q : Nat) (S' : Cst) (q' : Nat) : Prop := (∀ k, k ≤ 11 ∨ k = 14 → giC S' q' k = giC S q k) ∧ giC S' (q' + 1) 1 = giC S (q + 1) 1 ∧ (∀ i : Nat, (i : Int) < (giC S (q + 1) 1).toInt → giC S' (q' + 2) i = giC S (q + 2) i) ∧ ∀ s, s < 200 → giC S' (q' + 3) s = giC S (q + 3) s
theorem cq.l {q q' : Nat} (h : cq S q S2 q') (e : ∀ j, j < 4 → ∀ k, giC S1 (q + j) k = giC S (q + j) k) : cq S1 q S2 q' := by
  obtain ⟨a, b, c, d⟩ := h
  have e0 : ∀ k, giC S1 q k = giC S q k := e 0 (by omega)
  refine ⟨fun k hk => by rw [e0]; exact a k hk, by rw [e 1 (by omega)]; exact b, fun i hi => ?_, fun s hs => by rw [e 3 (by omega)]; exact d s hs⟩
  rw [e 1 (by omega)] at hi
  rw [e 2 (by omega)]
  exact c i hi
theorem cq.r {q q' : Nat} (h : cq S q S2 q') (e : ∀ j, j < 4 → ∀ k, giC S3 (q' + j) k = giC S2 (q' + j) k) : cq S q S3 q' := by
  obtain ⟨a, b, c, d⟩ := h
  have e0 : ∀ k, giC S3 q' k = giC S2 q' k := e 0 (by omega)
  exact ⟨fun k hk => (e0 k).trans (a k hk), (e 1 (by omega) 1).trans b, fun i hi => (e 2 (by omega) i).trans (c i hi), fun s hs => (e 3 (by omega) s).trans (d s hs)⟩
theorem vCn_eq {q q' : Nat} : ∀ n, (∀ s, s < n → giC S2 (q' + 3) s = giC S1 (q + 3) s) → vCn S2 q' n = vCn S1 q n := by
  intro n
  induction n with
  | zero => intro _; rfl
  | succ n ih =>
    intro h
    rw [vCn, vCn, ih (fun s hs => h s (by omega)), h n (by omega)]
theorem cq.v {q q' : Nat} (h : cq S q S2 q') (v : (giC S q 14).toInt = vCn S q 200) : (giC S2 q' 14).toInt = vCn S2 q' 200 := by
  rw [h.1 14 (Or.inr rfl), v, vCn_eq 200 h.2.2.2]
theorem mR.cq {q q' m : Nat} (h : mR S q H m) (c : cq S q S2 q') : mR S2 q' H m := by
  obtain ⟨⟨a1, a2, a3, a4, a5⟩, ⟨b1, b2⟩, b3, ⟨d1, d2⟩, e, ⟨f1, f2⟩, g⟩ := h
  have v := c.v f2
  obtain ⟨c1, c2, c3, c4⟩ := c
  have k := fun i (hi : i ≤ 11) => c1 i (Or.inl hi)
  refine ⟨⟨(k 2 (by omega)).trans a1, (k 3 (by omega)).trans a2, (k 4 (by omega)).trans a3, (k 5 (by omega)).trans a4, (k 6 (by omega)).trans a5⟩, ⟨(k 7 (by omega)).trans b1, (k 11 (by omega)).trans b2⟩, fun z => ⟨(k 8 (by omega)).trans (b3 z).1, (k 9 (by omega)).trans (b3 z).2⟩, ⟨c2.trans d1, fun i hi => (c3 i (by rw [d1]; exact hi)).trans (d2 i hi)⟩, fun s hs => by rw [c4 s hs]; exact e s hs, ⟨fun s h1 h2 => (c4 s h1).trans (f1 s h1 h2), v⟩, g⟩
/-- copied whole -/
theorem bec4_v {q z : Nat} (h : Sst E x S T F col S1 T1 F1 c1) (k : iK S1 q 3) (c : c1 q = x) (kz : iK S1 z 3) (n : z ≠ q) : ∃ S2, f_Y4_become S1 q (some z) = (0, S2) ∧ mU E x S T F col T1 F1 c1 q S1 S2 ∧ cq S1 z S2 q ∧ S2.1 = S1.1 := by
  obtain ⟨-, S0, f0, u0, -⟩ := y_mBecome h k c kz
  have wq := h.ci.wf.w3 k
  have wz := h.ci.wf.w3 kz
  have Wq := W3k h.ci.wf k
  have Wz := W3k h.ci.wf kz
  have apart : ∀ i j, i < 4 → j < 4 → z + i ≠ q + j := fun i j hi hj y => n (mo_2 h.ci.wf kz k hi hj y).1
  obtain ⟨X, hX⟩ : ∃ X, X = siC (siC (siC (siC (siC (siC (siC (siC (siC (siC (siC (siC S1 q 0 (giC S1 z 0)) q 1 (giC S1 z 1)) q 2 (giC S1 z 2)) q 3 (giC S1 z 3)) q 4 (giC S1 z 4)) q 5 (giC S1 z 5)) q 6 (giC S1 z 6)) q 7 (giC S1 z 7)) q 8 (giC S1 z 8)) q 9 (giC S1 z 9)) q 10 (giC S1 z 10)) q 11 (giC S1 z 11) := ⟨_, rfl⟩
  have e1 : f_Y4_become S1 q (some z) = b_Y4_become_96a X q (some z) := by
    unfold f_Y4_become b_Y4_become_32a b_Y4_become_64a
    simp only [Option.getD_some, gi_si, n, false_and, if_false]
    rw [hX]
  have gX0 : ∀ r i, r ≠ q → giC X r i = giC S1 r i := fun r i hr => by
    rw [hX]
    simp only [gi_si, hr, false_and, if_false]
  have gXq : ∀ i, giC X q i = if i = 11 then giC S1 z 11 else if i = 10 then giC S1 z 10 else if i = 9 then giC S1 z 9 else if i = 8 then giC S1 z 8 else if i = 7 then giC S1 z 7 else if i = 6 then giC S1 z 6 else if i = 5 then giC S1 z 5 else if i = 4 then giC S1 z 4 else if i = 3 then giC S1 z 3 else if i = 2 then giC S1 z 2 else if i = 1 then giC S1 z 1 else if i = 0 then giC S1 z 0 else giC S1 q i := fun i => by
    rw [hX]
    simp only [gi_si, true_and]
  have rX : ∀ r i, grC X r i = grC S1 r i := fun r i => by
    rw [hX]
    simp only [gr_si]
  have lX : ∀ r, lnC X r = lnC S1 r := fun r => by
    rw [hX]
    simp only [ln_si]
  have kX : ∀ r c, iK X r c ↔ iK S1 r c := fun r c => by
    rw [hX]
    simp only [ik_si]
  have nX : X.1 = S1.1 := by rw [hX]; rfl
  have t1 := h.ci.wf.w6 Wq.1
  have t2 := h.ci.wf.w6 Wz.1
  have h4 : (Int32.ofNat 400).toInt = 400 := by decide
  have wz2 : 0 ≤ (giC S1 (z + 1) 1).toInt ∧ (giC S1 (z + 1) 1).toInt ≤ 400 := t2.2.2
  have hn := iNat wz2.1
  -- the text
  have eT : f_Y9_become X (q + 1) (z + 1) = (0, sfC (siC X (q + 1) 1 (giC S1 (z + 1) 1)) (q + 2) (va_cpy (giC S1 (z + 2)) (giC X (q + 2)) 0 0 (giC S1 (z + 1) 1).toNatClampNeg)) := by
    unfold f_Y9_become b_Y9_become_20a
    have r1 : grC X (q + 1) 0 = some (q + 2) := (rX _ _).trans t1.2.1
    have r2 : grC X (z + 1) 0 = some (z + 2) := (rX _ _).trans t2.2.1
    have v1 : giC X (z + 1) 1 = giC S1 (z + 1) 1 := gX0 _ _ (by have := apart 1 0 (by omega) (by omega); omega)
    have i1' : (if (Int32.ofNat 400) < (giC S1 (z + 1) 1) then (Int32.ofNat 400) else (giC S1 (z + 1) 1)) = giC S1 (z + 1) 1 := by
      split
      · next y =>
        have := iLt.mp y
        omega
      · rfl
    have i2 : (if (0 : Int32) < giC S1 (z + 1) 1 then giC S1 (z + 1) 1 else 0) = giC S1 (z + 1) 1 := by
      split
      · rfl
      · next y =>
        have y := mt iLt.mpr y
        rw [i0] at y
        refine iEq.mpr ?_
        rw [i0]
        omega
    rw [r1, Option.getD_some, show lnC X (q + 2) = 400 from (lX _).trans t1.1.2, v1, i1', i2]
    have a1 : grC (siC X (q + 1) 1 (giC S1 (z + 1) 1)) (q + 1) 0 = some (q + 2) := by rw [gr_si]; exact r1
    have a2 : grC (siC X (q + 1) 1 (giC S1 (z + 1) 1)) (z + 1) 0 = some (z + 2) := by rw [gr_si]; exact r2
    have a3 : giC (siC X (q + 1) 1 (giC S1 (z + 1) 1)) (q + 1) 1 = giC S1 (z + 1) 1 := by rw [gi_si, if_pos ⟨rfl, rfl⟩]
    rw [a1, a2, a3, Option.getD_some, Option.getD_some]
    have f1 : giC (siC X (q + 1) 1 (giC S1 (z + 1) 1)) (z + 2) = giC S1 (z + 2) := funext fun i => by
      rw [gi_si, if_neg (fun y => by have := apart 2 1 (by omega) (by omega); omega)]
      exact gX0 _ _ (by have := apart 2 0 (by omega) (by omega); omega)
    have f2 : giC (siC X (q + 1) 1 (giC S1 (z + 1) 1)) (q + 2) = giC X (q + 2) := funext fun i => by
      rw [gi_si, if_neg (fun y => by omega)]
    rw [f1, f2, zn0]
  obtain ⟨Y, hY⟩ : ∃ Y, Y = sfC (siC X (q + 1) 1 (giC S1 (z + 1) 1)) (q + 2) (va_cpy (giC S1 (z + 2)) (giC X (q + 2)) 0 0 (giC S1 (z + 1) 1).toNatClampNeg) := ⟨_, rfl⟩
  rw [← hY] at eT
  have gY : ∀ r i, giC Y r i = if r = q + 2 then va_cpy (giC S1 (z + 2)) (giC X (q + 2)) 0 0 (giC S1 (z + 1) 1).toNatClampNeg i else if r = q + 1 ∧ i = 1 then giC S1 (z + 1) 1 else giC X r i := fun r i => by
    rw [hY, gi_sf, gi_si]
  have rY : ∀ r i, grC Y r i = grC S1 r i := fun r i => by
    rw [hY, gr_sf, gr_si, rX]
  have lY : ∀ r, lnC Y r = lnC S1 r := fun r => by
    rw [hY, ln_sf, ln_si, lX]
  have n2 : (Int32.ofNat 200).toNatClampNeg = 200 := by decide
  have eq13 : grC Y q 13 = some (q + 3) := (rY _ _).trans wq.2.1.2
  have ez13 : grC Y z 13 = some (z + 3) := (rY _ _).trans wz.2.1.2
  have e2 : b_Y4_become_96a X q (some z) = (0, siC (sfC Y (q + 3) (va_cpy (giC Y (z + 3)) (giC Y (q + 3)) 0 0 200)) q 14 (giC (sfC Y (q + 3) (va_cpy (giC Y (z + 3)) (giC Y (q + 3)) 0 0 200)) z 14)) := by
    unfold b_Y4_become_96a b_Y4_become_107a b_Y4_become_133a
    rw [rX, rX, Option.getD_some, wq.2.1.1, wz.2.1.1, Option.getD_some, Option.getD_some, eT]
    simp only
    rw [eq13, ez13, Option.getD_some, Option.getD_some, show lnC Y (q + 3) = 200 from (lY _).trans wq.1.2.2, n2, zn0]
  have e3 := f0.symm.trans (e1.trans e2)
  obtain ⟨-, hS⟩ := Prod.mk.inj e3
  have g0 : ∀ r i, giC S0 r i = if r = q ∧ i = 14 then giC S1 z 14 else if r = q + 3 then va_cpy (giC Y (z + 3)) (giC Y (q + 3)) 0 0 200 i else giC Y r i := fun r i => by
    have e14 : giC (sfC Y (q + 3) (va_cpy (giC Y (z + 3)) (giC Y (q + 3)) 0 0 200)) z 14 = giC S1 z 14 := by
      rw [gi_sf, if_neg (show ¬ z = q + 3 from apart 0 3 (by omega) (by omega)), gY, if_neg (show ¬ z = q + 2 from apart 0 2 (by omega) (by omega)), if_neg (fun y => apart 0 1 (by omega) (by omega) y.1)]
      exact gX0 _ _ n
    rw [hS, gi_si, e14, gi_sf]
  refine ⟨S0, f0, u0, ⟨fun k hk => ?_, ?_, fun i hi => ?_, fun s hs => ?_⟩, ?_⟩
  · rcases hk with hk | hk
    · rw [g0, if_neg (fun y => by omega), if_neg (by omega), gY, if_neg (by omega), if_neg (fun y => by omega), gXq]
      rcases (show k = 0 ∨ k = 1 ∨ k = 2 ∨ k = 3 ∨ k = 4 ∨ k = 5 ∨ k = 6 ∨ k = 7 ∨ k = 8 ∨ k = 9 ∨ k = 10 ∨ k = 11 by omega) with rfl | rfl | rfl | rfl | rfl | rfl | rfl | rfl | rfl | rfl | rfl | rfl <;> rfl
    · rw [g0, if_pos ⟨rfl, hk⟩, hk]
  · rw [g0, if_neg (fun y => by omega), if_neg (by omega), gY, if_neg (by omega), if_pos ⟨rfl, rfl⟩]
  · rw [g0, if_neg (fun y => by omega), if_neg (by omega), gY, if_pos rfl, pk_cpy_in (Nat.zero_le i) (by omega), Nat.zero_add, Nat.sub_zero]
  · rw [g0, if_neg (fun y => by omega), if_pos rfl, pk_cpy_in (Nat.zero_le s) (by omega), Nat.zero_add, Nat.sub_zero, gY, if_neg (apart 3 2 (by omega) (by omega)), if_neg (fun y => apart 3 1 (by omega) (by omega) y.1)]
    exact gX0 _ _ (apart 3 0 (by omega) (by omega))
  · rw [hS]
    show Y.1 = S1.1
    rw [← nX, hY]
    rfl
end
end
section
/-! ===== piles copied ===== -/
section
variable {wF : Prop × (Nat → Int32) × Int32 × (Nat → Int32)} {E : Nat → Prop} {x y : Nat} {S S1 S2 S3 S4 Sk : Cst} {T T1 T2 T3 Tk : Nat → List Nat} {F F1 : List Nat} {col c1 c2 c3 ck : Nat → Nat} {H H2 G R : HS} {N N2 M M2 : Int}
/-- cells of motions that stand in no pile but the spare one -/
def fD (x : Nat) (T1 : Nat → List Nat) (S : Cst) (z : Nat) : Prop := ∃ q, iK S q 3 ∧ dM q z ∧ ∀ c, c ≠ x → q ∉ T1 c
theorem fD.n {z : Nat} (h : fD x T1 S z) (e : eN S S2) : fD x T1 S2 z := by
  obtain ⟨q, k, d, n⟩ := h
  exact ⟨q, k.n e, d, n⟩
def cP (S : Cst) (L : List Nat) (S' : Cst) (L' : List Nat) : Prop := L'.length = L.length ∧ ∀ j, j < L.length → cq S (L.getD j 0) S' (L'.getD j 0)
/-- a motion of a pile is written by none of these -/
theorem fD.m (wf2 : wfS S2) (h : CI noE S1 T1 F c1) (g : gX (fD x T1 S2) S1 S2) {c q : Nat} (nc : c ≠ x) (m : q ∈ T1 c) : ∀ j, j < 4 → ∀ k, giC S2 (q + j) k = giC S1 (q + j) k := by
  have k := (h.tk c q m).1
  refine g.mo4 h.wf k (fun j hj ⟨q', k', d, n⟩ => ?_)
  have ne : q ≠ q' := fun y => n c nc (by rw [← y]; exact m)
  exact dM_a wf2 (k.n g.1) k' ne j hj d
theorem copy_v {P' P : Nat} (kP' : iK S1 P' 4) (cP' : c1 P' ≠ x) (o : own x P) (nP : P ≠ x) (h0 : CI noE S1 T1 [] c1) (hT : T1 P = []) : ∀ (n : Nat) (Sk : Cst) (Tk : Nat → List Nat) (ck : Nat → Nat) (i : Int32), Sst noE x S1 T1 [] c1 Sk Tk [] ck → 0 ≤ i.toInt → (Tk P).length = i.toInt → i.toInt ≤ (T1 P').length → (T1 P').length - i.toInt < n → (∀ j : Nat, (j : Int) < i.toInt → cq S1 ((T1 P').getD j 0) Sk ((Tk P).getD j 0)) → (∀ c, c ≠ P → c ≠ x → Tk c = T1 c) → gX (fD x T1 Sk) S1 Sk → sV Sk → ∃ S2 T2 c2, lp_Y0_copy_2 x P' P n Sk i = (0, S2) ∧ Sst noE x S1 T1 [] c1 S2 T2 [] c2 ∧ cP S1 (T1 P') S2 (T2 P) ∧ (∀ c, c ≠ P → c ≠ x → T2 c = T1 c) ∧ gX (fD x T1 S2) S1 S2 ∧ sV S2 := by
  intro n
  induction n with
  | zero => intro Sk Tk ck i hk h1 h2 h3 h4; omega
  | succ n ih =>
    intro Sk Tk ck i hk h1 h2 h3 h4 hK hF hG sv
    have nPP : P' ≠ P := fun z => by
      have e := hk.oc o
      rw [← z, hk.cl P' kP'.1] at e
      exact cP' e
    have nPx : P' ≠ x := fun z => by
      have e := kP'.2
      rw [z, hk.k.2] at e
      omega
    have kPk := kP'.n hk.en
    have eT : Tk P' = T1 P' := hF P' nPP nPx
    have w := hk.ci.tp P' (noE_n _) kPk
    rw [eT] at w
    rw [lp_Y0_copy_2]
    unfold st_Y0_copy_2
    by_cases c : i.toInt = (T1 P').length
    · have c' : giC Sk P' 1 ≤ i := iLe.mpr (by omega)
      rw [if_pos c']
      exact ⟨Sk, Tk, ck, rfl, hk, ⟨by omega, fun j hj => hK j (by omega)⟩, hF, hG, sv⟩
    · have c' : ¬ giC Sk P' 1 ≤ i := fun z => by have := iLe.mp z; omega
      have ea := at_s hk.ci (noE_n _) kPk (i := i) h1 (by rw [eT]; omega)
      have hn := iNat h1
      have mz : (Tk P').getD i.toNatClampNeg 0 ∈ Tk P' := by
        rw [List.getD_eq_getElem?_getD, List.getElem?_eq_getElem (show i.toNatClampNeg < _ by rw [eT]; omega)]
        exact List.getElem_mem _
      rw [ea]
      have ez : (T1 P').getD i.toNatClampNeg 0 = (Tk P').getD i.toNatClampNeg 0 := by rw [eT]
      generalize (Tk P').getD i.toNatClampNeg 0 = z at mz ez ⊢
      have kz := hk.ci.tk P' z mz
      rw [eT] at mz
      have kz1 := h0.tk P' z mz
      rw [if_neg c', if_neg (by simp)]
      simp only [Option.getD_some]
      have b1 := mT_b3 hk o nP (by omega)
      obtain ⟨S2', T2', q, c2', g1, g2, g3, g4, -, g6, g7, g8, g9⟩ := newMot_v hk (fun e => by rw [e] at b1; simp only [List.length_nil] at b1 ⊢; omega) (giC Sk z 2) sv
      rw [g1]
      have kz2 := kz.1.n g3.1
      have eT2 : T2' P = Tk P := g6 P nP
      have nzq : z ≠ q := fun e => g9 P' nPx (by rw [eT, ← e]; exact mz)
      obtain ⟨S3', r1, r2, r3, r4⟩ := bec4_v g2 g8 (g2.fc q (List.mem_cons_self ..)) kz2 nzq
      obtain ⟨-, S4', t1, t2, t3, _⟩ := y_put r2.1 (P := P) (noE_n _) o nP (by rw [eT2]; omega)
      have kq3 : iK S3' q 3 := r2.2.2.1
      have kq4 : iK S4' q 3 := kq3.n t3.1
      -- a motion but q stands
      have st : ∀ w, iK Sk w 3 → w ≠ q → ∀ j, j < 4 → ∀ k, giC S4' (w + j) k = giC Sk (w + j) k := fun w kw nw j hj k => by
        have k2 := kw.n g3.1
        have k3 := k2.n r2.2.1.1
        have x1 := g3.mo4 hk.ci.wf kw (dM_a g2.ci.wf k2 g8 nw) j hj k
        have x2 := r2.2.1.mo4 g2.ci.wf k2 (dM_a r2.1.ci.wf k3 kq3 nw) j hj k
        have x3 := (t3.x (D := fun _ => False)).mo4 r2.1.ci.wf k3 (fun _ _ y => y) j hj k
        rw [x3, x2, x1]
      have cz : cq Sk z S4' q := (r3.r ((t3.x (D := fun _ => False)).mo4 r2.1.ci.wf kq3 (fun _ _ y => y))).l (fun j hj k => (g3.mo4 hk.ci.wf kz.1 (dM_a g2.ci.wf kz2 g8 nzq) j hj k).symm)
      have fz : ∀ j, j < 4 → ∀ k, giC S1 (z + j) k = giC Sk (z + j) k := fun j hj k => by
        have e : Sk.2.2 (z + j) = S1.2.2 (z + j) := hk.fr (z + j) (by
          have W := W3k h0.wf kz1.1
          rcases (show j = 0 ∨ j = 1 ∨ j = 2 ∨ j = 3 by omega) with rfl | rfl | rfl | rfl
          · exact kz1.1.1
          · exact W.1.1
          · exact W.2.1.1
          · exact W.2.2.1) (by rw [h0.c3 z kz1.1 j hj, kz1.2]; exact cP')
        unfold giC
        rw [e]
      have frsh : ∀ c, c ≠ x → q ∉ T1 c := fun c nc m => by
        by_cases y : c = P
        · rw [y, hT] at m
          cases m
        · exact g9 c nc (by rw [hF c y nc]; exact m)
      have G4 : gX (fD x T1 S4') S1 S4' := by
        have e4 : eN Sk S4' := (g3.1.tr r2.2.1.1).tr t3.1
        have m1 : ∀ z, dM q z → fD x T1 S4' z := fun z d => ⟨q, kq4, d, frsh⟩
        exact (hG.mo (fun z h => h.n e4)).tr ((g3.mo m1).tr ((r2.2.1.mo m1).tr t3.x))
      have n4 : S4'.1 = S3'.1 := t3.2.2.2
      have sv4 : sV S4' := fun w kw => by
        by_cases y : w = q
        · rw [y]
          exact cz.v (sv z kz.1)
        · have k2 := (g7 w (ik_b (ik_b kw t3.1 n4) r2.2.1.1 r4)).resolve_left y
          have e := st w k2 y
          rw [vCn_cg (e 3 (by omega)), show giC S4' w 14 = giC Sk w 14 from e 0 (by omega) 14]
          exact sv w k2
      have e1 := iAdd (x := i) (y := 1) (by rw [i1]; omega) (by rw [i1]; omega)
      rw [i1] at e1
      obtain ⟨S5, T5, c5, l1, l3, l4, l5, l6, l7⟩ := ih S4' (tU T2' P (T2' P ++ [q])) c2' (i + 1) t2 (by omega) (by rw [tU_at, eT2, List.length_append, List.length_singleton]; omega) (by omega) (by omega) (fun j hj => by
        rw [tU_at, eT2]
        by_cases y : (j : Int) < i.toInt
        · rw [gD_app (by omega)]
          have m : (Tk P).getD j 0 ∈ Tk P := gD_mem (by omega)
          exact (hK j y).r (st _ (hk.ci.tk P _ m).1 (fun e => g9 P nP (by rw [← e]; exact m)))
        · have ej : j = (Tk P).length := by omega
          have ei : j = i.toNatClampNeg := by omega
          rw [gD_end ej, ei, ez]
          exact cz.l fz) (fun c a b => by rw [tU_ne _ _ a, g6 c b]; exact hF c a b) G4 sv4
      unfold b_Y0_copy_31a b_Y0_copy_40a b_Y0_copy_46
      simp only [Option.getD_some]
      rw [r1]
      simp only
      rw [t1]
      exact ⟨S5, T5, c5, l1, l3, l4, l5, l6, l7⟩
/-- the house of x is that of y -/
def hE (S1 : Cst) (y : Nat) (Sk : Cst) (x : Nat) : Prop := (∀ k, k = 0 ∨ k = 2 ∨ k = 3 ∨ k = 4 ∨ k = 5 ∨ k = 6 → giC Sk (x + 37) k = giC S1 (y + 37) k) ∧ (∀ s, s < 200 → giC Sk (x + 38) s = vp_nar .boolean (giC S1 (y + 38) s)) ∧ ∀ k, k < 9 → giC Sk (x + 39) k = giC S1 (y + 39) k
theorem hE.gx {D : Nat → Prop} (h : hE S1 y Sk x) (ci : CI noE Sk Tk F ck) (kx : iK Sk x 0) (g : gX D Sk S3) (n7 : ¬ D (x + 37)) (n8 : ¬ D (x + 38)) (n9 : ¬ D (x + 39)) : hE S1 y S3 x := by
  have k37 := (ci.wf.w0 kx).1.1
  have w1 := ci.wf.w1 k37
  have k38 : iK Sk (x + 38) 21 := w1.1.1
  have k39 : iK Sk (x + 39) 20 := w1.1.2.2.1
  obtain ⟨a, b, c⟩ := h
  refine ⟨fun k hk => ?_, fun s hs => ?_, fun k hk => ?_⟩
  · rw [g.2.1 _ k37.1 (by rw [k37.2]; decide) n7]
    exact a k hk
  · rw [g.2.1 _ k38.1 (by rw [k38.2]; decide) n8]
    exact b s hs
  · rw [g.2.1 _ k39.1 (by rw [k39.2]; decide) n9]
    exact c k hk
theorem zl_k' (ci : CI noE Sk Tk F ck) (kx : iK Sk x 0) {l : Nat} (hl : l = x + 7 ∨ l = x + 9) : iK Sk l 2 ∧ iK Sk ((grC Sk l 2).getD 0) 20 := by
  have w := ci.wf.w0 kx
  have k : iK Sk l 2 := by
    rcases hl with e | e <;> rw [e]
    · exact w.1.2.2.2.2.1
    · exact w.1.2.2.2.2.2.1
  exact ⟨k, (ci.wf.w2 k).2.1.2⟩
theorem jS.gx {D : Nat → Prop} (j : jS Sk x) (ci : CI noE Sk Tk F ck) (kx : iK Sk x 0) (g : gX D Sk S3) (n7 : ¬ D (x + 7)) (n9 : ¬ D (x + 9)) : jS S3 x := by
  obtain ⟨⟨c1', c2'⟩, d1, d2, d3, d4, d5⟩ := j
  have key : ∀ l, l = x + 7 ∨ l = x + 9 → ¬ D l → giC S3 l 0 = giC Sk l 0 ∧ grC S3 l 2 = grC Sk l 2 ∧ (oz Sk l → oz S3 l) := fun l hl n => by
    obtain ⟨kl, kz⟩ := zl_k' ci kx hl
    have gr := g.2.2 l kl.1 kl.2
    refine ⟨g.2.1 l kl.1 (by rw [kl.2]; decide) n 0, gr, fun o q k => ?_⟩
    rw [gr]
    by_cases y : q < Sk.1
    · exact o q ⟨y, by rw [← (g.1.2 q y).1]; exact k.2⟩
    · have := kz.1
      omega
  obtain ⟨u1, u2, u3⟩ := key (x + 7) (Or.inl rfl) n7
  obtain ⟨v1, v2, v3⟩ := key (x + 9) (Or.inr rfl) n9
  exact ⟨⟨u1.trans c1', v1.trans c2'⟩, u3 d1, v3 d2, by rw [u2, v2]; exact d3, by rw [u2]; exact d4, by rw [v2]; exact d5⟩
/-- so far copied -/
def BV (x y : Nat) (S1 : Cst) (T1 : Nat → List Nat) (D : Nat → Prop) (Sk : Cst) (Tk : Nat → List Nat) : Prop := (∀ g, g < 10 → D g → cP S1 (T1 (rP y g)) Sk (Tk (rP x g))) ∧ (∀ g, g < 10 → ¬ D g → Tk (rP x g) = []) ∧ hE S1 y Sk x ∧ sV Sk ∧ jS Sk x
theorem fD_n {z : Nat} (h : ∀ q, iK S q 3 → ¬ dM q z) : ¬ fD x T1 S z := fun ⟨q, k, d, _⟩ => h q k d
theorem BV.cp {D : Nat → Prop} (hk : Sst noE x S1 T1 [] c1 Sk Tk [] ck) (b : BV x y S1 T1 D Sk Tk) (h0 : CI noE S1 T1 [] c1) (ky : iK S1 y 0) (ny : y ≠ x) {g0 : Nat} (hg : g0 < 10) (nD : ¬ D g0) : ∃ S3 T3 c3, f_Y0_copy Sk x (rP y g0) (rP x g0) = (0, S3) ∧ Sst noE x S1 T1 [] c1 S3 T3 [] c3 ∧ BV x y S1 T1 (fun g => D g ∨ g = g0) S3 T3 ∧ ∀ d, pl x d → giC S3 d 0 = giC Sk d 0 := by
  obtain ⟨b1, b2, b3, b4, b5⟩ := b
  have kP1 : iK S1 (rP y g0) 4 := rP_k h0.wf ky hg
  have oy := rP_own (x := y) hg
  have cy : c1 (rP y g0) = y := by
    obtain ⟨j, hj, e⟩ := oy.1.lt
    rw [e]
    exact h0.c0 y ky j hj
  have kPk := kP1.n hk.en
  have ckP : ck (rP y g0) ≠ x := by rw [hk.cl _ kP1.1, cy]; exact ny
  have ox := rP_own (x := x) hg
  have w := hk.ci.tp (rP y g0) (noE_n _) kPk
  have eT : Tk (rP y g0) = T1 (rP y g0) := hk.ft _ kP1.1 (by rw [cy]; exact ny)
  obtain ⟨S3, T3, c3, f, s3, p3, t3, G, v3⟩ := copy_v kPk ckP ox.1 ox.2 hk.ci (b2 g0 hg nD) 100000 Sk Tk ck 0 (Sst.rf hk.ci hk.k1 (fun q m => by cases m)) (by rw [i0]; omega) (by rw [b2 g0 hg nD, i0]; rfl) (by rw [i0]; omega) (by rw [i0]; omega) (fun j hj => by rw [i0] at hj; omega) (fun _ _ _ => rfl) ((gF.rf Sk).x) b4
  have k3 := s3.k1
  have nH := fun q (k : iK S3 q 3) => dM_h s3.ci k3 k
  have nX := fun q (k : iK S3 q 3) => dM_x s3.ci k3 k
  refine ⟨S3, T3, c3, f, hk.tr s3, ⟨fun g hg' d => ?_, fun g hg' d => ?_, b3.gx hk.ci hk.k1 G (fD_n fun q k => (nH q k).1) (fD_n fun q k => (nH q k).2.1) (fD_n fun q k => (nH q k).2.2), v3, b5.gx hk.ci hk.k1 G (fD_n fun q k => (nX q k).2.2.1) (fD_n fun q k => (nX q k).2.2.2.1)⟩, fun d o => ?_⟩
  · by_cases y' : g = g0
    · rw [y']
      rw [eT] at p3
      refine ⟨p3.1, fun j hj => (p3.2 j hj).l (fun i hi k => ?_)⟩
      have m := h0.tk _ _ (gD_mem hj)
      have e : Sk.2.2 ((T1 (rP y g0)).getD j 0 + i) = S1.2.2 ((T1 (rP y g0)).getD j 0 + i) := hk.fr _ (by
        have W := W3k h0.wf m.1
        rcases (show i = 0 ∨ i = 1 ∨ i = 2 ∨ i = 3 by omega) with rfl | rfl | rfl | rfl
        · exact m.1.1
        · exact W.1.1
        · exact W.2.1.1
        · exact W.2.2.1) (by rw [h0.c3 _ m.1 i hi, m.2, cy]; exact ny)
      unfold giC
      rw [e]
    · have d := d.resolve_right y'
      have ne : rP x g ≠ rP x g0 := fun e => y' (rP_inj e)
      have nx := (rP_own (x := x) hg').2
      rw [t3 _ ne nx]
      obtain ⟨l, q⟩ := b1 g hg' d
      exact ⟨l, fun j hj => (q j hj).r (fD.m s3.ci.wf hk.ci G nx (gD_mem (by omega)))⟩
  · have ne : rP x g ≠ rP x g0 := fun e => d (Or.inr (rP_inj e))
    rw [t3 _ ne (rP_own (x := x) hg').2]
    exact b2 g hg' (fun e => d (Or.inl e))
  · have k := pl.lt hk.ci hk.k1 o
    refine G.2.1 d k.1 (by rw [k.2]; decide) (fD_n fun q kq y' => ?_) 0
    rcases o with o | ⟨p, hp, o⟩
    · exact (nX q kq).2.1 (by rw [← o]; exact y')
    · exact (nX q kq).2.2.2.2.2.2 p hp (by rw [← o]; exact y')
theorem BV.so {D : Nat → Prop} (hk : Sst noE x S1 T1 [] c1 Sk Tk [] ck) (b : BV x y S1 T1 D Sk Tk) {d : Nat} (o : pl x d) (v : Int32) : BV x y S1 T1 D (siC Sk d 0 v) Tk := by
  obtain ⟨b1, b2, b3, b4, b5⟩ := b
  have k := pl.lt hk.ci hk.k1 o
  have w0 := hk.ci.wf.w0 hk.k1
  have w1 := hk.ci.wf.w1 w0.1.1
  have G : gX (fun z => z = d) Sk (siC Sk d 0 v) := gX.si Sk d 0 v
  have nm : ∀ q, iK Sk q 3 → ∀ j, j < 4 → ¬ q + j = d := fun q kq j hj e => by
    obtain ⟨-, m3, -, -, -, -, m13⟩ := mo_x hk.ci hk.k1 kq hj
    rcases o with o | ⟨p, hp, o⟩
    · exact m3 (e.trans o)
    · exact m13 p hp (e.trans o)
  refine ⟨fun g hg h => ?_, b2, b3.gx hk.ci hk.k1 G (fun e => ik_ne k w0.1.1 (by decide) e.symm) (fun e => ik_ne k w1.1.1 (by decide) e.symm) (fun e => ik_ne k w1.1.2.2.1 (by decide) e.symm), b4.gx G hk.ci.wf nm (fun q c => ik_si.mp c), b5.gx hk.ci hk.k1 G (fun e => ik_ne k w0.1.2.2.2.2.1 (by decide) e.symm) (fun e => ik_ne k w0.1.2.2.2.2.2.1 (by decide) e.symm)⟩
  obtain ⟨l, q⟩ := b1 g hg h
  refine ⟨l, fun j hj => (q j hj).r (fun i hi kk => ?_)⟩
  have m := hk.ci.tk _ _ (gD_mem (show j < (Tk (rP x g)).length by omega))
  rw [gi_si, if_neg (fun e => nm _ m.1 i hi e.1)]
end
end
