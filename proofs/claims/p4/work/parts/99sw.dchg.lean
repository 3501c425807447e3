/-! ===== words in place of a span: the reference put together; the class's texts ===== -/
section
variable {wF : Prop × (Nat → Int32) × Int32 × (Nat → Int32)} {E : Nat → Prop} {x : Nat} {S1 S2 S3 : Cst} {T T1 T2 T3 : Nat → List Nat} {F F1 : List Nat} {col c1 c2 c3 : Nat → Nat} {Sc : Cst}
theorem tO.e {S S' : HS} (h : tO S S') : S' = sR S 28 (S'.2 28) := by
  refine Prod.ext h.1 (funext fun j => ?_)
  show S'.2 j = if j = 28 then S'.2 28 else S.2 j
  by_cases z : j = 28
  · rw [if_pos z, z]
  · rw [if_neg z, h.2 j z]
theorem tO.tr {S S' S'' : HS} (h : tO S S') (g : tO S' S'') : tO S S'' := ⟨g.1.trans h.1, fun k y => (g.2 k y).trans (h.2 k y)⟩
theorem change_v {S : HS} (h : RA S) {x1 x2 : Int32} {t m a : Nat} (h1 : x1.toInt = t ∧ t < 90) (h2 : x2.toInt = m ∧ m < 90) (tm : t ≠ m) (ha : (S.2 20 m).toInt = a) (hab : (a : Int) ≤ (S.2 21 m).toInt ∧ (S.2 21 m).toInt ≤ (S.2 19 t).toInt) (hw : (S.2 19 t).toInt ≤ 400) (hn : 0 ≤ (S.2 19 m).toInt ∧ (S.2 19 m).toInt ≤ 400) (q : (S.2 19 t).toInt + (S.2 19 m).toInt - ((S.2 21 m).toInt - a) ≤ 400) :
    ∃ S' x6, x6 = S.2 19 m - (S.2 21 m - S.2 20 m) ∧ x6.toInt = (S.2 19 m).toInt - ((S.2 21 m).toInt - a) ∧ tO S S' ∧ cV (sA S' 19 t (S.2 19 t + x6)) (f_X11_change S x1 x2).2 x1 x2 (S.2 20 m) (S.2 21 m) x6 0 ∧
      (∀ i : Nat, i < a → S'.2 28 (400 * t + i) = S.2 28 (400 * t + i)) ∧ (∀ i : Nat, (i : Int) < (S.2 19 m).toInt → S'.2 28 (400 * t + (a + i)) = S.2 28 (400 * m + i)) ∧ (∀ i p : Nat, (S.2 21 m).toInt ≤ i → (i : Int) < (S.2 19 t).toInt → (p : Int) = i + x6.toInt → S'.2 28 (400 * t + p) = S.2 28 (400 * t + i)) ∧ ∀ p, p < 400 * t ∨ 400 * t + 400 ≤ p → S'.2 28 p = S.2 28 p := by
  have e4 : (400 : Int32).toInt = 400 := by decide
  have k1 := iNat (x := x1) (by omega)
  have k2 := iNat (x := x2) (by omega)
  have et : x1.toNatClampNeg = t := by omega
  have em : x2.toNatClampNeg = m := by omega
  have m8 := iMul (x := 400) (y := x1) (n := 400 * (t : Int)) (by rw [e4]; omega) (by omega) (by omega)
  have s1 := iSub (x := S.2 21 m) (y := S.2 20 m) (by omega) (by omega)
  have s2 := iSub (x := S.2 19 m) (y := S.2 21 m - S.2 20 m) (by omega) (by omega)
  rw [s1, ha] at s2
  have s3 := iSub (x := S.2 19 t) (y := 1) (by rw [i1]; omega) (by rw [i1]; omega)
  rw [i1] at s3
  suffices W : ∃ S', tO S S' ∧ cV (sA S' 19 t (S.2 19 t + (S.2 19 m - (S.2 21 m - S.2 20 m)))) (f_X11_change S x1 x2).2 x1 x2 (S.2 20 m) (S.2 21 m) (S.2 19 m - (S.2 21 m - S.2 20 m)) 0 ∧ (∀ i : Nat, i < a → S'.2 28 (400 * t + i) = S.2 28 (400 * t + i)) ∧ (∀ i : Nat, (i : Int) < (S.2 19 m).toInt → S'.2 28 (400 * t + (a + i)) = S.2 28 (400 * m + i)) ∧ (∀ i p : Nat, (S.2 21 m).toInt ≤ i → (i : Int) < (S.2 19 t).toInt → (p : Int) = i + (S.2 19 m - (S.2 21 m - S.2 20 m)).toInt → S'.2 28 (400 * t + p) = S.2 28 (400 * t + i)) ∧ ∀ p, p < 400 * t ∨ 400 * t + 400 ≤ p → S'.2 28 p = S.2 28 p by
    obtain ⟨S', w1, w2, w3⟩ := W
    exact ⟨S', _, rfl, s2, w1, w2, w3⟩
  -- the words put in, and what follows
  have last : ∀ S0 : HS, tO S S0 → ∃ S', tO S0 S' ∧ cV (sA S' 19 t (S.2 19 t + (S.2 19 m - (S.2 21 m - S.2 20 m)))) (b_X11_change_139 S0 x1 x2 (S.2 20 m) (S.2 21 m) (S.2 19 m) (S.2 19 m - (S.2 21 m - S.2 20 m)) (S.2 19 t) (400 * x1)).2 x1 x2 (S.2 20 m) (S.2 21 m) (S.2 19 m - (S.2 21 m - S.2 20 m)) 0 ∧ (∀ i : Nat, (i : Int) < (S.2 19 m).toInt → S'.2 28 (400 * t + (a + i)) = S0.2 28 (400 * m + i)) ∧ ∀ p, (∀ i : Nat, (i : Int) < (S.2 19 m).toInt → p ≠ 400 * t + (a + i)) → S'.2 28 p = S0.2 28 p := fun S0 o => by
    obtain ⟨S', q1, q2, q3, q4⟩ := t142 (x1 := x1) (x2 := x2) (x3 := S.2 20 m) (x4 := S.2 21 m) (x5 := S.2 19 m) (x6 := S.2 19 m - (S.2 21 m - S.2 20 m)) (x7 := S.2 19 t) (x8 := 400 * x1) m8 h1.2 ⟨by omega, by omega⟩ em tm ha (by omega) 100000 S0 0 (by rw [i0]; omega) (by rw [i0]; omega) (by rw [i0]; omega)
    rw [i0] at q3 q4
    rw [et] at q1
    have e : b_X11_change_139 S0 x1 x2 (S.2 20 m) (S.2 21 m) (S.2 19 m) (S.2 19 m - (S.2 21 m - S.2 20 m)) (S.2 19 t) (400 * x1) = _ := q1
    rw [e]
    have hr : RA (sA S' 19 t (S.2 19 t + (S.2 19 m - (S.2 21 m - S.2 20 m)))) := by
      have eS := (o.tr q2).e
      rw [eS]
      exact h
    refine ⟨S', q2, chg_v 100000 _ 0 hr (by rw [i0]; omega) (by rw [i0]; omega) (by rw [i0]; omega), fun i hi => q3 i (by omega) hi, fun p hp => q4 p (fun i _ hi => hp i hi)⟩
  unfold f_X11_change
  rw [em, et]
  by_cases z : (S.2 19 m - (S.2 21 m - S.2 20 m)) ≤ 0
  · have z' := iLe.mp z
    rw [i0] at z'
    rw [if_pos z]
    unfold b_X11_change_94
    by_cases z0 : 0 ≤ (S.2 19 m - (S.2 21 m - S.2 20 m))
    · have z0' := iLe.mp z0
      rw [i0] at z0'
      rw [if_pos z0]
      obtain ⟨S', q2, q3, q4, q5⟩ := last S ⟨rfl, fun _ _ => rfl⟩
      refine ⟨S', q2, q3, fun i hi => q5 _ (fun i' hi' => by omega), q4, fun i p p1 p2 p3 => ?_, fun p hp => q5 _ (fun i' hi' => by omega)⟩
      have : p = i := by omega
      subst this
      exact q5 _ (fun i' hi' => by omega)
    · have z0' := mt iLe.mpr z0
      rw [i0] at z0'
      rw [if_neg z0]
      obtain ⟨S0, p1, p2, p3, p4⟩ := t103 (x1 := x1) (x2 := x2) (x3 := S.2 20 m) (x4 := S.2 21 m) (x5 := S.2 19 m) (x6 := S.2 19 m - (S.2 21 m - S.2 20 m)) (x7 := S.2 19 t) (x8 := 400 * x1) m8 h1.2 (by omega) hw 100000 S (S.2 21 m) (by omega) (by omega) (by omega) (by omega)
      rw [p1]
      obtain ⟨S', q2, q3, q4, q5⟩ := last S0 p2
      refine ⟨S', p2.tr q2, q3, fun i hi => ?_, fun i hi => ?_, fun i p a1 a2 a3 => ?_, fun p hp => ?_⟩
      · rw [q5 _ (fun i' hi' => by omega), p4 _ (fun i' p' b1 b2 b3 => by omega)]
      · rw [q4 i hi, p4 _ (fun i' p' b1 b2 b3 => by omega)]
      · rw [q5 _ (fun i' hi' => by omega), p3 i p a1 a2 a3]
      · rw [q5 _ (fun i' hi' => by omega), p4 _ (fun i' p' b1 b2 b3 => by omega)]
  · have z' := mt iLe.mpr z
    rw [i0] at z'
    rw [if_neg z]
    obtain ⟨S0, p1, p2, p3, p4⟩ := t58 (x1 := x1) (x2 := x2) (x3 := S.2 20 m) (x4 := S.2 21 m) (x5 := S.2 19 m) (x6 := S.2 19 m - (S.2 21 m - S.2 20 m)) (x7 := S.2 19 t) (x8 := 400 * x1) m8 h1.2 (by omega) (by omega) (by omega) 100000 S (S.2 19 t - 1) (by omega) (by omega) (by omega)
    rw [p1]
    unfold b_X11_change_94
    rw [if_pos (iLe.mpr (by rw [i0]; omega))]
    obtain ⟨S', q2, q3, q4, q5⟩ := last S0 p2
    refine ⟨S', p2.tr q2, q3, fun i hi => ?_, fun i hi => ?_, fun i p a1 a2 a3 => ?_, fun p hp => ?_⟩
    · rw [q5 _ (fun i' hi' => by omega), p4 _ (fun i' p' b1 b2 b3 => by omega)]
    · rw [q4 i hi, p4 _ (fun i' p' b1 b2 b3 => by omega)]
    · rw [q5 _ (fun i' hi' => by omega), p3 i p a1 (by omega) a3]
    · rw [q5 _ (fun i' hi' => by omega), p4 _ (fun i' p' b1 b2 b3 => by omega)]
/-- the class's text -/
theorem rep_v (h : Sst E x Sc T F col S1 T1 F1 c1) {t z : Nat} (k : iK S1 t 6) (c : c1 t = x) (c' : c1 (t + 1) = x) (kz : iK S1 z 6) (nz : t ≠ z) {a b : Int32} (ha : 0 ≤ a.toInt ∧ a.toInt ≤ b.toInt ∧ b.toInt ≤ (giC S1 t 1).toInt) (hw : (giC S1 t 1).toInt ≤ 400) (hn : 0 ≤ (giC S1 z 1).toInt ∧ (giC S1 z 1).toInt ≤ 400) (hq : (giC S1 t 1).toInt + (giC S1 z 1).toInt - (b.toInt - a.toInt) ≤ 400) : ∃ S2, f_Y9_replace S1 t z a b = (0, S2) ∧ QU E x Sc T F col T1 F1 c1 S1 S2 ∧ (giC S2 t 1).toInt = (giC S1 t 1).toInt + (giC S1 z 1).toInt - (b.toInt - a.toInt) ∧ (∀ q k, q ≠ t + 1 → (q ≠ t ∨ k ≠ 1) → giC S2 q k = giC S1 q k) ∧ (∀ q k, grC S2 q k = grC S1 q k) ∧ (∀ q, lnC S2 q = lnC S1 q) ∧ (∀ q c, iK S2 q c → iK S1 q c) ∧ (∀ i : Nat, (i : Int) < a.toInt → giC S2 (t + 1) i = giC S1 (t + 1) i) ∧ (∀ i : Nat, (i : Int) < (giC S1 z 1).toInt → giC S2 (t + 1) (a.toNatClampNeg + i) = giC S1 (z + 1) i) ∧ ∀ i p : Nat, b.toInt ≤ i → (i : Int) < (giC S1 t 1).toInt → (p : Int) = i + ((giC S1 z 1).toInt - (b.toInt - a.toInt)) → giC S2 (t + 1) p = giC S1 (t + 1) i := by
  have w := h.ci.wf.w6 k
  have wz := h.ci.wf.w6 kz
  have h4 : (Int32.ofNat 400).toInt = 400 := by decide
  obtain ⟨-, v, S2, f, U⟩ := y_replace h k c c' kz a b
  have e1 := iSub (x := b) (y := a) (by omega) (by omega)
  have e2 := iSub (x := giC S1 t 1) (y := b - a) (by omega) (by omega)
  have e3 := iAdd (x := giC S1 t 1 - (b - a)) (y := giC S1 z 1) (by omega) (by omega)
  have e4 := iAdd (x := a) (y := giC S1 z 1) (by omega) (by omega)
  have e5 := iSub (x := giC S1 t 1) (y := b) (by omega) (by omega)
  have n1 := iNat (x := b) (by omega)
  have n2 := iNat (x := a + giC S1 z 1) (by omega)
  have n3 := iNat (x := giC S1 t 1 - b) (by omega)
  have n4 := iNat (x := a) (by omega)
  have n5 := iNat (x := giC S1 z 1) (by omega)
  have nzt : z ≠ t + 1 := ik_ne kz w.1.1 (by decide)
  have nz1 : z + 1 ≠ t + 1 := by omega
  have ntt : t ≠ t + 1 := by omega
  have z0 : (0 : Int32).toNatClampNeg = 0 := rfl
  obtain ⟨f1, hf1⟩ : ∃ f1, f1 = va_cpy (giC S1 (t + 1)) (giC S1 (t + 1)) b.toNatClampNeg (a + giC S1 z 1).toNatClampNeg (giC S1 t 1 - b).toNatClampNeg := ⟨_, rfl⟩
  obtain ⟨f2, hf2⟩ : ∃ f2, f2 = va_cpy (giC S1 (z + 1)) f1 0 a.toNatClampNeg (giC S1 z 1).toNatClampNeg := ⟨_, rfl⟩
  have g1 : giC (sfC S1 (t + 1) f1) (t + 1) = f1 := funext fun i => by rw [gi_sf, if_pos rfl]
  have g2 : giC (sfC S1 (t + 1) f1) (z + 1) = giC S1 (z + 1) := funext fun i => by rw [gi_sf, if_neg nz1]
  have g3 : giC (sfC S1 (t + 1) f1) z 1 = giC S1 z 1 := by rw [gi_sf, if_neg nzt]
  have e : f_Y9_replace S1 t z a b = (0, siC (sfC (sfC S1 (t + 1) f1) (t + 1) f2) t 1 (giC S1 t 1 - (b - a) + giC S1 z 1)) := by
    have es : f_Y9_sizeWith S1 t a b (giC S1 z 1) = giC S1 t 1 - (b - a) + giC S1 z 1 := rfl
    unfold f_Y9_replace b_Y9_replace_81a
    rw [es, if_neg (fun y => by have := iLt.mp y; rw [i0] at this; omega), if_neg (fun y => by have := iLt.mp y; omega), if_neg (fun y => by have := iLt.mp y; omega), w.2.1, Option.getD_some, w.1.2, if_pos (iLe.mpr (by rw [h4]; omega)), ← hf1]
    simp only [gr_sf, w.2.1, wz.2.1, Option.getD_some]
    rw [g1, g2, g3, z0, ← hf2]
  obtain ⟨-, rfl⟩ := Prod.mk.inj (f.symm.trans e)
  have gt : ∀ i, giC (siC (sfC (sfC S1 (t + 1) f1) (t + 1) f2) t 1 (giC S1 t 1 - (b - a) + giC S1 z 1)) (t + 1) i = f2 i := fun i => by
    rw [gi_si, if_neg (fun y => by omega), gi_sf, if_pos rfl]
  refine ⟨_, e, U, ?_, fun q k h1 h2 => ?_, fun q k => ?_, fun q => ?_, fun q c k => ?_, fun i hi => ?_, fun i hi => ?_, fun i p p1 p2 p3 => ?_⟩
  · rw [gi_si, if_pos ⟨rfl, rfl⟩, e3, e2, e1]
    omega
  · rw [gi_si, if_neg (fun y => h2.elim (fun f => f y.1) (fun f => f y.2)), gi_sf, if_neg h1, gi_sf, if_neg h1]
  · rw [gr_si, gr_sf, gr_sf]
  · rw [ln_si, ln_sf, ln_sf]
  · exact ik_sf.mp (ik_sf.mp (ik_si.mp k))
  · rw [gt, hf2]
    unfold va_cpy
    rw [if_neg (by omega), hf1]
    unfold va_cpy
    rw [if_neg (by omega)]
  · rw [gt, hf2]
    unfold va_cpy
    rw [if_pos (by omega)]
    congr 1
    omega
  · rw [gt, hf2]
    unfold va_cpy
    rw [if_neg (by omega), hf1]
    unfold va_cpy
    rw [if_pos (by omega)]
    congr 1
    omega
end
