/-! ===== deeds that move no motion ===== -/
section
variable {E E0 : Nat → Prop} {x : Nat} {S S1 S2 S3 : Cst} {T T1 : Nat → List Nat} {F F1 : List Nat} {col c1 : Nat → Nat}
/-- none, or a motion of the assembly -/
def mC (S : Cst) (c1 : Nat → Nat) (x : Nat) (r : Option Nat) : Prop := r = none ∨ ∃ q, r = some q ∧ iK S q 3 ∧ c1 q = x
theorem mC.e {r : Option Nat} (h : mC S1 c1 x r) (g : eN S1 S2) : mC S2 c1 x r := by
  rcases h with h | ⟨q, e, k, c⟩
  · exact Or.inl h
  · exact Or.inr ⟨q, e, k.n g, c⟩
theorem y_giveFloor (h : Sst E x S T F col S1 T1 F1 c1) {r : Option Nat} (hr : mC S1 c1 x r) (s : Int32) : qm E x S T F col T1 F1 c1 S1 (p_Y1_giveFloor S1 (x + 37) r s) (f_Y1_giveFloor S1 (x + 37) r s) := by
  have u1 := (QU.rf h).hI 6 s (by omega)
  unfold qm p_Y1_giveFloor f_Y1_giveFloor
  rcases hr with rfl | ⟨q, rfl, k, c⟩
  · rw [if_pos rfl, if_pos rfl]
    exact ⟨trivial, _, _, rfl, u1⟩
  · simp only [reduceCtorEq, if_false, Option.getD_some, ir_so, ik_si]
    exact ⟨⟨k, k, k, trivial⟩, _, _, rfl, u1.mI (ik_si.mpr k) c 5 _ (by omega) (by omega)⟩
theorem y_cedeFloor (h : Sst E x S T F col S1 T1 F1 c1) : qm E x S T F col T1 F1 c1 S1 (p_Y1_cedeFloor S1 (x + 37)) (f_Y1_cedeFloor S1 (x + 37)) := ⟨trivial, _, _, rfl, (QU.rf h).hI 6 _ (by omega)⟩
theorem y_speak (h : Sst E x S T F col S1 T1 F1 c1) {r : Option Nat} (hr : mC S1 c1 x r) : qm E x S T F col T1 F1 c1 S1 (p_Y1_speak S1 r) (f_Y1_speak S1 r) := by
  unfold qm p_Y1_speak f_Y1_speak
  rcases hr with rfl | ⟨q, rfl, k, c⟩
  · rw [if_pos rfl, if_pos rfl]
    exact ⟨trivial, _, _, rfl, QU.rf h⟩
  · simp only [reduceCtorEq, if_false, Option.getD_some, ir_so, ik_si]
    exact ⟨⟨k, k, k, trivial⟩, _, _, rfl, (QU.rf h).mI k c 6 _ (by omega) (by omega)⟩
theorem y_support (h : Sst E x S T F col S1 T1 F1 c1) {r : Option Nat} (hr : mC S1 c1 x r) (s : Int32) : qm E x S T F col T1 F1 c1 S1 (p_Y1_support S1 r s) (f_Y1_support S1 r s) := by
  unfold qm p_Y1_support f_Y1_support q_Y1_support_9 b_Y1_support_9
  rcases hr with rfl | ⟨q, rfl, k, c⟩
  · rw [if_pos rfl, if_pos rfl]
    exact ⟨trivial, _, _, rfl, QU.rf h⟩
  · simp only [reduceCtorEq, if_false, Option.getD_some, ir_so]
    exact ⟨⟨k, trivial⟩, _, _, rfl, (QU.rf h).mI k c 4 _ (by omega) (by omega)⟩
theorem y_setSpan (h : Sst E x S T F col S1 T1 F1 c1) (hr : mC S1 c1 x (f_Y6_motion S1 (x + 3))) (a b : Int32) : qm E x S T F col T1 F1 c1 S1 (p_Y1_setSpan S1 x a b) (f_Y1_setSpan S1 x a b) := by
  have u := QU.rf h
  have w0 := u.w0
  have pm := y_motion h.ci.wf w0.1.2.2.1
  unfold qm p_Y1_setSpan f_Y1_setSpan q_Y1_setSpan_22 b_Y1_setSpan_22
  rw [w0.2.1.2.2.1]
  simp only [Option.getD_some, ir_so]
  generalize f_Y6_motion S1 (x + 3) = r at hr ⊢
  rcases hr with rfl | ⟨q, rfl, k, c⟩
  · simp only [if_true]
    exact ⟨⟨w0.1.2.2.1, pm, trivial⟩, _, _, rfl, u⟩
  · simp only [reduceCtorEq, if_false, Option.getD_some, ir_so, ik_si]
    exact ⟨⟨w0.1.2.2.1, pm, k, k, trivial⟩, _, _, rfl, (u.mI k c 8 _ (by omega) (by omega)).mI (ik_si.mpr k) c 9 _ (by omega) (by omega)⟩
theorem aw_53 (h : Sst E x S T F col S1 T1 F1 c1) {q : Nat} (k : iK S1 q 3) (a b c' d : Int32) : qm E x S T F col T1 F1 c1 S1 (q_Y1_addWords_53a S1 x a b c' d (some q)) (b_Y1_addWords_53a S1 x a b c' d (some q)) := by
  have w := h.ci.wf.w3 k
  unfold qm q_Y1_addWords_53a b_Y1_addWords_53a
  rw [Option.getD_some, w.2.1.1]
  exact ⟨⟨ir_so.mpr k, ir_so.mpr w.1.1, trivial⟩, _, _, rfl, QU.rf h⟩
theorem aw_43 (h : Sst E x S T F col S1 T1 F1 c1) {q : Nat} (k : iK S1 q 3) (c : c1 q = x) (a b c' d : Int32) : qm E x S T F col T1 F1 c1 S1 (q_Y1_addWords_43a S1 x a b c' d (some q)) (b_Y1_addWords_43a S1 x a b c' d (some q)) := by
  have w := h.ci.wf.w3 k
  have u := QU.rf h
  unfold qm q_Y1_addWords_43a b_Y1_addWords_43a
  rw [Option.getD_some, w.2.1.1, Option.getD_some]
  obtain ⟨p, v, S3, f, g⟩ := y_append h w.1.1 (u.mc k c 1 (by omega)) (u.mc k c 2 (by omega)) d
  rw [f]
  obtain ⟨p2, v2, S4, f2, g2⟩ := aw_53 g.1 (k.e g.2.2) a b c' d
  exact ⟨⟨ir_so.mpr k, ir_so.mpr w.1.1, p, p2⟩, v2, S4, f2, g.tr g2⟩
theorem aw_34 (h : Sst E x S T F col S1 T1 F1 c1) {q : Nat} (k : iK S1 q 3) (c : c1 q = x) (a b c' d : Int32) : qm E x S T F col T1 F1 c1 S1 (q_Y1_addWords_34a S1 x a b c' d (some q)) (b_Y1_addWords_34a S1 x a b c' d (some q)) := by
  have w := h.ci.wf.w3 k
  have u := QU.rf h
  unfold qm q_Y1_addWords_34a b_Y1_addWords_34a
  rw [Option.getD_some, w.2.1.1, Option.getD_some]
  obtain ⟨p, v, S3, f, g⟩ := y_append h w.1.1 (u.mc k c 1 (by omega)) (u.mc k c 2 (by omega)) c'
  rw [f]
  obtain ⟨p2, v2, S4, f2, g2⟩ := aw_43 g.1 (k.e g.2.2) c a b c' d
  exact ⟨⟨ir_so.mpr k, ir_so.mpr w.1.1, p, p2⟩, v2, S4, f2, g.tr g2⟩
theorem aw_25 (h : Sst E x S T F col S1 T1 F1 c1) {q : Nat} (k : iK S1 q 3) (c : c1 q = x) (a b c' d : Int32) : qm E x S T F col T1 F1 c1 S1 (q_Y1_addWords_25a S1 x a b c' d (some q)) (b_Y1_addWords_25a S1 x a b c' d (some q)) := by
  have w := h.ci.wf.w3 k
  have u := QU.rf h
  unfold qm q_Y1_addWords_25a b_Y1_addWords_25a
  rw [Option.getD_some, w.2.1.1, Option.getD_some]
  obtain ⟨p, v, S3, f, g⟩ := y_append h w.1.1 (u.mc k c 1 (by omega)) (u.mc k c 2 (by omega)) b
  rw [f]
  obtain ⟨p2, v2, S4, f2, g2⟩ := aw_34 g.1 (k.e g.2.2) c a b c' d
  exact ⟨⟨ir_so.mpr k, ir_so.mpr w.1.1, p, p2⟩, v2, S4, f2, g.tr g2⟩
theorem y_addWords (h : Sst E x S T F col S1 T1 F1 c1) (hr : mC S1 c1 x (f_Y6_motion S1 (x + 3))) (a b c' d : Int32) : qm E x S T F col T1 F1 c1 S1 (p_Y1_addWords S1 x a b c' d) (f_Y1_addWords S1 x a b c' d) := by
  have u := QU.rf h
  have w0 := u.w0
  have pm := y_motion h.ci.wf w0.1.2.2.1
  unfold qm p_Y1_addWords f_Y1_addWords
  rw [w0.2.1.2.2.1]
  simp only [Option.getD_some, ir_so]
  generalize f_Y6_motion S1 (x + 3) = r at hr ⊢
  rcases hr with rfl | ⟨q, rfl, k, c⟩
  · simp only [if_true]
    exact ⟨⟨w0.1.2.2.1, pm, trivial⟩, _, _, rfl, u⟩
  · have w := h.ci.wf.w3 k
    simp only [reduceCtorEq, if_false, Option.getD_some, ir_so]
    rw [w.2.1.1, Option.getD_some]
    obtain ⟨p, v, S3, f, g⟩ := y_append h w.1.1 (u.mc k c 1 (by omega)) (u.mc k c 2 (by omega)) a
    rw [f]
    obtain ⟨p2, v2, S4, f2, g2⟩ := aw_25 g.1 (k.e g.2.2) c a b c' d
    exact ⟨⟨w0.1.2.2.1, pm, k, ir_so.mpr w.1.1, p, p2⟩, v2, S4, f2, g.tr g2⟩
/-- words in place of a span -/
theorem y_replace (h : Sst E x S T F col S1 T1 F1 c1) {t z : Nat} (k : iK S1 t 6) (c : c1 t = x) (c' : c1 (t + 1) = x) (kz : iK S1 z 6) (a b : Int32) : qm E x S T F col T1 F1 c1 S1 (p_Y9_replace S1 t z a b) (f_Y9_replace S1 t z a b) := by
  have u := QU.rf h
  have w := h.ci.wf.w6 k
  have wz := h.ci.wf.w6 kz
  have w2 := w.2.2
  have wz2 := wz.2.2
  unfold rg at w2 wz2
  have h4 : (Int32.ofNat 400).toInt = 400 := by decide
  have es : f_Y9_sizeWith S1 t a b (giC S1 z 1) = giC S1 t 1 - (b - a) + giC S1 z 1 := rfl
  unfold qm p_Y9_replace f_Y9_replace q_Y9_replace_39 b_Y9_replace_39 q_Y9_replace_81a b_Y9_replace_81a
  rw [es]
  by_cases c1' : a < 0
  · simp only [if_pos c1']
    exact ⟨⟨y_sizeWith .., trivial⟩, _, _, rfl, u⟩
  · simp only [if_neg c1']
    by_cases c2' : b < a
    · simp only [if_pos c2']
      exact ⟨⟨y_sizeWith .., trivial⟩, _, _, rfl, u⟩
    · simp only [if_neg c2']
      by_cases c3' : giC S1 t 1 < b
      · simp only [if_pos c3']
        exact ⟨⟨y_sizeWith .., trivial⟩, _, _, rfl, u⟩
      · simp only [if_neg c3']
        rw [w.2.1, Option.getD_some, w.1.2]
        have d1 := mt iLt.mpr c1'
        have d2 := mt iLt.mpr c2'
        have d3 := mt iLt.mpr c3'
        rw [i0] at d1
        have e1 := iSub (x := b) (y := a) (by omega) (by omega)
        have e2 := iSub (x := giC S1 t 1) (y := b - a) (by omega) (by omega)
        have e3 := iAdd (x := giC S1 t 1 - (b - a)) (y := giC S1 z 1) (by omega) (by omega)
        have e4 := iAdd (x := a) (y := giC S1 z 1) (by omega) (by omega)
        have e5 := iSub (x := giC S1 t 1) (y := b) (by omega) (by omega)
        by_cases c4' : giC S1 t 1 - (b - a) + giC S1 z 1 ≤ Int32.ofNat 400
        · simp only [if_pos c4']
          have d4 := iLe.mp c4'
          rw [h4] at d4
          have n1 := iNat (x := b) (by omega)
          have n2 := iNat (x := a + giC S1 z 1) (by omega)
          have n3 := iNat (x := giC S1 t 1 - b) (by omega)
          have n4 := iNat (x := a) (by omega)
          have n5 := iNat (x := giC S1 z 1) (by omega)
          have u2 := u.sf (a := t + 1) (f := va_cpy (giC S1 (t + 1)) (giC S1 (t + 1)) b.toNatClampNeg (a + giC S1 z 1).toNatClampNeg (giC S1 t 1 - b).toNatClampNeg) c' (Or.inl w.1.1.2)
          generalize hS : sfC S1 (t + 1) (va_cpy (giC S1 (t + 1)) (giC S1 (t + 1)) b.toNatClampNeg (a + giC S1 z 1).toNatClampNeg (giC S1 t 1 - b).toNatClampNeg) = S2 at u2 ⊢
          have k2 := k.e u2.2.2
          have kz2 := kz.e u2.2.2
          have v := u2.1.ci.wf.w6 k2
          have vz := u2.1.ci.wf.w6 kz2
          have ez : giC S2 z 1 = giC S1 z 1 := by
            rw [← hS, gi_sf, if_neg (fun y => by have := kz.2; rw [y, w.1.1.2] at this; omega)]
          rw [v.2.1, vz.2.1, Option.getD_some, Option.getD_some, v.1.2, vz.1.2, ez]
          have z0 : (0 : Int32).toNatClampNeg = 0 := rfl
          have u3 := u2.sf (a := t + 1) (f := va_cpy (giC S2 (z + 1)) (giC S2 (t + 1)) (0 : Int32).toNatClampNeg a.toNatClampNeg (giC S1 z 1).toNatClampNeg) c' (Or.inl v.1.1.2)
          refine ⟨⟨y_sizeWith .., ir_so.mpr w.1.1, ir_so.mpr w.1.1, ir_so.mpr w.1.1, ⟨⟨fun y => ?_, fun y => ?_, fun y => ?_⟩, by omega, by omega⟩, ir_so.mpr vz.1.1, ir_so.mpr v.1.1, ⟨⟨by decide, c1', fun y => ?_⟩, by omega, by omega⟩, trivial⟩, _, _, rfl, u3.tI (ik_sf.mpr k2) c _ ⟨by omega, by omega⟩⟩
          · have y := iLt.mp y
            rw [i0] at y
            omega
          · have y := iLt.mp y
            rw [i0] at y
            omega
          · have y := iLt.mp y
            rw [i0] at y
            omega
          · have y := iLt.mp y
            rw [i0] at y
            omega
        · simp only [if_neg c4']
          exact ⟨⟨y_sizeWith .., ir_so.mpr w.1.1, trivial⟩, _, _, rfl, u⟩
end
