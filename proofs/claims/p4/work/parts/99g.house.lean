/-! ===== quiet updates: the house, motions' numbers, texts, votes ===== -/
theorem fb8 (b : Int32) : fits .byte (.int b.toInt8.toInt32) = true := by
  have h1 := b.toInt8.le_toInt
  have h2 := b.toInt8.toInt_le
  simp only [fits, Bool.and_eq_true, decide_eq_true_eq, Int32.le_iff_toInt_le, Int8.toInt_toInt32]
  exact ⟨h1, h2⟩
theorem has_in {S : Cst} {q : Nat} {s : Int32} (n : ¬ f_Y2_has S q s = 0) : vp_in s (lnC S ((grC S q 1).getD 0)) := by
  unfold f_Y2_has b_Y2_has_25 b_Y2_has_26 at n
  repeat' split at n
  · exact absurd rfl n
  · exact absurd rfl n
  · exact absurd rfl n
  · exact ix_ge (by assumption) (by assumption)
theorem there_in {S : Cst} {q : Nat} {s : Int32} (n : ¬ f_Y2_isThere S q s = 0) : vp_in s (lnC S ((grC S q 1).getD 0)) := by
  unfold f_Y2_isThere b_Y2_isThere_34 b_Y2_isThere_35 at n
  repeat' split at n
  · exact absurd rfl n
  · exact absurd rfl n
  · exact absurd rfl n
  · exact absurd rfl n
  · exact ix_ge (by assumption) (by assumption)
theorem ok_n {c k : Nat} {v : Int32} (h : c = 20 ∨ c = 21 ∨ c = 0 ∨ c = 5) : okI c k v := ⟨fun z => by omega, fun z => by omega, fun z => by omega, fun z => by omega, fun z => by omega, fun z => by omega⟩
section
variable {E E0 : Nat → Prop} {x : Nat} {S S1 S2 S3 : Cst} {T T1 : Nat → List Nat} {F F1 : List Nat} {col c1 : Nat → Nat}
/-- a quiet update: nothing made, no motion moved, no place's sort and no motion's kind changed -/
def QU (E : Nat → Prop) (x : Nat) (S : Cst) (T : Nat → List Nat) (F : List Nat) (col : Nat → Nat) (T1 : Nat → List Nat) (F1 : List Nat) (c1 : Nat → Nat) (S1 S2 : Cst) : Prop := Sst E x S T F col S2 T1 F1 c1 ∧ gP S1 S2 ∧ eK S1 S2
theorem QU.rf (h : Sst E x S T F col S1 T1 F1 c1) : QU E x S T F col T1 F1 c1 S1 S1 := ⟨h, gP.rf S1, eK.rf S1⟩
theorem QU.tr (u : QU E x S T F col T1 F1 c1 S1 S2) (v : QU E x S T F col T1 F1 c1 S2 S3) : QU E x S T F col T1 F1 c1 S1 S3 := ⟨v.1, u.2.1.tr v.2.1, u.2.2.tr v.2.2⟩
theorem QU.si (u : QU E x S T F col T1 F1 c1 S1 S2) {a b : Nat} {v : Int32} (hc : c1 a = x) (n4 : kdC S2 a ≠ 4) (ok : okI (kdC S2 a) b v) (h5 : kdC S2 a = 5 → b ≠ 0) (h3 : kdC S2 a = 3 → b ≠ 2) : QU E x S T F col T1 F1 c1 S1 (siC S2 a b v) := ⟨u.1.si hc n4 ok, u.2.1.tr (gP.si h5 h3), u.2.2.tr (eK.si ..)⟩
theorem QU.sf (u : QU E x S T F col T1 F1 c1 S1 S2) {a : Nat} {f : Nat → Int32} (hc : c1 a = x) (ok : kdC S2 a = 20 ∨ kdC S2 a = 21 ∨ (kdC S2 a = 22 ∧ ∀ i, fits .byte (.int (f i)) = true)) : QU E x S T F col T1 F1 c1 S1 (sfC S2 a f) := ⟨u.1.sf hc ok, u.2.1.tr (gP.sf ⟨by omega, by omega⟩), u.2.2.tr (eK.sf ..)⟩
theorem QU.w0 (u : QU E x S T F col T1 F1 c1 S1 S2) : W0 S2 x := u.1.ci.wf.w0 u.1.k1
theorem QU.w1 (u : QU E x S T F col T1 F1 c1 S1 S2) : W1 S2 (x + 37) := u.1.ci.wf.w1 u.w0.1.1
theorem QU.hI (u : QU E x S T F col T1 F1 c1 S1 S2) (b : Nat) (v : Int32) (hv : b = 0 → rg v 0 200) : QU E x S T F col T1 F1 c1 S1 (siC S2 (x + 37) b v) := by
  have k := u.w0.1.1.2
  exact u.si (u.1.cx 37 (by omega)) (by rw [k]; decide) ⟨fun _ => hv, fun z => by omega, fun z => by omega, fun z => by omega, fun z => by omega, fun z => by omega⟩ (fun z => by omega) (fun z => by omega)
theorem QU.hT (u : QU E x S T F col T1 F1 c1 S1 S2) (b : Nat) (v : Int32) : QU E x S T F col T1 F1 c1 S1 (siC S2 (x + 37 + 1) b v) := by
  have k := u.w1.1.1.2
  exact u.si (u.1.cx 38 (by omega)) (by rw [k]; decide) (ok_n (by omega)) (fun z => by omega) (fun z => by omega)
theorem QU.hM (u : QU E x S T F col T1 F1 c1 S1 S2) (b : Nat) (v : Int32) : QU E x S T F col T1 F1 c1 S1 (siC S2 (x + 37 + 2) b v) := by
  have k := u.w1.1.2.2.1.2
  exact u.si (u.1.cx 39 (by omega)) (by rw [k]; decide) (ok_n (by omega)) (fun z => by omega) (fun z => by omega)
/-- a method's step, quiet -/
def qm (E : Nat → Prop) (x : Nat) (S : Cst) (T : Nat → List Nat) (F : List Nat) (col : Nat → Nat) (T1 : Nat → List Nat) (F1 : List Nat) (c1 : Nat → Nat) (S1 : Cst) (p : Prop) (f : Int32 × Cst) : Prop := p ∧ ∃ v S2, f = (v, S2) ∧ QU E x S T F col T1 F1 c1 S1 S2
theorem y_silence (h : Sst E x S T F col S1 T1 F1 c1) (s : Int32) : qm E x S T F col T1 F1 c1 S1 (p_Y2_silence S1 (x + 37) s) (f_Y2_silence S1 (x + 37) s) := by
  have u := QU.rf h
  unfold qm p_Y2_silence f_Y2_silence q_Y2_silence_13 b_Y2_silence_13
  by_cases c : f_Y2_hasFloor S1 (x + 37) s = 0
  · simp only [if_pos c]
    exact ⟨⟨y_hasFloor _ _ _, trivial⟩, _, _, rfl, u⟩
  · simp only [if_neg c]
    exact ⟨⟨y_hasFloor _ _ _, trivial⟩, _, _, rfl, u.hI 6 _ (by omega)⟩
theorem y_arrive (h : Sst E x S T F col S1 T1 F1 c1) (s : Int32) : qm E x S T F col T1 F1 c1 S1 (p_Y2_arrive S1 (x + 37) s) (f_Y2_arrive S1 (x + 37) s) := by
  have u := QU.rf h
  have w1 := u.w1
  unfold qm p_Y2_arrive f_Y2_arrive q_Y2_arrive_34 b_Y2_arrive_34
  by_cases c : f_Y2_has S1 (x + 37) s = 0
  · simp only [if_pos c]
    exact ⟨⟨y_has u.1.ci.wf u.w0.1.1 _, trivial⟩, _, _, rfl, u⟩
  · have v := has_in c
    simp only [if_neg c]
    rw [w1.2.1.1, Option.getD_some] at v ⊢
    by_cases d : giC S1 (x + 37 + 1) s.toNatClampNeg = 0
    · simp only [if_pos d]
      exact ⟨⟨y_has u.1.ci.wf u.w0.1.1 _, ir_so.mpr w1.1.1, v, ir_so.mpr w1.1.1, v, trivial⟩, _, _, rfl, (u.hT _ _).hI 2 _ (by omega)⟩
    · simp only [if_neg d]
      exact ⟨⟨y_has u.1.ci.wf u.w0.1.1 _, ir_so.mpr w1.1.1, v, trivial⟩, _, _, rfl, u⟩
theorem y_leave (h : Sst E x S T F col S1 T1 F1 c1) (s : Int32) : qm E x S T F col T1 F1 c1 S1 (p_Y2_leave S1 (x + 37) s) (f_Y2_leave S1 (x + 37) s) := by
  have u := QU.rf h
  have w1 := u.w1
  unfold qm p_Y2_leave f_Y2_leave q_Y2_leave_25 b_Y2_leave_25 q_Y2_leave_30a b_Y2_leave_30a
  by_cases c : f_Y2_isThere S1 (x + 37) s = 0
  · simp only [if_pos c]
    obtain ⟨p, v, S3, f, g⟩ := y_silence h s
    exact ⟨⟨y_isThere u.1.ci.wf u.w0.1.1 _, p, trivial⟩, _, _, rfl, by rw [f]; exact g⟩
  · have v := there_in c
    simp only [if_neg c]
    rw [w1.2.1.1, Option.getD_some] at v ⊢
    have u2 := (u.hT s.toNatClampNeg (vp_nar .boolean 0)).hI 2 (giC (siC S1 (x + 37 + 1) s.toNatClampNeg (vp_nar .boolean 0)) (x + 37) 2 - 1) (by omega)
    obtain ⟨p, v', S3, f, g⟩ := y_silence u2.1 s
    exact ⟨⟨y_isThere u.1.ci.wf u.w0.1.1 _, ir_so.mpr w1.1.1, v, p, trivial⟩, _, _, rfl, by rw [f]; exact u2.tr g⟩
theorem y_takeChair (h : Sst E x S T F col S1 T1 F1 c1) (s : Int32) : qm E x S T F col T1 F1 c1 S1 (p_Y2_takeChair S1 (x + 37) s) (f_Y2_takeChair S1 (x + 37) s) := by
  have u := QU.rf h
  unfold qm p_Y2_takeChair f_Y2_takeChair q_Y2_takeChair_10a b_Y2_takeChair_10a
  have u2 := u.hI 3 s (by omega)
  obtain ⟨p, v', S3, f, g⟩ := y_silence u2.1 s
  exact ⟨⟨p, trivial⟩, _, _, rfl, by rw [f]; exact u2.tr g⟩
theorem y_majority (h : Sst E x S T F col S1 T1 F1 c1) (a b : Int32) : qm E x S T F col T1 F1 c1 S1 (p_Y2_replaceMajority S1 (x + 37) a b) (f_Y2_replaceMajority S1 (x + 37) a b) := by
  have u := QU.rf h
  have w1 := u.w1
  unfold qm p_Y2_replaceMajority f_Y2_replaceMajority q_Y2_replaceMajority_14 b_Y2_replaceMajority_14
  rw [w1.2.1.2, Option.getD_some]
  by_cases c : a < 1
  · simp only [if_pos c]
    exact ⟨trivial, _, _, rfl, u⟩
  · simp only [if_neg c]
    by_cases d : a < Int32.ofNat (lnC S1 (x + 37 + 2))
    · simp only [if_pos d]
      have v := ix_l1 c d
      exact ⟨⟨ir_so.mpr w1.1.2.2.1, ir_so.mpr w1.1.2.2.1, v, ir_so.mpr w1.1.2.2.1, v, trivial⟩, _, _, rfl, u.hM _ _⟩
    · simp only [if_neg d]
      exact ⟨⟨ir_so.mpr w1.1.2.2.1, trivial⟩, _, _, rfl, u⟩
theorem e200 : (Int32.ofNat 200).toInt = 200 := by decide
theorem hempty_lp : ∀ (n : Nat) (S2 : Cst) (b : Int32), QU E x S T F col T1 F1 c1 S1 S2 → 0 ≤ b.toInt → b.toInt ≤ 200 → 200 - b.toInt < n → qm E x S T F col T1 F1 c1 S1 (lq_Y2_empty_2 (x + 37) n S2 b) (lp_Y2_empty_2 (x + 37) n S2 b) := by
  intro n
  induction n with
  | zero => intro S2 b u h1 h2 h3; omega
  | succ n ih =>
    intro S2 b u h1 h2 h3
    have w1 := u.w1
    unfold qm
    rw [lq_Y2_empty_2, lp_Y2_empty_2]
    unfold ps_Y2_empty_2 st_Y2_empty_2
    rw [w1.2.1.1, Option.getD_some, w1.1.2.1]
    by_cases c : Int32.ofNat 200 ≤ b
    · rw [if_pos c, if_pos c]
      exact ⟨⟨⟨ir_so.mpr w1.1.1, trivial⟩, trivial⟩, _, _, rfl, (u.hI 2 0 (by omega)).hI 6 (-1) (by omega)⟩
    · rw [if_neg c, if_neg c]
      have c := mt iLe.mpr c
      rw [e200] at c
      have e := iAdd (x := b) (y := 1) (by rw [i1]; omega) (by rw [i1]; omega)
      rw [i1] at e
      obtain ⟨r1, r2⟩ := ih _ (b + 1) (u.hT b.toNatClampNeg (vp_nar .boolean 0)) (by omega) (by omega) (by omega)
      exact ⟨⟨⟨ir_so.mpr w1.1.1, ir_so.mpr w1.1.1, vIn h1 (by omega), trivial⟩, r1⟩, r2⟩
theorem y_hempty (h : Sst E x S T F col S1 T1 F1 c1) : qm E x S T F col T1 F1 c1 S1 (p_Y2_empty S1 (x + 37)) (f_Y2_empty S1 (x + 37)) := hempty_lp 100000 S1 0 (QU.rf h) (by rw [i0]; omega) (by rw [i0]; omega) (by rw [i0]; omega)
theorem hfill_lp (v : Int32) : ∀ (n : Nat) (S2 : Cst) (b : Int32), QU E x S T F col T1 F1 c1 S1 S2 → 0 ≤ b.toInt → b.toInt ≤ 9 → 9 - b.toInt < n → qm E x S T F col T1 F1 c1 S1 (lq_K7_fill_53178_5 (x + 37 + 2) n S2 v b (Int32.ofNat 9)) (lp_K7_fill_53178_5 (x + 37 + 2) n S2 v b (Int32.ofNat 9)) := by
  have h9 : (Int32.ofNat 9).toInt = 9 := by decide
  intro n
  induction n with
  | zero => intro S2 b u h1 h2 h3; omega
  | succ n ih =>
    intro S2 b u h1 h2 h3
    have w1 := u.w1
    unfold qm
    rw [lq_K7_fill_53178_5, lp_K7_fill_53178_5]
    unfold ps_K7_fill_53178_5 st_K7_fill_53178_5
    by_cases c : Int32.ofNat 9 ≤ b
    · rw [if_pos c, if_pos c]
      exact ⟨⟨trivial, trivial⟩, _, _, rfl, u⟩
    · rw [if_neg c, if_neg c]
      have c := mt iLe.mpr c
      rw [h9] at c
      have e := iAdd (x := b) (y := 1) (by rw [i1]; omega) (by rw [i1]; omega)
      rw [i1] at e
      obtain ⟨r1, r2⟩ := ih _ (b + 1) (u.hM b.toNatClampNeg v) (by omega) (by omega) (by omega)
      refine ⟨⟨⟨?_, trivial⟩, r1⟩, r2⟩
      rw [w1.1.2.2.2]
      exact vIn h1 (by omega)
theorem y_hbegin (h : Sst E x S T F col S1 T1 F1 c1) {n : Int32} (hn : rg n 0 200) : qm E x S T F col T1 F1 c1 S1 (p_Y2_begin S1 (x + 37) n) (f_Y2_begin S1 (x + 37) n) := by
  have u := QU.rf h
  have u1 := (((u.hI 0 n (fun _ => hn)).hI 4 0 (by omega)).hI 5 0 (by omega)).hI 3 (-1) (by omega)
  unfold qm p_Y2_begin f_Y2_begin
  obtain ⟨p1, v, S3, f1, u2'⟩ := y_hempty u1.1
  have u2 := u1.tr u2'
  rw [f1]
  have w1 := u2.w1
  unfold q_Y2_begin_24a b_Y2_begin_24a
  rw [w1.2.1.2, Option.getD_some]
  obtain ⟨q1, v4, S4, g1, u3⟩ := hfill_lp 1 100000 S3 0 u2 (by rw [i0]; omega) (by rw [i0]; omega) (by rw [i0]; omega)
  unfold p_K7_fill_53178 f_K7_fill_53178
  rw [w1.1.2.2.2, g1]
  have w3 := u3.w1
  unfold q_Y2_begin_32a b_Y2_begin_32a
  rw [w3.2.1.2, Option.getD_some]
  refine ⟨⟨p1, ir_so.mpr w1.1.2.2.1, q1, ir_so.mpr w3.1.2.2.1, ?_, trivial⟩, _, _, rfl, u3.hM _ _⟩
  rw [w3.1.2.2.2]
  exact vIn (by decide) (by decide)
theorem hbecome_lp {y : Nat} (ky : iK S1 y 0) : ∀ (n : Nat) (S2 : Cst) (b : Int32), QU E x S T F col T1 F1 c1 S1 S2 → 0 ≤ b.toInt → b.toInt ≤ 200 → 200 - b.toInt < n → qm E x S T F col T1 F1 c1 S1 (lq_Y2_become_10 (x + 37) (y + 37) n S2 b) (lp_Y2_become_10 (x + 37) (y + 37) n S2 b) := by
  intro n
  induction n with
  | zero => intro S2 b u h1 h2 h3; omega
  | succ n ih =>
    intro S2 b u h1 h2 h3
    have w1 := u.w1
    have ky2 := ky.e u.2.2
    have y1 := u.1.ci.wf.w1 (u.1.ci.wf.w0 ky2).1.1
    unfold qm
    rw [lq_Y2_become_10, lp_Y2_become_10]
    unfold ps_Y2_become_10 st_Y2_become_10
    rw [w1.2.1.1, y1.2.1.1, Option.getD_some, Option.getD_some, w1.1.2.1, y1.1.2.1]
    by_cases c : Int32.ofNat 200 ≤ b
    · rw [if_pos c, if_pos c]
      have B := fun (a2 a3 a4 a5 a6 : Int32) => (((((u.hI 2 a2 (by omega)).hI 3 a3 (by omega)).hI 4 a4 (by omega)).hI 5 a5 (by omega)).hI 6 a6 (by omega))
      unfold b_Y2_become_69a q_Y2_become_69a b_Y2_become_95a q_Y2_become_95a
      dsimp only
      generalize giC S2 (y + 37) 2 = a2
      generalize giC (siC S2 (x + 37) 2 a2) (y + 37) 3 = a3
      generalize giC (siC (siC S2 (x + 37) 2 a2) (x + 37) 3 a3) (y + 37) 4 = a4
      generalize giC (siC (siC (siC S2 (x + 37) 2 a2) (x + 37) 3 a3) (x + 37) 4 a4) (y + 37) 5 = a5
      generalize giC (siC (siC (siC (siC S2 (x + 37) 2 a2) (x + 37) 3 a3) (x + 37) 4 a4) (x + 37) 5 a5) (y + 37) 6 = a6
      have u6 := B a2 a3 a4 a5 a6
      generalize siC (siC (siC (siC (siC S2 (x + 37) 2 a2) (x + 37) 3 a3) (x + 37) 4 a4) (x + 37) 5 a5) (x + 37) 6 a6 = S6 at u6 ⊢
      have w6 := u6.w1
      have y6 := u6.1.ci.wf.w1 (u6.1.ci.wf.w0 (ky.e u6.2.2)).1.1
      rw [w6.2.1.2, y6.2.1.2, Option.getD_some, Option.getD_some, w6.1.2.2.2, y6.1.2.2.2]
      have u7 := u6.sf (a := x + 37 + 2) (f := va_cpy (giC S6 (y + 37 + 2)) (giC S6 (x + 37 + 2)) (0 : Int32).toNatClampNeg (0 : Int32).toNatClampNeg (Int32.ofNat 9).toNatClampNeg) (u6.1.cx 39 (by omega)) (Or.inl w6.1.2.2.1.2)
      exact ⟨⟨⟨ir_so.mpr w1.1.1, ir_so.mpr w6.1.2.2.1, ir_so.mpr y6.1.2.2.1, ir_so.mpr w6.1.2.2.1, ⟨⟨by decide, by decide, by decide⟩, by decide, by decide⟩, trivial⟩, trivial⟩, _, _, rfl, u7⟩
    · rw [if_neg c, if_neg c]
      have c := mt iLe.mpr c
      rw [e200] at c
      have e := iAdd (x := b) (y := 1) (by rw [i1]; omega) (by rw [i1]; omega)
      rw [i1] at e
      obtain ⟨r1, r2⟩ := ih _ (b + 1) (u.hT b.toNatClampNeg (vp_nar .boolean (giC S2 (y + 37 + 1) b.toNatClampNeg))) (by omega) (by omega) (by omega)
      exact ⟨⟨⟨ir_so.mpr w1.1.1, ir_so.mpr y1.1.1, vIn h1 (by omega), ir_so.mpr w1.1.1, vIn h1 (by omega), trivial⟩, r1⟩, r2⟩
theorem y_hbecome (h : Sst E x S T F col S1 T1 F1 c1) {y : Nat} (ky : iK S1 y 0) : qm E x S T F col T1 F1 c1 S1 (p_Y2_become S1 (x + 37) (y + 37)) (f_Y2_become S1 (x + 37) (y + 37)) := by
  have u := QU.rf h
  have y1 := h.ci.wf.w1 (h.ci.wf.w0 ky).1.1
  exact hbecome_lp ky 100000 _ 0 (u.hI 0 (giC S1 (y + 37) 0) (fun _ => y1.2.2)) (by rw [i0]; omega) (by rw [i0]; omega) (by rw [i0]; omega)
/-- a motion's numbers, its text's, its votes -/
theorem QU.mI (u : QU E x S T F col T1 F1 c1 S1 S2) {q : Nat} (k : iK S2 q 3) (c : c1 q = x) (b : Nat) (v : Int32) (hb : b ≠ 2) (ok : b = 7 ∨ b = 10 ∨ b = 11 → bZ v) : QU E x S T F col T1 F1 c1 S1 (siC S2 q b v) := by
  have e := k.2
  exact u.si c (by rw [e]; decide) ⟨fun z => by omega, fun z => by omega, fun _ => ok, fun z => by omega, fun z => by omega, fun z => by omega⟩ (fun z => by omega) (fun _ => hb)
theorem QU.mc (u : QU E x S T F col T1 F1 c1 S1 S2) {q : Nat} (k : iK S2 q 3) (c : c1 q = x) (j : Nat) (hj : j < 4) : c1 (q + j) = x := by rw [u.1.ci.c3 q k j hj]; exact c
theorem QU.tI (u : QU E x S T F col T1 F1 c1 S1 S2) {t : Nat} (k : iK S2 t 6) (c : c1 t = x) (v : Int32) (hv : rg v 0 400) : QU E x S T F col T1 F1 c1 S1 (siC S2 t 1 v) := by
  have e := k.2
  exact u.si c (by rw [e]; decide) ⟨fun z => by omega, fun z => by omega, fun z => by omega, fun z => by omega, fun _ _ => hv, fun z => by omega⟩ (fun z => by omega) (fun z => by omega)
theorem QU.tW (u : QU E x S T F col T1 F1 c1 S1 S2) {t : Nat} (k : iK S2 t 6) (c : c1 (t + 1) = x) (i : Nat) (v : Int32) : QU E x S T F col T1 F1 c1 S1 (siC S2 (t + 1) i v) := by
  have e := (u.1.ci.wf.w6 k).1.1.2
  exact u.si c (by rw [e]; decide) (ok_n (by omega)) (fun z => by omega) (fun z => by omega)
theorem y_append (h : Sst E x S T F col S1 T1 F1 c1) {t : Nat} (k : iK S1 t 6) (c : c1 t = x) (c' : c1 (t + 1) = x) (v : Int32) : qm E x S T F col T1 F1 c1 S1 (p_Y9_append S1 t v) (f_Y9_append S1 t v) := by
  have u := QU.rf h
  have w := u.1.ci.wf.w6 k
  have w2 := w.2.2
  unfold rg at w2
  have h4 : (Int32.ofNat 400).toInt = 400 := by decide
  unfold qm p_Y9_append f_Y9_append q_Y9_append_36 b_Y9_append_36
  rw [w.2.1, Option.getD_some, w.1.2]
  by_cases d : v = 0
  · simp only [if_pos d]
    exact ⟨trivial, _, _, rfl, u⟩
  · simp only [if_neg d]
    by_cases e : Int32.ofNat 400 ≤ giC S1 t 1
    · simp only [if_pos e]
      exact ⟨⟨ir_so.mpr w.1.1, trivial⟩, _, _, rfl, u⟩
    · simp only [if_neg e]
      have e := mt iLe.mpr e
      rw [h4] at e
      have nt : t ≠ t + 1 := by omega
      have e1 := iAdd (x := giC S1 t 1) (y := 1) (by rw [i1]; omega) (by rw [i1]; omega)
      rw [i1] at e1
      have u2 := u.tW k c' (giC S1 t 1).toNatClampNeg v
      refine ⟨⟨ir_so.mpr w.1.1, ir_so.mpr w.1.1, vIn (by omega) (by omega), trivial⟩, _, _, rfl, u2.tI (ik_si.mpr k) c _ ?_⟩
      rw [gi_si, if_neg (fun z => nt z.1)]
      exact ⟨by omega, by omega⟩
theorem y_castVote (h : Sst E x S T F col S1 T1 F1 c1) {q : Nat} (k : iK S1 q 3) (c : c1 q = x) (s how : Int32) : qm E x S T F col T1 F1 c1 S1 (p_Y4_castVote S1 q s how) (f_Y4_castVote S1 q s how) := by
  have u := QU.rf h
  have w := u.1.ci.wf.w3 k
  have hc := u.mc k c 3 (by omega)
  unfold qm p_Y4_castVote f_Y4_castVote q_Y4_castVote_72 b_Y4_castVote_72 q_Y4_castVote_27 b_Y4_castVote_27 q_Y4_castVote_38 b_Y4_castVote_38 q_Y4_castVote_57 b_Y4_castVote_57 q_Y4_castVote_72 b_Y4_castVote_72
  rw [w.2.1.2]
  simp only [Option.getD_some, ir_so]
  have U : ∀ (z y y' : Int32), QU E x S T F col T1 F1 c1 S1 (siC (siC S1 (q + 3) s.toNatClampNeg (vp_nar .byte z.toInt8.toInt32)) q 14 (giC (siC S1 (q + 3) s.toNatClampNeg (vp_nar .byte z.toInt8.toInt32)) q 14 + (y - y'))) := fun z y y' => by
    have e := w.1.2.1.2
    have u2 := u.si (a := q + 3) (b := s.toNatClampNeg) (v := vp_nar .byte z.toInt8.toInt32) hc (by rw [e]; decide) ⟨fun z => by omega, fun z => by omega, fun z => by omega, fun z => by omega, fun z => by omega, fun _ => fb8 _⟩ (fun z => by omega) (fun z => by omega)
    exact u2.mI (ik_si.mpr k) c 14 _ (by omega) (by omega)
  by_cases d : s < 0
  · simp only [if_pos d]
    exact ⟨trivial, _, _, rfl, u⟩
  · simp only [if_neg d]
    by_cases e : Int32.ofNat (lnC S1 (q + 3)) ≤ s
    · simp only [if_pos e]
      exact ⟨⟨w.1.2.1, trivial⟩, _, _, rfl, u⟩
    · simp only [if_neg e]
      have v := ix_ge d e
      refine ⟨⟨w.1.2.1, w.1.2.1, v, ?_⟩, ?_⟩
      · repeat' split
        all_goals exact ⟨w.1.2.1, v, trivial⟩
      · repeat' split
        all_goals exact ⟨_, _, rfl, U _ _ _⟩
theorem y_follow (h : Sst E x S T F col S1 T1 F1 c1) {q : Nat} (k : iK S1 q 3) (c : c1 q = x) (a b m : Int32) : qm E x S T F col T1 F1 c1 S1 (p_Y4_follow S1 q a b m) (f_Y4_follow S1 q a b m) := by
  have u := QU.rf h
  unfold qm p_Y4_follow f_Y4_follow q_Y4_follow_53 b_Y4_follow_53
  refine ⟨?_, ?_⟩
  · repeat' split
    all_goals trivial
  · repeat' split
    · exact ⟨_, _, rfl, u.mI k c 11 _ (by omega) (fun _ => bz1)⟩
    · exact ⟨_, _, rfl, (u.mI k c 8 _ (by omega) (by omega)).mI (ik_si.mpr k) c 9 _ (by omega) (by omega)⟩
    · exact ⟨_, _, rfl, u⟩
end
