/-! ===== seats, order, before, again, check, tell, strike, image, back ===== -/
section
variable {m a b l x : Nat} {r2 r3 : Option Nat} {A A' : List Nat} {S S1 S2 S3 : Cst} {T T1 T2 : Nat → List Nat} {col c1 c2 : Nat → Nat}
theorem bm.tA {p : Prop} {f : Int32 × Cst} (h : bm x S T col c1 S1 p f) : am x S T col S1 (fun _ _ => p) f := by
  obtain ⟨hp, v, S3, T3, e, as, en⟩ := h
  exact ⟨v, S3, T3, c1, e, fun _ _ _ _ => hp, as, en⟩
theorem e2' : (200 : Int32).toInt = 200 := by decide
theorem k_seats (h : KI S m) (n : Int32) : kR S m (fun _ _ => p_Y10_seats S m n) (f_Y10_seats S m n) := by
  obtain ⟨a, b, r2, r3, l, T, col, h⟩ := h
  unfold p_Y10_seats f_Y10_seats q_Y10_seats_12 b_Y10_seats_12 q_Y10_seats_23a b_Y10_seats_23a
  rw [h.g0]
  simp only [Option.getD_some, ir_so]
  by_cases c1 : n < 1
  · simp only [if_pos c1]
    exact ⟨_, S, rfl, fun _ _ _ _ => trivial, KJ.i h, eM.rf m S⟩
  · simp only [if_neg c1]
    by_cases c2 : n ≤ 200
    · simp only [if_pos c2]
      have c1 := mt iLt.mpr c1
      have c2 := iLe.mp c2
      rw [i1] at c1
      rw [e2'] at c2
      obtain ⟨v, S2, e, p, k, g⟩ := KJ.kr h (KJ.ma h) (y_abegin (h.as (KJ.ma h)).1 (n := n) ⟨by omega, by omega⟩).tA
      rw [e]
      exact ⟨n, S2, rfl, fun lc ls A B => ⟨KJ.ka h, p lc ls A B, trivial⟩, k, g⟩
    · simp only [if_neg c2]
      exact ⟨_, S, rfl, fun _ _ _ _ => trivial, KJ.i h, eM.rf m S⟩
theorem k_order (h : KI S m) (s : Int32) : kR S m (fun _ _ => p_Y10_order S m s) (f_Y10_order S m s) := by
  obtain ⟨a, b, r2, r3, l, T, col, h⟩ := h
  have pg := y_against h.ci.wf (KJ.ka h) 15 s 0 0 0
  unfold p_Y10_order f_Y10_order q_Y10_order_17a b_Y10_order_17a q_Y10_order_35 b_Y10_order_35
  rw [h.g0]
  simp only [Option.getD_some, ir_so]
  have u := (QU.rf (h.as (KJ.ma h)).1).aI 9 (f_Y8_against S a 15 s 0 0 0)
  have k2 : KJ m a b r2 r3 l (siC S a 9 (f_Y8_against S a 15 s 0 0 0)) T col := h.step (KJ.ma h) u.1 ((h.as (KJ.ma h)).2.kp h.ci (KJ.ka h) u.2.1 (fun _ _ _ => rfl))
  simp only [k2.g0, Option.getD_some, ir_so]
  split
  · exact ⟨1, _, rfl, fun _ _ _ _ => ⟨KJ.ka h, pg, KJ.ka h, KJ.ka k2, trivial⟩, KJ.i k2, h.r6s (KJ.ma h) u.1 u.2.2.n⟩
  · exact ⟨0, _, rfl, fun _ _ _ _ => ⟨KJ.ka h, pg, KJ.ka h, KJ.ka k2, trivial⟩, KJ.i k2, h.r6s (KJ.ma h) u.1 u.2.2.n⟩
theorem before_lp (e mm i : Int32) : ∀ (n : Nat) (Sk : Cst) (Tk : Nat → List Nat) (ck : Nat → Nat) (k : Int32), KJ m a b r2 r3 l Sk Tk ck → 0 ≤ k.toInt → k.toInt ≤ e.toInt → e.toInt ≤ 600 → e.toInt - k.toInt < n → kR Sk m (fun lc ls => lq_Y10_before_49 m lc ls n Sk e mm i (some (a + 7)) k) (lp_Y10_before_49 m n Sk e mm i (some (a + 7)) k) := by
  intro n
  induction n with
  | zero => intro Sk Tk ck k h h1 h2 h3 h4; omega
  | succ n ih =>
    intro Sk Tk ck k h h1 h2 h3 h4
    have wa := h.ci.wf.w0 (KJ.ka h)
    have k7 := wa.1.2.2.2.2.1
    rw [lp_Y10_before_49]
    simp only [lq_Y10_before_49]
    unfold ps_Y10_before_49 st_Y10_before_49
    rw [h.g1]
    simp only [Option.getD_some, ir_so]
    by_cases c : e ≤ k
    · simp only [if_pos c]
      exact ⟨_, Sk, rfl, fun _ _ _ _ => ⟨⟨KJ.kb h, y_wordOf h.ci.wf (KJ.kb h) mm i, trivial⟩, trivial⟩, KJ.i h, eM.rf m Sk⟩
    · simp only [if_neg c]
      have c := mt iLe.mpr c
      have pa := fun j => y_ledAt h.ci.wf k7 k j
      obtain ⟨v, S2, T2, c2, f, p, k2, en⟩ := h.ham (KJ.mb h) (y_enact (h.as (KJ.mb h)) (f_Y3_at Sk (a + 7) k 0) (f_Y3_at Sk (a + 7) k 1) (f_Y3_at Sk (a + 7) k 2) (f_Y3_at Sk (a + 7) k 3) (f_Y3_at Sk (a + 7) k 4))
      rw [f]
      have e1 := iAdd (x := k) (y := 1) (by rw [i1]; omega) (by rw [i1]; omega)
      rw [i1] at e1
      obtain ⟨v3, S3, f3, p3, k3, en3⟩ := ih S2 T2 c2 (k + 1) k2 (by omega) (by omega) h3 (by omega)
      unfold b_Y10_before_102a q_Y10_before_102a
      exact ⟨v3, S3, f3, fun lc ls A B => ⟨⟨k7, pa 0, k7, pa 1, k7, pa 2, k7, pa 3, k7, pa 4, KJ.kb h, ⟨⟨en.1.1, Nat.le_trans en3.1.1 A⟩, en.1.2, Nat.le_trans en3.1.2 B⟩, p _ _ (Nat.le_refl _) (Nat.le_refl _), fun z y => by cases y; exact k7.1, trivial⟩, p3 lc ls A B⟩, k3, en.tr en3⟩
/-- the other assembly begun, with as many seats -/
theorem k_trial (h : KJ m a b r2 r3 l S T col) : p_Y0_begin S b (giC S (a + 37) 0) ∧ ∃ v S2 T2 c2, f_Y0_begin S b (giC S (a + 37) 0) = (v, S2) ∧ KJ m a b r2 r3 l S2 T2 c2 ∧ eM m S S2 := by
  have w1 := h.ci.wf.w1 (h.ci.wf.w0 (KJ.ka h)).1.1
  obtain ⟨hp, v, S3, T3, e, as, en⟩ := y_abegin (h.as (KJ.mb h)).1 (n := giC S (a + 37) 0) w1.2.2
  exact ⟨hp, v, S3, T3, col, e, h.step (KJ.mb h) as.1 as.2, h.r6s (KJ.mb h) as.1 en⟩
theorem k_before (h : KI S m) (e mm i : Int32) : kR S m (fun lc ls => p_Y10_before S m lc ls e mm i) (f_Y10_before S m e mm i) := by
  obtain ⟨a, b, r2, r3, l, T, col, h⟩ := h
  have wa := h.ci.wf.w0 (KJ.ka h)
  have w7 := (h.ci.wf.w2 wa.1.2.2.2.2.1).1.2.2
  unfold rg at w7
  unfold p_Y10_before f_Y10_before q_Y10_before_18 b_Y10_before_18 q_Y10_before_46a b_Y10_before_46a
  rw [h.g0, h.g1]
  simp only [Option.getD_some, ir_so]
  rw [wa.2.1.1, wa.2.1.2.2.2.2.1]
  simp only [Option.getD_some, ir_so]
  by_cases c1 : e < 0
  · simp only [if_pos c1]
    exact ⟨_, S, rfl, fun _ _ _ _ => trivial, KJ.i h, eM.rf m S⟩
  · simp only [if_neg c1]
    by_cases c2 : e ≤ giC S (a + 7) 3
    · simp only [if_pos c2]
      have c1 := mt iLt.mpr c1
      have c2 := iLe.mp c2
      rw [i0] at c1
      obtain ⟨p1, v, S2, T2, c2', f, k2, en⟩ := k_trial h
      rw [f]
      obtain ⟨v3, S3, f3, p3, k3, en3⟩ := before_lp e mm i 100000 S2 T2 c2' 0 k2 (by rw [i0]; omega) (by rw [i0]; omega) (by omega) (by rw [i0]; omega)
      exact ⟨v3, S3, f3, fun lc ls A B => ⟨KJ.ka h, wa.1.2.2.2.2.1, KJ.ka h, KJ.ka h, wa.1.1, KJ.kb h, p1, p3 lc ls A B⟩, k3, en.tr en3⟩
    · simp only [if_neg c2]
      exact ⟨_, S, rfl, fun _ _ _ _ => ⟨KJ.ka h, wa.1.2.2.2.2.1, trivial⟩, KJ.i h, eM.rf m S⟩
theorem again_lp : ∀ (n : Nat) (Sk : Cst) (Tk : Nat → List Nat) (ck : Nat → Nat) (k : Int32), KJ m a b r2 r3 l Sk Tk ck → 0 ≤ k.toInt → k.toInt ≤ 600 → 600 - k.toInt < n → kR Sk m (fun lc ls => lq_Y10_again_27 m lc ls n Sk (some (a + 7)) k) (lp_Y10_again_27 m n Sk (some (a + 7)) k) := by
  intro n
  induction n with
  | zero => intro Sk Tk ck k h h1 h2 h3; omega
  | succ n ih =>
    intro Sk Tk ck k h h1 h2 h3
    have wa := h.ci.wf.w0 (KJ.ka h)
    have k7 := wa.1.2.2.2.2.1
    have w7 := (h.ci.wf.w2 k7).1.2.2
    unfold rg at w7
    rw [lp_Y10_again_27]
    simp only [lq_Y10_again_27]
    unfold ps_Y10_again_27 st_Y10_again_27
    rw [h.g1]
    simp only [Option.getD_some, ir_so]
    by_cases c : giC Sk (a + 7) 3 ≤ k
    · simp only [if_pos c]
      exact ⟨_, Sk, rfl, fun _ _ _ _ => ⟨⟨k7, trivial⟩, trivial⟩, KJ.i h, eM.rf m Sk⟩
    · simp only [if_neg c]
      have c := mt iLe.mpr c
      have pa := fun j => y_ledAt h.ci.wf k7 k j
      obtain ⟨v, S2, T2, c2, f, p, k2, en⟩ := h.ham (KJ.mb h) (y_enact (h.as (KJ.mb h)) (f_Y3_at Sk (a + 7) k 0) (f_Y3_at Sk (a + 7) k 1) (f_Y3_at Sk (a + 7) k 2) (f_Y3_at Sk (a + 7) k 3) (f_Y3_at Sk (a + 7) k 4))
      rw [f]
      have wb := k2.ci.wf.w0 (KJ.kb k2)
      have wa2 := k2.ci.wf.w0 (KJ.ka k2)
      have k72 := wa2.1.2.2.2.2.1
      have pa2 := fun j => y_ledAt k2.ci.wf k72 k j
      have e1 := iAdd (x := k) (y := 1) (by rw [i1]; omega) (by rw [i1]; omega)
      rw [i1] at e1
      unfold b_Y10_again_72a q_Y10_again_72a b_Y10_again_103 q_Y10_again_103
      simp only
      simp only [k2.g1, Option.getD_some, ir_so, wb.2.1.2.1]
      by_cases d : v = f_Y3_at S2 (a + 7) k 5
      · simp only [if_pos d]
        by_cases d2 : giC S2 (b + 1) 1 = f_Y3_at S2 (a + 7) k 6
        · simp only [if_pos d2]
          obtain ⟨v3, S3, f3, p3, k3, en3⟩ := ih S2 T2 c2 (k + 1) k2 (by omega) (by omega) (by omega)
          exact ⟨v3, S3, f3, fun lc ls A B => ⟨⟨k7, k7, pa 0, k7, pa 1, k7, pa 2, k7, pa 3, k7, pa 4, KJ.kb h, ⟨⟨en.1.1, Nat.le_trans en3.1.1 A⟩, en.1.2, Nat.le_trans en3.1.2 B⟩, p _ _ (Nat.le_refl _) (Nat.le_refl _), fun z y => by cases y; exact k7.1, k72, pa2 5, KJ.kb k2, wb.1.2.1, k72, pa2 6, trivial⟩, p3 lc ls A B⟩, k3, en.tr en3⟩
        · simp only [if_neg d2]
          exact ⟨k, S2, rfl, fun lc ls A B => ⟨⟨k7, k7, pa 0, k7, pa 1, k7, pa 2, k7, pa 3, k7, pa 4, KJ.kb h, ⟨⟨en.1.1, A⟩, en.1.2, B⟩, p _ _ (Nat.le_refl _) (Nat.le_refl _), fun z y => by cases y; exact k7.1, k72, pa2 5, KJ.kb k2, wb.1.2.1, k72, pa2 6, trivial⟩, trivial⟩, KJ.i k2, en⟩
      · simp only [if_neg d]
        exact ⟨k, S2, rfl, fun lc ls A B => ⟨⟨k7, k7, pa 0, k7, pa 1, k7, pa 2, k7, pa 3, k7, pa 4, KJ.kb h, ⟨⟨en.1.1, A⟩, en.1.2, B⟩, p _ _ (Nat.le_refl _) (Nat.le_refl _), fun z y => by cases y; exact k7.1, k72, pa2 5, trivial⟩, trivial⟩, KJ.i k2, en⟩
theorem k_again (h : KI S m) : kR S m (fun lc ls => p_Y10_again S m lc ls) (f_Y10_again S m) := by
  obtain ⟨a, b, r2, r3, l, T, col, h⟩ := h
  have wa := h.ci.wf.w0 (KJ.ka h)
  unfold p_Y10_again f_Y10_again q_Y10_again_25a b_Y10_again_25a
  rw [h.g0, h.g1]
  simp only [Option.getD_some, ir_so]
  rw [wa.2.1.1, wa.2.1.2.2.2.2.1]
  simp only [Option.getD_some, ir_so]
  obtain ⟨p1, v, S2, T2, c2', f, k2, en⟩ := k_trial h
  rw [f]
  obtain ⟨v3, S3, f3, p3, k3, en3⟩ := again_lp 100000 S2 T2 c2' 0 k2 (by rw [i0]; omega) (by rw [i0]; omega) (by rw [i0]; omega)
  exact ⟨v3, S3, f3, fun lc ls A B => ⟨KJ.ka h, KJ.ka h, wa.1.1, KJ.kb h, p1, p3 lc ls A B⟩, k3, en.tr en3⟩
theorem tab_b (j : Nat) : 0 ≤ (tabN j).toInt ∧ (tabN j).toInt ≤ 4 := by
  by_cases c : j < 23
  · have : ∀ i : Fin 23, 0 ≤ (tabN i.val).toInt ∧ (tabN i.val).toInt ≤ 4 := by decide
    exact this ⟨j, c⟩
  · have e : tabN j = 0 := by
      unfold tabN
      rw [List.getD_eq_getElem?_getD, List.getElem?_eq_none (by simp; omega)]
      rfl
    rw [e]
    decide
theorem e5 : (5 : Int32).toInt = 5 := by decide
theorem cb_lq (wf : wfS S) (km : iK S m 7) (i j : Int32) : ∀ (n : Nat) (k : Int32), 0 ≤ k.toInt → k.toInt ≤ 5 → 5 - k.toInt < n → lq_Y10_canBeDone_33 S m n i j k := by
  intro n
  induction n with
  | zero => intro k h1 h2 h3; omega
  | succ n ih =>
    intro k h1 h2 h3
    rw [lq_Y10_canBeDone_33]
    unfold ps_Y10_canBeDone_33 st_Y10_canBeDone_33
    by_cases c : 5 ≤ k
    · simp only [if_pos c]
      exact ⟨trivial, trivial⟩
    · simp only [if_neg c]
      have c := mt iLe.mpr c
      rw [e5] at c
      have e1 := iAdd (x := k) (y := 1) (by rw [i1]; omega) (by rw [i1]; omega)
      rw [i1] at e1
      have kl := g7_4 wf km
      refine ⟨⟨kl, y_ledAt wf (ir_k kl) i k, by split <;> trivial⟩, ?_⟩
      by_cases d : f_Y3_at S ((grC S m 4).getD 0) i k = 0
      · simp only [if_pos d]
        exact ih (k + 1) (by omega) (by omega) (by omega)
      · simp only [if_neg d]
theorem y_canBeDone (wf : wfS S) (km : iK S m 7) (i : Int32) : p_Y10_canBeDone S m i := by
  have kl := g7_4 wf km
  have e23 : (23 : Int32).toInt = 23 := by decide
  unfold p_Y10_canBeDone q_Y10_canBeDone_23
  refine ⟨kl, y_ledAt wf (ir_k kl) i 0, iteI (fun _ => trivial) (fun c1 => iteI (fun c2 => ?_) (fun _ => trivial))⟩
  generalize f_Y3_at S ((grC S m 4).getD 0) i 0 = v at c1 c2 ⊢
  have c1 := mt iLt.mpr c1
  have c2 := iLt.mp c2
  rw [i1] at c1
  rw [e23] at c2
  have tb := tab_b v.toNatClampNeg
  have e1 := iAdd (x := tabN v.toNatClampNeg) (y := 1) (by rw [i1]; omega) (by rw [i1]; omega)
  rw [i1] at e1
  exact ⟨vIn (by omega) (by omega), cb_lq wf km i v 100000 _ (by omega) (by omega) (by omega)⟩
theorem check_lp : ∀ (n : Nat) (Sk : Cst) (Tk : Nat → List Nat) (ck : Nat → Nat) (k : Int32), KJ m a b r2 r3 l Sk Tk ck → 0 ≤ k.toInt → k.toInt ≤ 600 → 600 - k.toInt < n → kR Sk m (fun lc ls => lq_Y10_check_19 m lc ls n Sk k) (lp_Y10_check_19 m n Sk k) := by
  intro n
  induction n with
  | zero => intro Sk Tk ck k h h1 h2 h3; omega
  | succ n ih =>
    intro Sk Tk ck k h h1 h2 h3
    have kl := h.kl
    have wl := (h.ci.wf.w2 kl).1.2.2
    unfold rg at wl
    have pd := y_canBeDone h.ci.wf h.km k
    rw [lp_Y10_check_19]
    simp only [lq_Y10_check_19]
    unfold ps_Y10_check_19 st_Y10_check_19 b_Y10_check_52 q_Y10_check_52
    rw [h.g1, h.g4]
    simp only [Option.getD_some, ir_so]
    by_cases c : giC Sk l 3 ≤ k
    · simp only [if_pos c]
      exact ⟨_, Sk, rfl, fun _ _ _ _ => ⟨⟨kl, trivial⟩, trivial⟩, KJ.i h, eM.rf m Sk⟩
    · simp only [if_neg c]
      have c := mt iLe.mpr c
      have pa := fun j => y_ledAt h.ci.wf kl k j
      by_cases d : f_Y3_at Sk l k 5 < 0
      · simp only [if_pos d]
        exact ⟨_, Sk, rfl, fun _ _ _ _ => ⟨⟨kl, kl, pa 5, trivial⟩, trivial⟩, KJ.i h, eM.rf m Sk⟩
      · simp only [if_neg d]
        by_cases d2 : f_Y10_canBeDone Sk m k = 0
        · simp only [if_pos d2]
          exact ⟨_, Sk, rfl, fun _ _ _ _ => ⟨⟨kl, kl, pa 5, pd, trivial⟩, trivial⟩, KJ.i h, eM.rf m Sk⟩
        · simp only [if_neg d2]
          obtain ⟨v, S2, T2, c2, f, p, k2, en⟩ := h.ham (KJ.mb h) (y_enact (h.as (KJ.mb h)) (f_Y3_at Sk l k 0) (f_Y3_at Sk l k 1) (f_Y3_at Sk l k 2) (f_Y3_at Sk l k 3) (f_Y3_at Sk l k 4))
          rw [f]
          have e1 := iAdd (x := k) (y := 1) (by rw [i1]; omega) (by rw [i1]; omega)
          rw [i1] at e1
          unfold b_Y10_check_106a q_Y10_check_106a
          by_cases d3 : v = f_Y3_at Sk l k 5
          · simp only [if_pos d3]
            obtain ⟨v3, S3, f3, p3, k3, en3⟩ := ih S2 T2 c2 (k + 1) k2 (by omega) (by omega) (by omega)
            exact ⟨v3, S3, f3, fun lc ls A B => ⟨⟨kl, kl, pa 5, pd, kl, pa 0, kl, pa 1, kl, pa 2, kl, pa 3, kl, pa 4, KJ.kb h, ⟨⟨en.1.1, Nat.le_trans en3.1.1 A⟩, en.1.2, Nat.le_trans en3.1.2 B⟩, p _ _ (Nat.le_refl _) (Nat.le_refl _), trivial⟩, p3 lc ls A B⟩, k3, en.tr en3⟩
          · simp only [if_neg d3]
            exact ⟨k, S2, rfl, fun lc ls A B => ⟨⟨kl, kl, pa 5, pd, kl, pa 0, kl, pa 1, kl, pa 2, kl, pa 3, kl, pa 4, KJ.kb h, ⟨⟨en.1.1, A⟩, en.1.2, B⟩, p _ _ (Nat.le_refl _) (Nat.le_refl _), trivial⟩, trivial⟩, KJ.i k2, en⟩
theorem k_check (h : KI S m) : kR S m (fun lc ls => p_Y10_check S m lc ls) (f_Y10_check S m) := by
  obtain ⟨a, b, r2, r3, l, T, col, h⟩ := h
  have wa := h.ci.wf.w0 (KJ.ka h)
  unfold p_Y10_check f_Y10_check q_Y10_check_17a b_Y10_check_17a
  rw [h.g0, h.g1]
  simp only [Option.getD_some, ir_so]
  rw [wa.2.1.1]
  simp only [Option.getD_some, ir_so]
  obtain ⟨p1, v, S2, T2, c2', f, k2, en⟩ := k_trial h
  rw [f]
  obtain ⟨v3, S3, f3, p3, k3, en3⟩ := check_lp 100000 S2 T2 c2' 0 k2 (by rw [i0]; omega) (by rw [i0]; omega) (by rw [i0]; omega)
  exact ⟨v3, S3, f3, fun lc ls A B => ⟨KJ.ka h, wa.1.1, KJ.kb h, p1, p3 lc ls A B⟩, k3, en.tr en3⟩
end
