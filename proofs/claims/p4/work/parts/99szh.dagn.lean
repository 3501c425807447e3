/-! ===== trials: done again, before ===== -/
section
variable {x y a b l : Nat} {r2 r3 : Option Nat} {S S1 S2 S3 S4 Sk : Cst} {T T1 T2 T3 Tk : Nat → List Nat} {col c1 c2 c3 ck : Nat → Nat} {H H2 G R O : HS} {M M2 : MS} {v : Int32} {P z : Nat → Int32}
/-- a number of a ledger's row -/
theorem at_v (wf : wfS S) {q : Nat} (k : iK S q 2) {i j : Int32} {e n m : Nat} {C : Int32} (e3 : (giC S q 3).toInt = e) (e0 : giC S q 0 = C) (hi : i.toInt = n ∧ n < e) (hj : j.toInt = m ∧ (m : Int) < C.toInt) (hl : (e : Int) * C.toInt ≤ lcl S q) : f_Y3_at S q i j = giC S ((grC S q 2).getD 0) (C.toNatClampNeg * n + m) := by
  have w := wf.w2 k
  have hr := w.1.2.2
  unfold rg at hr
  have hg : C.toInt = 5 ∨ C.toInt = 6 ∨ C.toInt = 7 := by
    have w0 := w.1.1
    rw [e0] at w0
    rcases w0 with y | y | y <;> rw [y]
    · exact Or.inl (by decide)
    · exact Or.inr (Or.inl (by decide))
    · exact Or.inr (Or.inr (by decide))
  have kc := iNat (x := C) (by omega)
  have nl : (n : Int) * C.toInt + m < (e : Int) * C.toInt := by
    rcases hg with y | y | y <;> rw [y] at hj ⊢ <;> omega
  have hL := w.2.2.2
  have el : (lcl S q : Int) = lnC S ((grC S q 2).getD 0) := rfl
  have eb : (e : Int) * C.toInt ≤ 4200 := by
    rcases hg with y | y | y <;> rw [y] <;> omega
  have nC0 : 0 ≤ (n : Int) * C.toInt := by
    rcases hg with y | y | y <;> rw [y] <;> omega
  have mu := iMul (x := i) (y := C) (n := (n : Int) * C.toInt) (by rw [hi.1]) (by omega) (by omega)
  have ad := iAdd (x := i * C) (y := j) (by rw [mu, hj.1]; omega) (by rw [mu, hj.1]; omega)
  rw [mu, hj.1] at ad
  have kn := iNat (x := i * C + j) (by omega)
  have lL : (Int32.ofNat (lnC S ((grC S q 2).getD 0))).toInt = lnC S ((grC S q 2).getD 0) := (led_e (L := lnC S ((grC S q 2).getD 0)) w.1.1 w.1.2.1 w.1.2.2 hL).2.2.1
  have en : (i * C + j).toNatClampNeg = C.toNatClampNeg * n + m := by
    have c1 : (C.toNatClampNeg : Int) * n = (n : Int) * C.toInt := by rw [kc, Int.mul_comm]
    have c2 : ((C.toNatClampNeg * n + m : Nat) : Int) = (C.toNatClampNeg : Int) * n + m := by
      rw [Int.natCast_add, Int.natCast_mul]
    omega
  unfold f_Y3_at b_Y3_at_24 b_Y3_at_58 b_Y3_at_48
  rw [e0, if_neg (fun y => by have := iLt.mp y; rw [i0] at this; omega), if_neg (fun y => by have := iLe.mp y; omega), if_neg (fun y => by have := iLt.mp y; rw [i0] at this; omega), if_pos (iLt.mpr (by omega)), if_neg (fun y => by have := iLt.mp y; rw [i0] at this; omega), if_pos (iLt.mpr (by rw [ad, lL]; omega)), en]
/-- all stands when the trial moves -/
theorem CT.tr (h : KJ 82 a b r2 r3 l S T col) (c : CT S M a b r2 r3 l T) (as : AS b S T col S2 T2 c2) (sv2 : sV S2) (jb : jS S2 b) : CT S2 M a b r2 r3 l T2 := by
  obtain ⟨⟨z, q1, q2⟩, q3, ⟨q4, q5⟩, q6⟩ := c
  obtain ⟨o1, o2, o3⟩ := CT.oth (O := M.1) h (KJ.mb h) as.1 sv2
  have nab := KJ.nab h
  refine ⟨⟨z, q1.oth h.ci (KJ.ka h) nab as.1 sv2, (o3 a (KJ.ma h) nab).2 _ _ _ _ q2⟩, jb, ⟨o1 r2 0 (Or.inl rfl) (fun c e => ?_) q4, o1 r3 1 (Or.inr rfl) (fun c e => ?_) q5⟩, o2 q6⟩
  · subst e
    exact (KJ.n2 h).2
  · subst e
    exact (KJ.n3 h).2
/-- the trial is as the other Hall -/
def TB (S : Cst) (T : Nat → List Nat) (b : Nat) (G : HS) : Prop := ∃ w, RR (True, w) (G.1 7).toInt S T b G ∧ HA G
theorem tr_act (h : KJ 82 a b r2 r3 l S T col) (c : CT S M a b r2 r3 l T) (t : TB S T b G) {act i b' c' d : Int32} (h1 : 1 ≤ act.toInt) (h2 : act.toInt ≤ 22) (hz : nz act i b' c' d) : ∃ S3 T3 c3, f_Y0_enact S b act i b' c' d = ((f_X11_act G act i b' c' d).1, S3) ∧ KJ 82 a b r2 r3 l S3 T3 c3 ∧ CT S3 M a b r2 r3 l T3 ∧ TB S3 T3 b (f_X11_act G act i b' c' d).2 := by
  obtain ⟨w, r, hg⟩ := t
  obtain ⟨S3, T3, c3, f, as, q0, q1⟩ := act_sim (h.as (KJ.mb h)) r hg rfl h1 h2 hz
  have k3 := h.step (KJ.mb h) as.1 as.2
  have ha := (act_i hg act i b' c' d).2
  have tb : ∃ w N, N = ((f_X11_act G act i b' c' d).2.1 7).toInt ∧ RR (True, w) N S3 T3 b (f_X11_act G act i b' c' d).2 := by
    by_cases q : rz G act i b' c' d = 0
    · obtain ⟨v, D, ea, ⟨D7, l6, -, -⟩, r3⟩ := q1 q
      have em : (miH D act i b' c' d v).1 7 = D.1 7 + 1 := rfl
      have h7 := hg.2.1
      have e1 := iAdd (x := D.1 7) (y := 1) (by rw [i1, D7]; omega) (by rw [i1, D7]; omega)
      rw [i1, D7] at e1
      rw [ea]
      exact ⟨_, _, by rw [em, D7]; exact e1.symm, r3⟩
    · obtain ⟨ea, -, -, r3⟩ := q0 q
      rw [ea]
      exact ⟨_, _, rfl, r3⟩
  obtain ⟨w', N, eN, r3⟩ := tb
  subst eN
  exact ⟨S3, T3, c3, f, k3, CT.tr h c as r3.sv r3.jS, w', r3, ha⟩
/-- the trial begun -/
theorem tr_beg (h : KJ 82 a b r2 r3 l S T col) (c : CT S M a b r2 r3 l T) (mi : MI M) : ∃ S3 T3, f_Y0_begin S b (giC S (a + 37) 0) = (0, S3) ∧ KJ 82 a b r2 r3 l S3 T3 col ∧ CT S3 M a b r2 r3 l T3 ∧ TB S3 T3 b (f_X11_begin M.2.2 (M.2.1.1 0)).2 := by
  obtain ⟨⟨z, q1, q2⟩, q3, q⟩ := id c
  have hn := q2.1.1
  have en : giC S (a + 37) 0 = M.2.1.1 0 := q1.1.1.1
  obtain ⟨S3, T3, f, as, rr⟩ := begin_sim (h.as (KJ.mb h)).1 q3 q1.sv (n := M.2.1.1 0) (by omega)
  have r := rr M.2.2 (fun _ => 0)
  have bg := (begin_i mi.2.1 hn).2
  rw [en]
  refine ⟨S3, T3, f, h.step (KJ.mb h) as.1 as.2, CT.tr h c as r.sv r.jS, ⟨((fun _ => 0), M.2.1.1 0, M.2.2.2 40), ?_⟩⟩
  rw [bg.2.1, i0]
  exact ⟨r, bg.1⟩
/-- the trial's numbers of the minutes -/
theorem led_v (h : KJ 82 a b r2 r3 l S T col) (c : CT S M a b r2 r3 l T) {i : Int32} {n : Nat} (hi : i.toInt = n ∧ n < (M.2.1.1 7).toNatClampNeg) : (giC S (a + 7) 3 = M.2.1.1 7) ∧ (∀ (j : Int32) (m : Nat), j.toInt = m → m < 6 → f_Y3_at S (a + 7) i j = M.2.1.2 40 (6 * n + m)) ∧ ∀ z, JX S T a (M.2.1.1 0) (M.2.1.1 7).toNatClampNeg (M.2.1.2 40) z → f_Y3_at S (a + 7) i 6 = z n := by
  obtain ⟨⟨z, q1, q2⟩, q⟩ := c
  have t7 : (7 : Int32).toInt = 7 := by decide
  have n7 : (7 : Int32).toNatClampNeg = 7 := by decide
  have e6 : (6 : Int32).toInt = 6 := by decide
  have k7 : iK S (a + 7) 2 := (h.ci.wf.w0 (KJ.ka h)).1.2.2.2.2.1
  have j1 := q1.2.2.2.1.1
  have j0 := q1.2.2.2.1.2.2.1.1
  have kp : 0 ≤ (M.2.1.1 7).toInt := by
    have := q2.2.1.1
    rw [j1.1] at this
    omega
  have kk := iNat kp
  have at' : ∀ (j : Int32) (m : Nat), j.toInt = m → m < 7 → f_Y3_at S (a + 7) i j = giC S ((grC S (a + 7) 2).getD 0) (7 * n + m) := fun j m hj hm => by
    have := at_v h.ci.wf k7 (i := i) (j := j) (C := 7) q2.2.1.1 j0 hi ⟨hj, by rw [t7]; omega⟩ (by rw [t7]; have := j1.2.1; omega)
    rw [n7] at this
    exact this
  refine ⟨j1.1, fun j m hj hm => ?_, fun z' jx => ?_⟩
  · rw [at' j m hj (by omega)]
    exact q2.2.1.2.1 n m hi.2 hm
  · rw [at' 6 6 e6 (by omega)]
    exact jx.2.1.2.2 n hi.2
/-- the minutes done on the trial, one entry -/
theorem tr_ent (h : KJ 82 a b r2 r3 l S T col) (c : CT S M a b r2 r3 l T) {k : Int32} {n : Nat} (hk : k.toInt = n ∧ n < (M.2.1.1 7).toNatClampNeg) (t : TB S T b G) : ∃ S3 T3 c3, f_Y0_enact S b (f_Y3_at S (a + 7) k 0) (f_Y3_at S (a + 7) k 1) (f_Y3_at S (a + 7) k 2) (f_Y3_at S (a + 7) k 3) (f_Y3_at S (a + 7) k 4) = ((f_X11_act G (M.2.1.2 40 (6 * n)) (M.2.1.2 40 (6 * n + 1)) (M.2.1.2 40 (6 * n + 2)) (M.2.1.2 40 (6 * n + 3)) (M.2.1.2 40 (6 * n + 4))).1, S3) ∧ KJ 82 a b r2 r3 l S3 T3 c3 ∧ CT S3 M a b r2 r3 l T3 ∧ TB S3 T3 b (f_X11_act G (M.2.1.2 40 (6 * n)) (M.2.1.2 40 (6 * n + 1)) (M.2.1.2 40 (6 * n + 2)) (M.2.1.2 40 (6 * n + 3)) (M.2.1.2 40 (6 * n + 4))).2 := by
  obtain ⟨-, l1, -⟩ := led_v h c hk
  obtain ⟨⟨z, q1, q2⟩, q⟩ := id c
  have e := q2.1.2.2 n hk.2
  rw [l1 0 0 (by decide) (by omega), l1 1 1 (by decide) (by omega), l1 2 2 (by decide) (by omega), l1 3 3 (by decide) (by omega), l1 4 4 (by decide) (by omega)]
  exact tr_act h c t e.1.1 e.1.2 e.2
theorem agn_l (mi : MI M) : ∀ (f : Nat) (S : Cst) (T : Nat → List Nat) (col : Nat → Nat) (k : Int32) (G : HS), KJ 82 a b r2 r3 l S T col → CT S M a b r2 r3 l T → G = fol (M.2.1.2 40) (f_X11_begin M.2.2 (M.2.1.1 0)).2 k.toNatClampNeg → TB S T b G → 0 ≤ k.toInt → k.toInt ≤ (M.2.1.1 7).toInt → (M.2.1.1 7).toInt - k.toInt < f → ∃ S3 T3 c3 G3, lp_Y10_again_27 82 f S (some (a + 7)) k = (-1, S3) ∧ lp_X12_again_16 f (mS M G) k = (-1, mS M G3) ∧ KJ 82 a b r2 r3 l S3 T3 c3 ∧ CT S3 M a b r2 r3 l T3 := by
  have e6 : (6 : Int32).toInt = 6 := by decide
  intro f
  induction f with
  | zero => intro S T col k G h c eG t h1 h2 h3; omega
  | succ f ih =>
    intro S T col k G h c eG t h1 h2 h3
    have b7 := mi.1.2.1
    have kk := iNat h1
    have ke := iNat (x := M.2.1.1 7) b7.1
    obtain ⟨⟨z, q1, q2⟩, q⟩ := id c
    have g3 : giC S (a + 7) 3 = M.2.1.1 7 := q1.j7
    rw [lp_Y10_again_27, lp_X12_again_16]
    unfold st_Y10_again_27 st_X12_again_16
    rw [Option.getD_some, g3]
    have m1 : (mS M G).2.1 = M.2.1 := rfl
    have m2 : (mS M G).2.2 = G := rfl
    rw [m1, m2]
    by_cases d : M.2.1.1 7 ≤ k
    · rw [if_pos d, if_pos d]
      exact ⟨S, T, col, G, rfl, rfl, h, c⟩
    · rw [if_neg d, if_neg d]
      have d := mt iLe.mpr d
      have hk : k.toInt = (k.toNatClampNeg : Nat) ∧ k.toNatClampNeg < (M.2.1.1 7).toNatClampNeg := ⟨kk.symm, by omega⟩
      have i6 := (n6 (y := k) ⟨h1, by omega⟩ (j := 0) (by decide)).1
      have j1 := (n6 (y := k) ⟨h1, by omega⟩ (j := 1) (by decide)).2
      have j2 := (n6 (y := k) ⟨h1, by omega⟩ (j := 2) (by decide)).2
      have j3 := (n6 (y := k) ⟨h1, by omega⟩ (j := 3) (by decide)).2
      have j4 := (n6 (y := k) ⟨h1, by omega⟩ (j := 4) (by decide)).2
      have j5 := (n6 (y := k) ⟨h1, by omega⟩ (j := 5) (by decide)).2
      have u1 : (1 : Int32).toNatClampNeg = 1 := by decide
      have u2 : (2 : Int32).toNatClampNeg = 2 := by decide
      have u3 : (3 : Int32).toNatClampNeg = 3 := by decide
      have u4 : (4 : Int32).toNatClampNeg = 4 := by decide
      have u5 : (5 : Int32).toNatClampNeg = 5 := by decide
      rw [u1] at j1
      rw [u2] at j2
      rw [u3] at j3
      rw [u4] at j4
      rw [u5] at j5
      obtain ⟨S3, T3, c3, f3, k3, ct3, tb3⟩ := tr_ent h c hk t
      rw [h.g1, Option.getD_some, f3, i6, j1, j2, j3, j4]
      obtain ⟨l3, l1, l6⟩ := led_v k3 ct3 hk
      obtain ⟨⟨z3, p1, p2⟩, p⟩ := id ct3
      obtain ⟨jx, -⟩ := p2.2.2 M.2.2 mi.2.1
      obtain ⟨jx1, jx2⟩ := jx k.toNatClampNeg hk.2
      rw [← eG] at jx1
      have e1 := iAdd (x := k) (y := 1) (by rw [i1]; omega) (by rw [i1]; omega)
      rw [i1] at e1
      have en : (k + 1).toNatClampNeg = k.toNatClampNeg + 1 := by have := iNat (x := k + 1) (by omega); omega
      have eG3 : (f_X11_act G (M.2.1.2 40 (6 * k.toNatClampNeg)) (M.2.1.2 40 (6 * k.toNatClampNeg + 1)) (M.2.1.2 40 (6 * k.toNatClampNeg + 2)) (M.2.1.2 40 (6 * k.toNatClampNeg + 3)) (M.2.1.2 40 (6 * k.toNatClampNeg + 4))).2 = fol (M.2.1.2 40) (f_X11_begin M.2.2 (M.2.1.1 0)).2 (k + 1).toNatClampNeg := by
        rw [en, fol, ← eG]
      rw [← en, ← eG3] at jx2
      have w6 := k3.ci.wf.w0 (KJ.kb k3)
      have sz : giC S3 (b + 1) 1 = z3 k.toNatClampNeg := by
        obtain ⟨w, rb, -⟩ := tb3
        rw [rr_z (k3.as (KJ.mb k3)) rb.2.1]
        exact jx2
      unfold b_Y10_again_72a b_X12_again_a92
      simp only [Option.getD_some]
      rw [l1 5 5 (by decide) (by omega), jx1, if_pos rfl, k3.g1, Option.getD_some, w6.2.1.2.1, Option.getD_some, l6 z3 p2, sz, if_pos rfl, j5]
      have m3 : (mS (mS M G) (f_X11_act G (M.2.1.2 40 (6 * k.toNatClampNeg)) (M.2.1.2 40 (6 * k.toNatClampNeg + 1)) (M.2.1.2 40 (6 * k.toNatClampNeg + 2)) (M.2.1.2 40 (6 * k.toNatClampNeg + 3)) (M.2.1.2 40 (6 * k.toNatClampNeg + 4))).2).2.1.2 40 (6 * k.toNatClampNeg + 5) = M.2.1.2 40 (6 * k.toNatClampNeg + 5) := rfl
      rw [m3, if_pos rfl]
      exact ih S3 T3 c3 (k + 1) _ k3 ct3 eG3 tb3 (by omega) (by omega) (by omega)
theorem ac_again (q : RQ S M) (mi : MI M) (e : f_Y10_again S 82 = (v, S2)) : v = (f_X12_again M).1 ∧ RQ S2 (f_X12_again M).2 := by
  obtain ⟨a, b, r2, r3, l, T, col, h, c⟩ := q
  have wa := h.ci.wf.w0 (KJ.ka h)
  obtain ⟨S3, T3, f, k3, ct, tb⟩ := tr_beg h c mi
  obtain ⟨S4, T4, c4, G4, f4, g4, k4, ct4⟩ := agn_l mi 100000 S3 T3 col 0 _ k3 ct (by rw [zn0]; rfl) tb (by rw [i0]; omega) (by rw [i0]; exact mi.1.2.1.1) (by rw [i0]; have := mi.1.2.1.2; omega)
  unfold f_Y10_again b_Y10_again_25a at e
  unfold f_X12_again b_X12_again_a14
  rw [h.g1, h.g0, Option.getD_some, Option.getD_some, wa.2.1.1, Option.getD_some, wa.2.1.2.2.2.2.1, f] at e
  simp only at e
  rw [f4] at e
  rw [g4]
  obtain ⟨rfl, rfl⟩ := Prod.mk.inj e
  exact ⟨rfl, a, b, r2, r3, l, T4, c4, k4, ct4⟩
end
