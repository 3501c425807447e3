/-! ===== readers answer alike ===== -/
section
variable {x a b l : Nat} {r2 r3 : Option Nat} {S S1 S2 S3 : Cst} {T T1 T3 : Nat → List Nat} {col c1 c3 : Nat → Nat} {H G : HS} {M : MS} {v : Int32} {N : Int} {wF : Prop × (Nat → Int32) × Int32 × (Nat → Int32)}
theorem rv_m1 : (-1 : Int32).toInt = -1 := by decide
theorem rv_o (q : RQ S M) : ∃ (a l : Nat) (T : Nat → List Nat) (col : Nat → Nat) (z : Nat → Int32), grC S 82 0 = some a ∧ grC S 82 4 = some l ∧ AS a S T col S T col ∧ RR (True, z, M.2.1.1 0, M.2.1.2 40) (M.2.1.1 7).toInt S T a M.2.1 ∧ giC S l 3 = M.1.1 6 := by
  obtain ⟨a, b, r2, r3, l, T, col, h, ⟨z, q1, -⟩, -, -, q6⟩ := q
  exact ⟨a, l, T, col, z, h.g0, h.g4, h.as (KJ.ma h), q1, q6.2.1⟩
theorem rv_in {v n : Int32} (hn : -1 ≤ n.toInt ∧ n.toInt ≤ 100000) : (0 ≤ v.toInt ∧ v.toInt < n.toInt → ¬ f_X12_in v 0 (n - 1) = 0) ∧ (¬ (0 ≤ v.toInt ∧ v.toInt < n.toInt) → f_X12_in v 0 (n - 1) = 0) := by
  have e := iSub (x := n) (y := 1) (by rw [i1]; omega) (by rw [i1]; omega)
  rw [i1] at e
  refine ⟨fun c => ?_, fun c => ?_⟩
  · rw [in_f, if_pos ⟨by rw [i0]; omega, by omega⟩]
    exact h10
  · rw [in_f, if_neg (fun z => c ⟨by have := z.1; rw [i0] at this; omega, by have := z.2; omega⟩)]
theorem rv_w (wf : wfS S) {t : Nat} (k : iK S t 6) (i : Int32) : (0 ≤ i.toInt ∧ i.toInt < (giC S t 1).toInt → f_Y9_wordAt S t i = giC S (t + 1) i.toNatClampNeg) ∧ (¬ (0 ≤ i.toInt ∧ i.toInt < (giC S t 1).toInt) → f_Y9_wordAt S t i = -1) := by
  have w6 := wf.w6 k
  have b := w6.2.2
  unfold rg at b
  have e400 : (Int32.ofNat 400).toInt = 400 := by decide
  unfold f_Y9_wordAt b_Y9_wordAt_21 b_Y9_wordAt_31
  rw [w6.2.1, Option.getD_some, w6.1.2]
  by_cases c1 : i < 0
  · have := iLt.mp c1
    rw [i0] at this
    rw [if_pos c1]
    exact ⟨fun z => by omega, fun _ => rfl⟩
  rw [if_neg c1]
  have d1 := mt iLt.mpr c1
  rw [i0] at d1
  by_cases c2 : giC S t 1 ≤ i
  · have := iLe.mp c2
    rw [if_pos c2]
    exact ⟨fun z => by omega, fun _ => rfl⟩
  rw [if_neg c2]
  have d2 := mt iLe.mpr c2
  rw [if_pos (iLt.mpr (by rw [e400]; omega))]
  exact ⟨fun _ => rfl, fun z => absurd ⟨by omega, by omega⟩ z⟩
/-- a motion's words -/
theorem rv_mw {q m : Nat} (mu : mR S q H m) (wf : wfS S) (k : iK S q 3) (i : Int32) : (0 ≤ i.toInt ∧ i.toInt < (H.2 19 m).toInt → f_Y9_wordAt S ((grC S q 12).getD 0) i = H.2 28 (400 * m + i.toNatClampNeg)) ∧ (¬ (0 ≤ i.toInt ∧ i.toInt < (H.2 19 m).toInt) → f_Y9_wordAt S ((grC S q 12).getD 0) i = -1) := by
  have w3 := wf.w3 k
  obtain ⟨p1, p2⟩ := rv_w wf w3.1.1 i
  rw [mu.2.2.2.1.1] at p1 p2
  rw [w3.2.1.1, Option.getD_some]
  refine ⟨fun c => ?_, p2⟩
  rw [p1 c]
  have := iNat c.1
  exact mu.2.2.2.1.2 i.toNatClampNeg (by have := c.2; omega)
theorem rv_ix {y i : Int32} (hy : 0 ≤ y.toInt ∧ y.toInt < 90) (hi : 0 ≤ i.toInt ∧ i.toInt < 400) : ((400 * y) + i).toNatClampNeg = 400 * y.toNatClampNeg + i.toNatClampNeg := by
  have e4 : (400 : Int32).toInt = 400 := by decide
  have m := iMul (x := 400) (y := y) (n := 400 * y.toInt) (by rw [e4]) (by omega) (by omega)
  have a := iAdd (x := 400 * y) (y := i) (by rw [m]; omega) (by rw [m]; omega)
  rw [m] at a
  have k1 := iNat (x := 400 * y + i) (by omega)
  have k2 := iNat hy.1
  have k3 := iNat hi.1
  omega
/-- the word of a motion there is: both sides -/
theorem rv_t87 {q : Nat} {y : Int32} (mu : mR S q H y.toNatClampNeg) (wf : wfS S) (k : iK S q 3) (hy : 0 ≤ y.toInt ∧ y.toInt < 90) (hw : 0 ≤ (H.2 19 y.toNatClampNeg).toInt ∧ (H.2 19 y.toNatClampNeg).toInt ≤ 400) (x1 i : Int32) : f_Y9_wordAt S ((grC S q 12).getD 0) i = (b_X11_text_87 H x1 i y).1 := by
  obtain ⟨p1, p2⟩ := rv_mw mu wf k i
  obtain ⟨s1, s2⟩ := rv_in (v := i) (n := H.2 19 y.toNatClampNeg) ⟨by omega, by omega⟩
  unfold b_X11_text_87 b_X11_text_124 b_X11_text_125
  rw [if_neg (fun z : y = -1 => by rw [z, rv_m1] at hy; omega)]
  by_cases c : 0 ≤ i.toInt ∧ i.toInt < (H.2 19 y.toNatClampNeg).toInt
  · rw [if_neg (s1 c), p1 c, rv_ix hy ⟨c.1, by omega⟩]
  · rw [if_pos (s2 c), p2 c]
theorem rv_tn (x1 i : Int32) : (b_X11_text_87 H x1 i (-1)).1 = -1 := by
  unfold b_X11_text_87
  rw [if_pos rfl]
  rfl
/-- text() -/
theorem rv_text (as : AS x S T col S1 T1 c1) (r : RR wF N S1 T1 x H) (h : HA H) (i j : Int32) : f_Y0_wordOf S1 x i j = (f_X11_text H i j).1 := by
  have ra := h.1.ra
  have wf := as.ci.wf
  have hz := h.1.2.2
  unfold f_Y0_wordOf f_X11_text
  by_cases d1 : i = -1
  · rw [if_pos d1, if_pos d1, as.w0.2.1.2.2.2.2.2.2, Option.getD_some]
    obtain ⟨p1, p2⟩ := rv_w wf as.w0.1.2.2.2.2.2.2 j
    obtain ⟨s1, s2⟩ := rv_in (v := j) (n := H.1 39) ⟨hz.2.1.1, by have := hz.2.1.2; omega⟩
    have ar := r.2.2.2.2.1.1
    unfold b_X11_text_29
    by_cases y : H.1 9 = 0
    · obtain ⟨y1, y2⟩ := ar.2.2.1 y
      rw [y2, i0] at p2
      rw [p2 (fun z => by omega), if_pos (s2 (fun z => by rw [y1, rv_m1] at z; omega))]
    · have y2 := ar.2.2.2.1 y
      rw [y2] at p1 p2
      by_cases c : 0 ≤ j.toInt ∧ j.toInt < (H.1 39).toInt
      · rw [p1 c, if_neg (s1 c)]
        exact ar.2.2.2.2 _ (by have := iNat c.1; have := c.2; omega)
      · rw [p2 c, if_pos (s2 c)]
  rw [if_neg d1, if_neg d1]
  by_cases d2 : i = 9
  · rw [if_pos d2, if_pos d2, as.g2, Option.getD_some]
    obtain ⟨n0, n1⟩ := rr_dr as r.2.1 r.2.2.1 h.1
    unfold b_Y0_wordOf_38 b_Y0_wordOf_55
    have hd := ra.2.2.1
    by_cases y : H.1 35 = 0
    · rw [n0 (Or.inl y), if_pos rfl, if_pos (iLe.mpr (by rw [y]; exact Int.le_refl _))]
      unfold b_X11_text_59
      rw [rv_tn]
    · have y' := mt iEq.mpr y
      rw [i0] at y'
      rw [if_neg (fun z : H.1 35 ≤ 0 => by have := iLe.mp z; rw [i0] at this; omega)]
      by_cases t : H.1 36 = 0
      · obtain ⟨q, eq, mu, -, tq⟩ := n1 y t
        have k3 := as.m3 (c := x + 4) (q := q) (by rw [tq]; exact List.mem_singleton.mpr rfl)
        have hl := (dr_L h y t).1
        have hc := h.1.1.2.1 1 0 hl
        have hw := (h.1.1.2.2.2.2.1 1 0 hl).2.1
        rw [eq, if_neg (fun z => by cases z), if_pos t, Option.getD_some, zn0]
        exact rv_t87 mu wf k3 ⟨hc.1, hc.2.1⟩ hw i j
      · rw [n0 (Or.inr t), if_pos rfl, if_neg t]
        unfold b_X11_text_59
        rw [rv_tn]
  rw [if_neg d2, if_neg d2, as.g1, Option.getD_some]
  obtain ⟨n0, n1⟩ := rr_at as r.2.1 ra i
  obtain ⟨s1, s2⟩ := rv_in (v := i) (n := H.1 6) ⟨by have := ra.2.1.1; omega, by have := ra.2.1.2; omega⟩
  unfold b_Y0_wordOf_38 b_Y0_wordOf_55
  by_cases c : 0 ≤ i.toInt ∧ i.toInt < (H.1 6).toInt
  · obtain ⟨q, eq, mu, tq, -⟩ := n1 c.1 c.2
    have k3 := as.m3 tq
    have ki := iNat c.1
    have hl : hL H 0 i.toNatClampNeg := ⟨by omega, by show (i.toNatClampNeg : Int) < (H.1 6).toInt; omega⟩
    have hc := h.1.1.2.1 0 _ hl
    have hw := (h.1.1.2.2.2.2.1 0 _ hl).2.1
    rw [eq, if_neg (fun z => by cases z), if_neg (s1 c), Option.getD_some]
    exact rv_t87 mu wf k3 ⟨hc.1, hc.2.1⟩ hw i j
  · rw [n0 c, if_pos rfl, if_pos (s2 c), rv_tn]
theorem eq_why (r : RQ S M) (_ : KI S 82) (_ : MI M) (e : v = f_Y10_why S 82) : v = (f_X12_why M).1 := by
  obtain ⟨a, l, T, col, z, g0, g4, as, q1, t⟩ := rv_o r
  unfold f_Y10_why at e
  rw [g0, Option.getD_some] at e
  rw [e]
  exact q1.2.2.2.2.1.1.1.2 True.intro
theorem eq_text (r : RQ S M) (_ : KI S 82) (mi : MI M) (x1 x2 : Int32) (e : v = f_Y10_text S 82 x1 x2) : v = (f_X12_text M x1 x2).1 := by
  obtain ⟨a, l, T, col, z, g0, g4, as, q1, t⟩ := rv_o r
  unfold f_Y10_text at e
  rw [g0, Option.getD_some] at e
  rw [e]
  exact rv_text as q1 mi.1 x1 x2
theorem eq_pending (r : RQ S M) (_ : KI S 82) (mi : MI M) (x1 x2 : Int32) (e : v = f_Y10_pending S 82 x1 x2) : v = (f_X12_pending M x1 x2).1 := by
  obtain ⟨a, l, T, col, z, g0, g4, as, q1, t⟩ := rv_o r
  have h := mi.1
  have ra := h.1.ra
  obtain ⟨n0, n1⟩ := rr_at as q1.2.1 ra x1
  obtain ⟨s1, s2⟩ := rv_in (v := x1) (n := M.2.1.1 6) ⟨by have := ra.2.1.1; omega, by have := ra.2.1.2; omega⟩
  unfold f_Y10_pending b_Y10_pending_25 at e
  rw [g0, Option.getD_some, as.g1, Option.getD_some] at e
  unfold f_X12_pending b_X12_pending_181 b_X12_pending_a190
  by_cases c : 0 ≤ x1.toInt ∧ x1.toInt < (M.2.1.1 6).toInt
  · obtain ⟨q, eq, mu, tq, tq2⟩ := n1 c.1 c.2
    have k3 := as.m3 tq
    have ki := iNat c.1
    have hl : hL M.2.1 0 x1.toNatClampNeg := ⟨by omega, by show (x1.toNatClampNeg : Int) < (M.2.1.1 6).toInt; omega⟩
    have hc := h.1.1.2.1 0 _ hl
    have h26 := (q1.2.2.2.2.2.2.1 0 _ hl True.intro).2.2
    have sp := mu.2.2.1 h26
    have tx := tx_v mu as.ci.wf k3
    have vo := vo_v mu ⟨hc.1, hc.2.1⟩ ra.1
    rw [eq, if_neg (fun z => by cases z), Option.getD_some] at e
    rw [e, if_neg (s1 c)]
    unfold f_Y4_fact b_Y4_fact_111
    by_cases d0 : x2 = 0
    · rw [if_pos d0, if_pos d0]
      exact mu.1.1
    rw [if_neg d0, if_neg d0]
    by_cases d1 : x2 = 1
    · rw [if_pos d1, if_pos d1]
      exact mu.1.2.1
    rw [if_neg d1, if_neg d1]
    by_cases d2 : x2 = 2
    · rw [if_pos d2, if_pos d2]
      exact mu.1.2.2.1
    rw [if_neg d2, if_neg d2]
    by_cases d3 : x2 = 3
    · rw [if_pos d3, if_pos d3]
      exact tx
    rw [if_neg d3, if_neg d3]
    by_cases d4 : x2 = 4
    · rw [if_pos d4, if_pos d4]
      exact sp.1
    rw [if_neg d4, if_neg d4]
    by_cases d5 : x2 = 5
    · rw [if_pos d5, if_pos d5]
      exact sp.2
    rw [if_neg d5, if_neg d5]
    by_cases d6 : x2 = 6
    · rw [if_pos d6, if_pos d6]
      exact mu.1.2.2.2.1
    rw [if_neg d6, if_neg d6]
    by_cases d7 : x2 = 7
    · rw [if_pos d7, if_pos d7]
      exact mu.1.2.2.2.2
    rw [if_neg d7, if_neg d7]
    by_cases d8 : x2 = 8
    · rw [if_pos d8, if_pos d8, mu.2.1.1]
      by_cases y : M.2.1.2 24 (M.2.1.2 31 x1.toNatClampNeg).toNatClampNeg = 0
      · rw [if_pos y, if_pos y]
      · rw [if_neg y, if_neg y]
    rw [if_neg d8, if_neg d8]
    by_cases d9 : x2 = 9
    · rw [if_pos d9, if_pos d9]
      exact vo
    rw [if_neg d9, if_neg d9]
  · rw [n0 c, if_pos rfl] at e
    rw [e, if_pos (s2 c)]
theorem eq_ballot (r : RQ S M) (_ : KI S 82) (mi : MI M) (x1 : Int32) (e : v = f_Y10_ballot S 82 x1) : v = (f_X12_ballot M x1).1 := by
  obtain ⟨a, l, T, col, z, g0, g4, as, q1, t⟩ := rv_o r
  have h := mi.1
  have ra := h.1.ra
  obtain ⟨n0, n1⟩ := rr_top as q1.2.1 ra
  obtain ⟨s1, s2⟩ := rv_in (v := x1) (n := M.2.1.1 0) ⟨by have := ra.1.1; omega, by have := ra.1.2; omega⟩
  unfold f_Y10_ballot b_Y10_ballot_24 at e
  rw [g0, Option.getD_some, as.g1, Option.getD_some] at e
  unfold f_X12_ballot b_X12_ballot_27 b_X12_ballot_a46 b_X12_ballot_61
  by_cases y : M.2.1.1 6 = 0
  · rw [n0 y, if_pos rfl] at e
    rw [e, if_pos y]
  obtain ⟨q, eq, mu, tq, -⟩ := n1 y
  have ti := top_in ra (pend_pos ra y)
  have k3 := as.m3 tq
  have w3 := as.ci.wf.w3 k3
  have e200 : (Int32.ofNat 200).toInt = 200 := by decide
  have t2 : (200 : Int32).toInt = 200 := by decide
  rw [eq, if_neg (fun z => by cases z), Option.getD_some] at e
  unfold f_Y4_voteOf b_Y4_voteOf_13 b_Y4_voteOf_25 at e
  rw [w3.2.1.2, Option.getD_some, w3.1.2.2] at e
  rw [if_neg y]
  by_cases c : 0 ≤ x1.toInt ∧ x1.toInt < (M.2.1.1 0).toInt
  · rw [if_neg (s1 c)]
    have ki := iNat c.1
    rw [if_neg (fun z => by have := iLt.mp z; rw [i0] at this; omega), if_pos (iLt.mpr (by rw [e200]; have := ra.1.2; omega))] at e
    have vb := mu.2.2.2.2.1 x1.toNatClampNeg (by have := ra.1.2; omega)
    have ix : ((200 * (f_X11_top M.2.1).1) + x1).toNatClampNeg = 200 * (f_X11_top M.2.1).1.toNatClampNeg + x1.toNatClampNeg := by
      have m := iMul (x := 200) (y := (f_X11_top M.2.1).1) (n := 200 * (f_X11_top M.2.1).1.toInt) (by rw [t2]) (by omega) (by omega)
      have a' := iAdd (x := 200 * (f_X11_top M.2.1).1) (y := x1) (by rw [m]; omega) (by rw [m]; have := ra.1.2; omega)
      rw [m] at a'
      have k1 := iNat (x := 200 * (f_X11_top M.2.1).1 + x1) (by omega)
      have k2 := iNat ti.1
      omega
    have m2 : (mH M (f_X11_top M.2.1).2).2.1 = M.2.1 := top_s M.2.1
    rw [m2, ix]
    rw [e]
    generalize giC S (q + 3) x1.toNatClampNeg = p at vb
    generalize M.2.1.2 29 (200 * (f_X11_top M.2.1).1.toNatClampNeg + x1.toNatClampNeg) = p2 at vb
    rcases vb with ⟨rfl, rfl⟩ | ⟨rfl, rfl⟩ | ⟨rfl, rfl⟩
    · rw [if_pos rfl]
      show (0 : Int32) - 1 = -1
      decide
    · rw [if_neg (by decide)]
      show (1 : Int32) - 1 = 0
      decide
    · rw [if_neg (by decide)]
      show (2 : Int32) - 1 = 1
      decide
  · rw [if_pos (s2 c), e]
    by_cases c1 : x1 < 0
    · rw [if_pos c1]
    rw [if_neg c1]
    have c1 := mt iLt.mpr c1
    rw [i0] at c1
    by_cases c2 : x1 < Int32.ofNat 200
    · rw [if_pos c2]
      have c2 := iLt.mp c2
      rw [e200] at c2
      have ki := iNat (x := x1) (by omega)
      rw [mu.2.2.2.2.2.1.1 x1.toNatClampNeg (by omega) (by omega)]
      show (0 : Int32) - 1 = -1
      decide
    · rw [if_neg c2]
theorem eq_seat (r : RQ S M) (_ : KI S 82) (mi : MI M) (x1 : Int32) (e : v = f_Y10_seat S 82 x1) : v = (f_X12_seat M x1).1 := by
  obtain ⟨a, l, T, col, z, g0, g4, as, q1, t⟩ := rv_o r
  have ra := mi.1.1.ra
  obtain ⟨s1, s2⟩ := rv_in (v := x1) (n := M.2.1.1 0) ⟨by have := ra.1.1; omega, by have := ra.1.2; omega⟩
  have e1 := hs_has as q1.1 ra x1
  have e2 := hs_there as q1.1 ra x1
  unfold f_Y10_seat b_Y10_seat_35 at e
  unfold f_X12_seat b_X12_seat_38
  rw [g0, Option.getD_some, as.g0, Option.getD_some] at e
  by_cases c : sE M.2.1 x1
  · rw [if_pos c] at e1
    rw [if_neg (by rw [e1]; exact h10)] at e
    rw [e, if_neg (s1 c)]
    by_cases y : M.2.1.2 11 x1.toNatClampNeg = 0
    · rw [if_neg (fun z => z.2 y)] at e2
      rw [if_pos e2, if_pos y]
    · rw [if_pos ⟨c, y⟩] at e2
      rw [if_neg (by rw [e2]; exact h10), if_neg y]
  · rw [if_neg c] at e1
    rw [if_pos e1] at e
    rw [e, if_pos (s2 c)]
/-- out of a ledger -/
theorem rv_no {q : Nat} {i j : Int32} (h : ¬ ((0 ≤ i.toInt ∧ i.toInt < (giC S q 3).toInt) ∧ 0 ≤ j.toInt ∧ j.toInt < (giC S q 0).toInt)) : f_Y3_at S q i j = -1 := by
  unfold f_Y3_at b_Y3_at_24
  by_cases c1 : i < 0
  · rw [if_pos c1]
  rw [if_neg c1]
  have d1 := mt iLt.mpr c1
  by_cases c2 : giC S q 3 ≤ i
  · rw [if_pos c2]
  rw [if_neg c2]
  have d2 := mt iLe.mpr c2
  by_cases c3 : j < 0
  · rw [if_pos c3]
  rw [if_neg c3]
  have d3 := mt iLt.mpr c3
  by_cases c4 : j < giC S q 0
  · have d4 := iLt.mp c4
    rw [i0] at d1 d3
    exact absurd ⟨⟨by omega, by omega⟩, by omega, d4⟩ h
  · rw [if_neg c4]
theorem eq_result (r : RQ S M) (_ : KI S 82) (mi : MI M) (x1 x2 : Int32) (e : v = f_Y10_result S 82 x1 x2) : v = (f_X12_result M x1 x2).1 := by
  obtain ⟨a, l, T, col, z, g0, g4, as, q1, t⟩ := rv_o r
  have h8 := mi.1.2.2
  have h7 := mi.1.2.1
  have jr := q1.2.2.2.1
  have e5 : (5 : Int32).toInt = 5 := by decide
  have e4 : (4 : Int32).toInt = 4 := by decide
  have n5 : (5 : Int32).toNatClampNeg = 5 := by decide
  obtain ⟨s1, s2⟩ := rv_in (v := x1) (n := M.2.1.1 8) ⟨by omega, by omega⟩
  have k9 : iK S (a + 9) 2 := as.w0.1.2.2.2.2.2.1
  unfold f_Y10_result at e
  rw [g0, Option.getD_some, as.w0.2.1.2.2.2.2.2.1, Option.getD_some] at e
  unfold f_X12_result b_X12_result_42 b_X12_result_43
  by_cases c : 0 ≤ x1.toInt ∧ x1.toInt < (M.2.1.1 8).toInt
  · rw [if_neg (s1 c)]
    by_cases d : 0 ≤ x2.toInt ∧ x2.toInt ≤ 4
    · rw [if_neg (by rw [in_f, if_pos ⟨by rw [i0]; exact d.1, by rw [e4]; exact d.2⟩]; exact h10)]
      have n1 := iNat c.1
      have n2 := iNat d.1
      have n8 := iNat h8.1
      have av := at_v as.ci.wf k9 (i := x1) (j := x2) (e := (M.2.1.1 8).toNatClampNeg) (n := x1.toNatClampNeg) (m := x2.toNatClampNeg) (C := 5) (by rw [jr.2.1.1]; exact n8.symm) jr.2.2.1.2 ⟨n1.symm, by omega⟩ ⟨n2.symm, by rw [e5]; omega⟩ (by rw [e5, n8]; have := jr.2.1.2.1; omega)
      rw [e, av, n5]
      have m := iMul (x := 5) (y := x1) (n := 5 * x1.toInt) (by rw [e5]) (by omega) (by omega)
      have a' := iAdd (x := 5 * x1) (y := x2) (by rw [m]; omega) (by rw [m]; omega)
      rw [m] at a'
      have k1 := iNat (x := 5 * x1 + x2) (by omega)
      have ix : ((5 * x1) + x2).toNatClampNeg = 5 * x1.toNatClampNeg + x2.toNatClampNeg := by omega
      rw [ix]
      exact jr.2.1.2.2 _ _ (by omega) (by omega)
    · rw [if_pos (by rw [in_f, if_neg (fun z => d ⟨by have := z.1; rw [i0] at this; exact this, by have := z.2; rw [e4] at this; exact this⟩)]), e]
      exact rv_no (fun z => by rw [jr.2.2.1.2, e5] at z; exact d ⟨z.2.1, by omega⟩)
  · rw [if_pos (s2 c), e]
    exact rv_no (fun z => c (by rw [jr.2.1.1] at z; exact z.1))
theorem eq_journal (r : RQ S M) (_ : KI S 82) (mi : MI M) (x1 x2 : Int32) (e : v = f_Y10_journal S 82 x1 x2) : v = (f_X12_journal M x1 x2).1 := by
  obtain ⟨a, l, T, col, z, g0, g4, as, q1, t⟩ := rv_o r
  have h7 := mi.1.2.1
  have jr := q1.2.2.2.1
  have e5 : (5 : Int32).toInt = 5 := by decide
  have e7 : (7 : Int32).toInt = 7 := by decide
  have e6 : (6 : Int32).toInt = 6 := by decide
  have n7 : (7 : Int32).toNatClampNeg = 7 := by decide
  obtain ⟨s1, s2⟩ := rv_in (v := x1) (n := M.2.1.1 7) ⟨by omega, by omega⟩
  have k7 : iK S (a + 7) 2 := as.w0.1.2.2.2.2.1
  unfold f_Y10_journal b_Y10_journal_21 at e
  rw [g0, Option.getD_some, as.g4, Option.getD_some] at e
  unfold f_X12_journal b_X12_journal_43 b_X12_journal_44
  by_cases c : 0 ≤ x1.toInt ∧ x1.toInt < (M.2.1.1 7).toInt
  · rw [if_neg (s1 c)]
    by_cases d : 0 ≤ x2.toInt ∧ x2.toInt ≤ 5
    · rw [if_neg (by rw [in_f, if_pos ⟨by rw [i0]; exact d.1, by rw [e5]; exact d.2⟩]; exact h10)]
      rw [if_pos (iLe.mpr (by rw [e5]; exact d.2))] at e
      have n1 := iNat c.1
      have n2 := iNat d.1
      have n8 := iNat h7.1
      have av := at_v as.ci.wf k7 (i := x1) (j := x2) (e := (M.2.1.1 7).toNatClampNeg) (n := x1.toNatClampNeg) (m := x2.toNatClampNeg) (C := 7) (by rw [jr.1.1]; exact n8.symm) jr.2.2.1.1 ⟨n1.symm, by omega⟩ ⟨n2.symm, by rw [e7]; omega⟩ (by rw [e7, n8]; have := jr.1.2.1; omega)
      rw [e, av, n7]
      have m := iMul (x := 6) (y := x1) (n := 6 * x1.toInt) (by rw [e6]) (by omega) (by omega)
      have a' := iAdd (x := 6 * x1) (y := x2) (by rw [m]; omega) (by rw [m]; omega)
      rw [m] at a'
      have k1 := iNat (x := 6 * x1 + x2) (by omega)
      have ix : ((6 * x1) + x2).toNatClampNeg = 6 * x1.toNatClampNeg + x2.toNatClampNeg := by omega
      rw [ix]
      exact jr.1.2.2 _ _ (by omega) (by omega)
    · rw [if_pos (by rw [in_f, if_neg (fun z => d ⟨by have := z.1; rw [i0] at this; exact this, by have := z.2; rw [e5] at this; exact this⟩)]), e]
      by_cases y : x2 ≤ 5
      · rw [if_pos y]
        have y := iLe.mp y
        rw [e5] at y
        exact rv_no (fun z => d ⟨z.2.1, y⟩)
      · rw [if_neg y]
  · rw [if_pos (s2 c), e]
    by_cases y : x2 ≤ 5
    · rw [if_pos y]
      exact rv_no (fun z => c (by rw [jr.1.1] at z; exact z.1))
    · rw [if_neg y]
/-- the lowest one of a row -/
theorem rv_lo (as : AS x S T col S1 T1 c1) (r : RR wF N S1 T1 x H) {g : Nat} (hg : g < 10) : (hN H g = 0 → f_Y5_at S1 (rP x g) 0 = none) ∧ (0 < hN H g → ∃ q, f_Y5_at S1 (rP x g) 0 = some q ∧ mR S1 q H (hM H g 0) ∧ iK S1 q 3) := by
  have w := r.2.1 g hg
  have k := rP_k as.ci.wf as.k1 hg
  refine ⟨fun z => at_n as.ci (noE_n _) k (Or.inr (by rw [i0]; omega)), fun z => ?_⟩
  have hl : 0 < (T1 (rP x g)).length := by omega
  have e := at_s as.ci (noE_n _) k (i := 0) (by rw [i0]; exact Int.le_refl _) (by rw [i0]; omega)
  rw [zn0] at e
  exact ⟨_, e, w.2 0 hl, as.m3 (gD_mem hl)⟩
theorem eq_count (r : RQ S M) (_ : KI S 82) (mi : MI M) (x1 : Int32) (e : v = f_Y10_count S 82 x1) : v = (f_X12_count M x1).1 := by
  obtain ⟨a, l, T, col, z, g0, g4, as, q1, t⟩ := rv_o r
  have h := mi.1
  have ra := h.1.ra
  have ar := q1.2.2.2.2.1.1
  unfold f_Y10_count b_Y10_count_202 at e
  rw [g0, g4, Option.getD_some, Option.getD_some, as.g0, as.g1, as.g2, as.g4, as.w0.2.1.2.2.2.2.2.1, as.w0.2.1.2.2.2.2.2.2] at e
  simp only [Option.getD_some] at e
  rw [e]
  unfold f_X12_count b_X12_count_170
  by_cases d0 : x1 = 0
  · rw [if_pos d0, if_pos d0]
    exact q1.1.1.1
  rw [if_neg d0, if_neg d0]
  by_cases d1 : x1 = 1
  · rw [if_pos d1, if_pos d1]
    exact q1.1.1.2.1
  rw [if_neg d1, if_neg d1]
  by_cases d2 : x1 = 2
  · rw [if_pos d2, if_pos d2]
    exact q1.1.1.2.2.1
  rw [if_neg d2, if_neg d2]
  by_cases d3 : x1 = 3
  · rw [if_pos d3, if_pos d3]
    exact q1.1.1.2.2.2.1
  rw [if_neg d3, if_neg d3]
  by_cases d4 : x1 = 4
  · rw [if_pos d4, if_pos d4]
    exact q1.1.1.2.2.2.2.1
  rw [if_neg d4, if_neg d4]
  by_cases d5 : x1 = 5
  · rw [if_pos d5, if_pos d5]
    exact q1.1.1.2.2.2.2.2
  rw [if_neg d5, if_neg d5]
  by_cases d6 : x1 = 6
  · rw [if_pos d6, if_pos d6]
    exact rr_z as q1.2.1
  rw [if_neg d6, if_neg d6]
  by_cases d7 : x1 = 7
  · rw [if_pos d7, if_pos d7]
    obtain ⟨n0, n1⟩ := rv_lo as q1 (g := 1) (by omega)
    have o := q1.2.2.1.1
    have w5 := as.ci.wf.w5 as.k5
    unfold f_Y6_kind b_Y6_kind_32
    rw [w5.2, Option.getD_some]
    by_cases y : M.2.1.1 35 = 0
    · have n0' : f_Y5_at S (a + 3 + 1) 0 = none := n0 (by show (M.2.1.1 35).toInt = 0; rw [y]; exact i0)
      rw [o.1 y, if_neg (by decide), if_pos n0', if_pos y]
    · have y' := mt iEq.mpr y
      rw [i0] at y'
      obtain ⟨q, eq, mu, -⟩ := n1 (by show 0 < (M.2.1.1 35).toInt; have := ra.2.2.1.1; omega)
      rw [if_neg y, o.2 y]
      by_cases y2 : M.2.1.1 36 = 0
      · rw [if_pos y2, if_pos y2, if_neg (by decide)]
        have eq : f_Y5_at S (a + 3 + 1) 0 = some q := eq
        rw [eq, if_neg (fun z => by cases z), Option.getD_some, zn0]
        exact mu.1.1
      · rw [if_neg y2, if_neg y2, if_pos rfl]
  rw [if_neg d7, if_neg d7]
  by_cases d8 : x1 = 8
  · rw [if_pos d8, if_pos d8]
    exact q1.j7
  rw [if_neg d8, if_neg d8]
  by_cases d9 : x1 = 9
  · rw [if_pos d9, if_pos d9]
    exact q1.2.2.2.1.2.1.1
  rw [if_neg d9, if_neg d9]
  by_cases d10 : x1 = 10
  · rw [if_pos d10, if_pos d10, ar.1.1]
    by_cases y : M.2.1.1 9 = 0
    · rw [if_pos y]
      exact (ar.2.2.1 y).1.symm
    · rw [if_neg y]
      exact ar.2.2.2.1 y
  rw [if_neg d10, if_neg d10]
  by_cases d11 : x1 = 11
  · rw [if_pos d11, if_pos d11]
    exact ar.1.1
  rw [if_neg d11, if_neg d11]
  by_cases d12 : x1 = 12
  · rw [if_pos d12, if_pos d12]
    exact t
  rw [if_neg d12, if_neg d12]
theorem eq_lying (r : RQ S M) (_ : KI S 82) (mi : MI M) (x1 x2 : Int32) (e : v = f_Y10_lying S 82 x1 x2) : v = (f_X12_lying M x1 x2).1 := by
  obtain ⟨a, l, T, col, z, g0, g4, as, q1, t⟩ := rv_o r
  have h := mi.1
  obtain ⟨p0, p1⟩ := pl_v as q1.2.2.1 x1
  unfold f_Y10_lying b_Y10_lying_22 at e
  rw [g0, Option.getD_some] at e
  unfold f_X12_lying b_X12_lying_22 b_X12_lying_75
  by_cases c : f_X12_in x1 0 7 = 0
  · rw [p0 c, if_pos rfl] at e
    rw [e, if_pos c]
  obtain ⟨ep, hp, hx, -⟩ := p1 c
  have hn : ¬ f_Y0_placeAt S a x1 = none := by
    rw [ep]
    exact fun z => by cases z
  have k5 := i_place as.ci.wf as.k1 hn
  rw [ep] at k5
  have w5 := as.ci.wf.w5 (ir_so.mp k5)
  rw [ep, if_neg (fun z => by cases z), Option.getD_some] at e
  unfold f_Y6_wordAt b_Y6_wordAt_25 at e
  rw [w5.2, Option.getD_some] at e
  obtain ⟨n0, n1⟩ := rv_lo as q1 (g := x1.toNatClampNeg + 2) (by omega)
  have n0 : (M.2.1.2 34 x1.toNatClampNeg).toInt = 0 → f_Y5_at S (a + 13 + 3 * x1.toNatClampNeg + 1) 0 = none := n0
  have n1 : 0 < (M.2.1.2 34 x1.toNatClampNeg).toInt → ∃ q, f_Y5_at S (a + 13 + 3 * x1.toNatClampNeg + 1) 0 = some q ∧ mR S q M.2.1 (M.2.1.2 33 (9 * x1.toNatClampNeg + 0)).toNatClampNeg ∧ iK S q 3 := n1
  rw [if_neg c]
  by_cases y : M.2.1.2 34 x1.toNatClampNeg = 0
  · rw [n0 (by rw [y]; exact i0), if_pos rfl] at e
    rw [e, if_pos y]
  have y' := mt iEq.mpr y
  rw [i0] at y'
  have hb := (h.1.1.1 (x1.toNatClampNeg + 2) (by omega)).1
  have hb : 0 ≤ (M.2.1.2 34 x1.toNatClampNeg).toInt := hb
  obtain ⟨q, eq, mu, k3⟩ := n1 (by omega)
  have li := lies h hx y
  have e9 : (9 : Int32).toInt = 9 := by decide
  have m9 := iMul (x := 9) (y := x1) (n := 9 * x1.toInt) (by rw [e9]) (by omega) (by omega)
  have kx := iNat hx.1
  have k9 := iNat (x := 9 * x1) (by omega)
  have i9 : (9 * x1).toNatClampNeg = 9 * x1.toNatClampNeg + 0 := by omega
  rw [eq, if_neg (fun z => by cases z), Option.getD_some] at e
  rw [i9] at li
  rw [if_neg y, i9, e]
  obtain ⟨w1, w2⟩ := rv_mw mu as.ci.wf k3 x2
  obtain ⟨s1, s2⟩ := rv_in (v := x2) (n := M.2.1.2 19 (M.2.1.2 33 (9 * x1.toNatClampNeg + 0)).toNatClampNeg) ⟨by have := li.2.2.1; omega, by have := li.2.2.2; omega⟩
  by_cases d : 0 ≤ x2.toInt ∧ x2.toInt < (M.2.1.2 19 (M.2.1.2 33 (9 * x1.toNatClampNeg + 0)).toNatClampNeg).toInt
  · rw [w1 d, if_neg (s1 d), rv_ix li.2.1 ⟨d.1, by have := li.2.2.2; have := d.2; omega⟩]
  · rw [w2 d, if_pos (s2 d)]
/-- the minutes followed -/
theorem rv_fol (F : Nat → Int32) (G : HS) (e : Int32) (he : e.toInt ≤ 600) : ∀ (n : Nat) (k : Int32), 0 ≤ k.toInt → k.toInt ≤ e.toInt → e.toInt - k.toInt < n → lp_X11_follow_2 F n (fol F G k.toNatClampNeg) e k = (0, fol F G e.toNatClampNeg) := by
  intro n
  induction n with
  | zero => intro k h1 h2 h3; omega
  | succ n ih =>
    intro k h1 h2 h3
    have kk := iNat h1
    rw [lp_X11_follow_2]
    unfold st_X11_follow_2 b_X11_follow_a45
    by_cases d : e ≤ k
    · have d' := iLe.mp d
      have ek : k = e := iEq.mpr (by omega)
      rw [if_pos d, ek]
    · rw [if_neg d]
      have d := mt iLe.mpr d
      have e1 := iAdd (x := k) (y := 1) (by rw [i1]; omega) (by rw [i1]; omega)
      rw [i1] at e1
      have en : (k + 1).toNatClampNeg = k.toNatClampNeg + 1 := by have := iNat (x := k + 1) (by omega); omega
      have j0 := (n6 (y := k) ⟨h1, by omega⟩ (j := 0) (by decide)).1
      have j1 := (n6 (y := k) ⟨h1, by omega⟩ (j := 1) (by decide)).2
      have j2 := (n6 (y := k) ⟨h1, by omega⟩ (j := 2) (by decide)).2
      have j3 := (n6 (y := k) ⟨h1, by omega⟩ (j := 3) (by decide)).2
      have j4 := (n6 (y := k) ⟨h1, by omega⟩ (j := 4) (by decide)).2
      have z1 : (1 : Int32).toNatClampNeg = 1 := by decide
      have z2 : (2 : Int32).toNatClampNeg = 2 := by decide
      have z3 : (3 : Int32).toNatClampNeg = 3 := by decide
      have z4 : (4 : Int32).toNatClampNeg = 4 := by decide
      rw [z1] at j1
      rw [z2] at j2
      rw [z3] at j3
      rw [z4] at j4
      have q := ih (k + 1) (by omega) (by omega) (by omega)
      rw [en, fol] at q
      rw [j0, j1, j2, j3, j4]
      exact q
theorem eq_before (r : RQ S M) (_ : KI S 82) (mi : MI M) (x1 x2 x3 : Int32) (e : f_Y10_before S 82 x1 x2 x3 = (v, S2)) : v = (f_X12_before M x1 x2 x3).1 := by
  obtain ⟨a, b, r2, r3, l, T, col, h, c⟩ := r
  have wa := h.ci.wf.w0 (KJ.ka h)
  have g3 : giC S (a + 7) 3 = M.2.1.1 7 := by
    obtain ⟨⟨z, q1, -⟩, -⟩ := c
    exact q1.j7
  have b7 := mi.1.2.1
  unfold f_Y10_before b_Y10_before_18 b_Y10_before_46a at e
  rw [h.g0, h.g1, Option.getD_some, Option.getD_some, wa.2.1.1, wa.2.1.2.2.2.2.1, Option.getD_some, Option.getD_some, g3] at e
  unfold f_X12_before b_X12_before_a31 b_X12_before_a55
  by_cases c1 : x1 < 0
  · rw [if_pos c1] at e
    obtain ⟨rfl, rfl⟩ := Prod.mk.inj e
    have c1 := iLt.mp c1
    rw [if_pos (by rw [in_f, if_neg (fun z => by omega)])]
  · rw [if_neg c1] at e
    have c1 := mt iLt.mpr c1
    rw [i0] at c1
    by_cases c2 : x1 ≤ M.2.1.1 7
    · rw [if_pos c2] at e
      have c2 := iLe.mp c2
      rw [if_neg (by rw [in_f, if_pos ⟨by rw [i0]; omega, c2⟩]; exact h10)]
      obtain ⟨S3, T3, f, k3, ct, tb⟩ := tr_beg h c mi
      obtain ⟨S4, T4, c4, f4, k4, ct4, tb4⟩ := bef_l x2 x3 x1 c2 mi.1.2.1 100000 S3 T3 col 0 _ k3 ct (by rw [zn0]; rfl) tb (by rw [i0]; omega) (by rw [i0]; omega) (by rw [i0]; have := mi.1.2.1.2; omega)
      rw [f] at e
      simp only at e
      rw [f4] at e
      obtain ⟨rfl, -⟩ := Prod.mk.inj e
      have fo := rv_fol (M.2.1.2 40) (f_X11_begin M.2.2 (M.2.1.1 0)).2 x1 (by omega) 100000 0 (by rw [i0]; omega) (by rw [i0]; omega) (by rw [i0]; omega)
      rw [zn0] at fo
      obtain ⟨w, rr, ha⟩ := tb4
      have tx := rv_text (k4.as (KJ.mb k4)) rr ha x2 x3
      generalize f_X11_begin M.2.2 (M.2.1.1 0) = B at fo tx
      have m1 : (mS M B.2).2.1 = M.2.1 := rfl
      have m2 : (mS M B.2).2.2 = B.2 := rfl
      rw [m1, m2]
      have fo : f_X11_follow (M.2.1.2 40) B.2 x1 = (0, fol (M.2.1.2 40) B.2 x1.toNatClampNeg) := fo
      rw [fo]
      exact tx
    · rw [if_neg c2] at e
      obtain ⟨rfl, rfl⟩ := Prod.mk.inj e
      have c2 := mt iLe.mpr c2
      rw [if_pos (by rw [in_f, if_neg (fun z => c2 z.2)])]
end
