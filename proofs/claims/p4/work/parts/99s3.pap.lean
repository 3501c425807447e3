/-! ===== the reasons on paper ===== -/
section
variable {wF : Prop × (Nat → Int32) × Int32 × (Nat → Int32)} {x : Nat} {S S1 S2 : Cst} {T T1 : Nat → List Nat} {col c1 : Nat → Nat} {H : HS} {N : Int}
theorem in_01v (v lo hi : Int32) : (if f_X12_in v lo hi = 0 then (0 : Int32) else 1) = f_X12_in v lo hi := by
  rw [in_f]
  by_cases h : lo.toInt ≤ v.toInt ∧ v.toInt ≤ hi.toInt
  · rw [if_pos h, if_neg h10]
  · rw [if_neg h, if_pos rfl]
theorem hd_v (h : RA H) (lo hi : Int32) : (f_X11_hasDraft H lo hi).1 = if H.1 35 = 0 then 0 else if H.1 36 = 0 then f_X12_in (H.2 14 (H.2 32 0).toNatClampNeg) lo hi else 0 := by
  have b := h.2.2.1
  unfold f_X11_hasDraft b_X11_hasDraft_37 b_X11_hasDraft_38
  rw [zn0]
  by_cases z : H.1 35 = 0
  · rw [if_pos z, if_pos (by rw [z]; decide)]
  · have z' := mt iEq.mpr z
    rw [i0] at z'
    rw [if_neg z, if_neg (fun y => by have := iLe.mp y; rw [i0] at this; omega)]
    by_cases y : H.1 36 = 0
    · rw [if_pos y, if_pos y, ← in_01v]
      split <;> rfl
    · rw [if_neg y, if_neg y]
theorem am_v {S1 : Cst} {q : Nat} {H : HS} {m : Nat} (mu : mR S1 q H m) : f_Y4_amends S1 q = if H.2 14 m = 2 then 1 else if H.2 14 m = 3 then 1 else 0 := by
  unfold f_Y4_amends b_Y4_amends_16 b_Y4_amends_21
  rw [mu.1.1]
theorem am_in (k : Int32) : f_X12_in k 2 3 = if k = 2 then 1 else if k = 3 then 1 else 0 := by
  rw [in_f]
  have e2 : (2 : Int32).toInt = 2 := by decide
  have e3 : (3 : Int32).toInt = 3 := by decide
  rw [e2, e3]
  by_cases d2 : k = 2
  · subst d2
    simp
  by_cases d3 : k = 3
  · subst d3
    simp
  have n2 := mt iEq.mpr d2
  have n3 := mt iEq.mpr d3
  rw [e2] at n2
  rw [e3] at n3
  rw [if_neg (fun y => by omega), if_neg d2, if_neg d3]
theorem tx_v {S1 : Cst} {q : Nat} {H : HS} {m : Nat} (mu : mR S1 q H m) (wf : wfS S1) (k : iK S1 q 3) : giC S1 ((grC S1 q 12).getD 0) 1 = H.2 19 m := by
  rw [(wf.w3 k).2.1.1, Option.getD_some]
  exact mu.2.2.2.1.1
theorem rs_10 (i b c d : Int32) : f_Y8_againstOnPaper S1 x 10 i b c d = (f_X11_reason H 10 i b c d).1 := by
  unfold f_X11_reason
  rw [if_neg (by decide), if_neg (by decide), if_neg (by decide), if_neg (by decide), if_neg (by decide), if_neg (by decide), if_neg (by decide), if_neg (by decide), if_neg (by decide), if_pos rfl]
  unfold f_Y8_againstOnPaper
  rw [if_pos rfl, in_if2]
  unfold b_Y8_againstOnPaper_47 b_Y8_againstOnPaper_53 b_X11_reason_454
  by_cases z : f_X12_in i 1 8 = 0 <;> simp [z]
theorem rs_11 (a : AS x S T col S1 T1 c1) (r : RR wF N S1 T1 x H) (h : HA H) (i b c d : Int32) : f_Y8_againstOnPaper S1 x 11 i b c d = (f_X11_reason H 11 i b c d).1 := by
  unfold f_X11_reason
  rw [if_neg (by decide), if_neg (by decide), if_neg (by decide), if_neg (by decide), if_neg (by decide), if_neg (by decide), if_neg (by decide), if_neg (by decide), if_neg (by decide), if_neg (by decide), if_pos rfl]
  unfold f_Y8_againstOnPaper
  rw [if_neg (by decide), if_pos rfl]
  unfold f_Y8_againstSpan b_X11_reason_a461 b_X11_reason_478 b_X11_reason_510 b_X11_reason_516
  rw [a.g2, Option.getD_some, hd_v h.1.ra, hasDraft_s, zn0]
  obtain ⟨d0, d1⟩ := rr_dr a r.2.1 r.2.2.1 h.1
  by_cases z1 : H.1 35 = 0
  · rw [d0 (Or.inl z1)]
    simp [z1, b_Y8_againstSpan_26]
  by_cases z2 : H.1 36 = 0
  rotate_left
  · rw [d0 (Or.inr z2)]
    simp [z1, z2, b_Y8_againstSpan_26]
  obtain ⟨q, eq, mu, lq, -⟩ := d1 z1 z2
  rw [eq]
  simp only [z1, z2, if_true, if_false, reduceCtorEq, Option.getD_some]
  simp only [am_v mu, am_in, lq]
  unfold b_Y8_againstSpan_26 b_Y8_againstSpan_45 b_Y8_againstSpan_51
  generalize H.2 14 (H.2 32 0).toNatClampNeg = k
  generalize H.2 25 (H.2 32 0).toNatClampNeg = l
  have e4 : (400 : Int32).toInt = 400 := by decide
  have key : (if i < 0 then (9 : Int32) else if b < i then 9 else if b ≤ 400 then 0 else 9) = if f_X12_in i 0 400 = 0 then 9 else if f_X12_in b 0 400 = 0 then 9 else if i ≤ b then 0 else 9 := by
    rw [in_f, in_f, i0, e4]
    by_cases q1 : i < 0
    · have := iLt.mp q1
      rw [i0] at this
      rw [if_pos q1, if_neg (show ¬ (0 ≤ i.toInt ∧ i.toInt ≤ 400) from fun y => by omega), if_pos rfl]
    have q1' := mt iLt.mpr q1
    rw [i0] at q1'
    rw [if_neg q1]
    by_cases q2 : b < i
    · have := iLt.mp q2
      rw [if_pos q2, if_neg (show ¬ i ≤ b from fun y => by have := iLe.mp y; omega)]
      simp
    have q2' := mt iLt.mpr q2
    rw [if_neg q2, if_pos (show i ≤ b from iLe.mpr (by omega))]
    by_cases q3 : b ≤ 400
    · have := iLe.mp q3
      rw [e4] at this
      rw [if_pos q3, if_pos (⟨by omega, by omega⟩ : 0 ≤ i.toInt ∧ i.toInt ≤ 400), if_neg h10, if_pos (⟨by omega, by omega⟩ : 0 ≤ b.toInt ∧ b.toInt ≤ 400), if_neg h10]
    · have := mt iLe.mpr q3
      rw [e4] at this
      rw [if_neg q3, if_neg (show ¬ (0 ≤ b.toInt ∧ b.toInt ≤ 400) from fun y => by omega), if_pos rfl]
      simp
  by_cases y1 : k = 2
  · by_cases y2 : l = 0
    · simp only [y1, y2, if_true, h10, if_false]
      rw [key]
      split
      · rfl
      · split
        · rfl
        · split <;> rfl
    · simp [y1, y2]
  · by_cases y3 : k = 3
    · by_cases y2 : l = 0
      · subst y3
        simp only [y1, y2, if_true, h10, if_false]
        rw [key]
        split
        · rfl
        · split
          · rfl
          · split <;> rfl
      · simp [y1, y2, y3]
    · simp [y1, y3]
theorem woz_v (v : Int32) : f_Y8_isWordOrZero S1 v = f_X12_in v 0 30000 := by
  unfold f_Y8_isWordOrZero b_Y8_isWordOrZero_15 b_Y8_isWordOrZero_16
  rw [in_if, in_01v]
theorem wd_1 (v : Int32) : (f_X11_isWord v = 0) ↔ (v = 0 ∨ f_X12_in v 0 30000 = 0) := by
  unfold f_X11_isWord
  have e3 : (30000 : Int32).toInt = 30000 := by decide
  rw [in_f, in_f, i0, i1, e3]
  by_cases z : v = 0
  · subst z
    simp
  · have z' := mt iEq.mpr z
    rw [i0] at z'
    by_cases q : 0 ≤ v.toInt ∧ v.toInt ≤ 30000
    · rw [if_pos (show 1 ≤ v.toInt ∧ v.toInt ≤ 30000 from ⟨by omega, by omega⟩), if_pos q]
      simp [z]
    · rw [if_neg (show ¬ (1 ≤ v.toInt ∧ v.toInt ≤ 30000) from fun y => q ⟨by omega, by omega⟩), if_neg q]
      simp
theorem rs_12 (a : AS x S T col S1 T1 c1) (r : RR wF N S1 T1 x H) (h : HA H) (i b c d : Int32) : f_Y8_againstOnPaper S1 x 12 i b c d = (f_X11_reason H 12 i b c d).1 := by
  unfold f_X11_reason
  rw [if_neg (by decide), if_neg (by decide), if_neg (by decide), if_neg (by decide), if_neg (by decide), if_neg (by decide), if_neg (by decide), if_neg (by decide), if_neg (by decide), if_neg (by decide), if_neg (by decide), if_pos rfl]
  unfold f_Y8_againstOnPaper
  rw [if_neg (by decide), if_neg (by decide), if_pos rfl]
  unfold b_X11_reason_a527 f_Y8_againstWord f_X11_reasonOfWord b_X11_reasonOfWord_a6
  rw [a.g2, Option.getD_some, hd_v h.1.ra, hasDraft_s, zn0]
  obtain ⟨d0, d1⟩ := rr_dr a r.2.1 r.2.2.1 h.1
  by_cases z1 : H.1 35 = 0
  · rw [d0 (Or.inl z1)]
    simp [z1, b_Y8_againstWord_31, b_X11_reasonOfWord_23]
  by_cases z2 : H.1 36 = 0
  rotate_left
  · rw [d0 (Or.inr z2)]
    simp [z1, z2, b_Y8_againstWord_31, b_X11_reasonOfWord_23]
  obtain ⟨q, eq, mu, lq, hq⟩ := d1 z1 z2
  have kq : iK S1 q 3 := a.m3 (c := x + 4) (by rw [hq]; exact List.mem_singleton.mpr rfl)
  have uw : 1 ≤ (H.2 14 (H.2 32 0).toNatClampNeg).toInt := by
    have z1' := mt iEq.mpr z1
    rw [i0] at z1'
    have b := (h.1.1.1 1 (by omega)).1
    have e1 : hN H 1 = (H.1 35).toInt := rfl
    exact (h.1.1.2.2.2.2.1 1 0 ⟨by omega, by omega⟩).1.1
  rw [eq]
  simp only [z1, z2, if_true, if_false, reduceCtorEq, Option.getD_some]
  unfold b_Y8_againstWord_31 b_Y8_againstWord_67 b_Y8_againstWord_80 b_Y8_againstWord_90 b_Y8_againstWord_101 b_Y8_againstWord_127 b_X11_reasonOfWord_23 b_X11_reasonOfWord_44 b_X11_reasonOfWord_55 b_X11_reasonOfWord_68 b_X11_reasonOfWord_71 b_X11_reasonOfWord_81 b_X11_reasonOfWord_91 b_X11_reasonOfWord_102 b_X11_reasonOfWord_131
  simp only [Option.getD_some, tx_v mu a.ci.wf kq, mu.1.1, lq, woz_v, zn0]
  have k5 : (f_X12_in (H.2 14 (H.2 32 0).toNatClampNeg) 1 5 = 0) ↔ 5 < H.2 14 (H.2 32 0).toNatClampNeg := by
    have e5 : (5 : Int32).toInt = 5 := by decide
    rw [in_f, i1, e5]
    by_cases y : 5 < H.2 14 (H.2 32 0).toNatClampNeg
    · have := iLt.mp y
      rw [e5] at this
      rw [if_neg (fun w => by omega)]
      simp [y]
    · have := mt iLt.mpr y
      rw [e5] at this
      rw [if_pos (show 1 ≤ (H.2 14 (H.2 32 0).toNatClampNeg).toInt ∧ (H.2 14 (H.2 32 0).toNatClampNeg).toInt ≤ 5 from ⟨uw, by omega⟩)]
      simp [y]
  simp only [k5, wd_1]
  by_cases y1 : 5 < H.2 14 (H.2 32 0).toNatClampNeg
  · simp only [y1, if_true]
  simp only [y1, if_false]
  by_cases y2 : H.2 25 (H.2 32 0).toNatClampNeg = 0
  rotate_left
  · simp only [y2, if_false]
  simp only [y2, if_true]
  by_cases w1 : i = 0
  · simp only [w1, true_or, if_true]
  by_cases w2 : f_X12_in i 0 30000 = 0
  · simp only [w1, w2, or_true, if_true, if_false]
  simp only [w1, w2, or_self, if_false]
  have zz : ∀ v : Int32, v = 0 → ¬ f_X12_in v 0 30000 = 0 := fun v e => by
    rw [e]
    decide
  by_cases b0 : b = 0
  · have nb := zz b b0
    by_cases c0 : c = 0
    · have nc := zz c c0
      by_cases d0 : d = 0
      · have nd := zz d d0
        simp only [b0, c0, d0, zz 0 rfl, if_true, if_false]
        split <;> rfl
      · by_cases nd : f_X12_in d 0 30000 = 0
        · simp only [b0, c0, d0, nd, zz 0 rfl, if_true, if_false, false_or]
        · simp only [b0, c0, d0, nd, zz 0 rfl, if_true, if_false, or_self]
          split <;> rfl
    · by_cases nc : f_X12_in c 0 30000 = 0
      · simp only [b0, c0, nc, zz 0 rfl, if_true, if_false, false_or]
      · by_cases d0 : d = 0
        · simp only [b0, c0, d0, nc, zz 0 rfl, if_true, if_false, or_self]
          split <;> rfl
        · by_cases nd : f_X12_in d 0 30000 = 0
          · simp only [b0, c0, d0, nc, nd, zz 0 rfl, if_true, if_false, false_or, or_self]
          · simp only [b0, c0, d0, nc, nd, zz 0 rfl, if_true, if_false, or_self]
            split <;> rfl
  · by_cases nb : f_X12_in b 0 30000 = 0
    · simp only [b0, nb, if_true, if_false, false_or]
    · by_cases c0 : c = 0
      · by_cases d0 : d = 0
        · simp only [b0, nb, c0, d0, zz 0 rfl, if_true, if_false, or_self]
          split <;> rfl
        · by_cases nd : f_X12_in d 0 30000 = 0
          · simp only [b0, nb, c0, d0, nd, zz 0 rfl, if_true, if_false, false_or, or_self]
          · simp only [b0, nb, c0, d0, nd, zz 0 rfl, if_true, if_false, or_self]
            split <;> rfl
      · by_cases nc : f_X12_in c 0 30000 = 0
        · simp only [b0, nb, c0, nc, if_true, if_false, false_or, or_self]
        · by_cases d0 : d = 0
          · simp only [b0, nb, c0, nc, d0, zz 0 rfl, if_true, if_false, or_self]
            split <;> rfl
          · by_cases nd : f_X12_in d 0 30000 = 0
            · simp only [b0, nb, c0, nc, d0, nd, if_true, if_false, false_or, or_self]
            · simp only [b0, nb, c0, nc, d0, nd, if_true, if_false, or_self]
              split <;> rfl
/-! places -/
theorem em_e (o : oR S1 T1 x H) {p : Nat} (hp : p < 8) : giC S1 (x + 13 + 3 * p) 0 = 0 ↔ H.2 34 p = 0 := by
  have q := o.2.1 p hp
  refine ⟨fun e => Classical.byContradiction (fun n => ?_), q.1⟩
  have e2 := q.2 n
  rw [e] at e2
  by_cases t : H.2 37 p = 0
  · rw [if_pos t] at e2
    by_cases u : H.2 27 (hM H (p + 2) 0) = 0
    · rw [if_pos u] at e2
      exact absurd e2 (by decide)
    · rw [if_neg u] at e2
      exact absurd e2 (by decide)
  · rw [if_neg t] at e2
    exact absurd e2 (by decide)
theorem pl_v (a : AS x S T col S1 T1 c1) (o : oR S1 T1 x H) (i : Int32) : (f_X12_in i 0 7 = 0 → f_Y0_placeAt S1 x i = none) ∧ (¬ f_X12_in i 0 7 = 0 → f_Y0_placeAt S1 x i = some (x + 13 + 3 * i.toNatClampNeg) ∧ i.toNatClampNeg < 8 ∧ (0 ≤ i.toInt ∧ i.toInt ≤ 7) ∧ f_Y6_isEmpty S1 (x + 13 + 3 * i.toNatClampNeg) = if H.2 34 i.toNatClampNeg = 0 then 1 else 0) := by
  have e7 : (7 : Int32).toInt = 7 := by decide
  have e8 : (8 : Int32).toInt = 8 := by decide
  refine ⟨fun z => ?_, fun z => ?_⟩
  · rw [in_f, i0, e7] at z
    have n : ¬ (0 ≤ i.toInt ∧ i.toInt ≤ 7) := fun y => by
      rw [if_pos y] at z
      exact h10 z
    unfold f_Y0_placeAt b_Y0_placeAt_10 b_Y0_placeAt_20
    by_cases q1 : i < 0
    · rw [if_pos q1]
    · have := mt iLt.mpr q1
      rw [i0] at this
      rw [if_neg q1, if_neg (fun y => by have := iLt.mp y; rw [e8] at this; omega)]
  · have b := in_of z
    rw [i0, e7] at b
    have k := iNat b.1
    have hp : i.toNatClampNeg < 8 := by omega
    refine ⟨pa_v a.ci.wf a.k1 hp (by omega), hp, b, ?_⟩
    unfold f_Y6_isEmpty b_Y6_isEmpty_12
    by_cases e : H.2 34 i.toNatClampNeg = 0
    · rw [if_pos e, if_pos ((em_e o hp).mpr e)]
    · rw [if_neg e, if_neg (fun y => e ((em_e o hp).mp y))]
theorem fp_l (a : AS x S T col S1 T1 c1) (o : oR S1 T1 x H) : ∀ (n : Nat) (y b : Int32), 0 ≤ b.toInt → b.toInt ≤ 8 → 8 - b.toInt < n → lp_Y0_freePlaces_4 S1 x n y b = (lp_X11_freePlaces_4 n H y b).1 := by
  have e8 : (8 : Int32).toInt = 8 := by decide
  intro n
  induction n with
  | zero => intro y b h1 h2 h3; omega
  | succ n ih =>
    intro y b h1 h2 h3
    rw [lp_Y0_freePlaces_4, lp_X11_freePlaces_4]
    by_cases c : 8 ≤ b
    · unfold st_Y0_freePlaces_4 st_X11_freePlaces_4
      rw [if_pos c, if_pos c]
    · have c' := mt iLe.mpr c
      rw [e8] at c'
      have e1 := iAdd (x := b) (y := 1) (by rw [i1]; omega) (by rw [i1]; omega)
      rw [i1] at e1
      have k := iNat h1
      rw [st_free a.ci.wf a.k1 h1 (by omega)]
      unfold st_X11_freePlaces_4 b_X11_freePlaces_25
      rw [if_neg c]
      by_cases z : H.2 34 b.toNatClampNeg = 0
      · rw [if_pos z, if_pos ((em_e o (by omega)).mpr z)]
        exact ih (y + 1) (b + 1) (by omega) (by omega) (by omega)
      · rw [if_neg z, if_neg (fun w => z ((em_e o (by omega)).mp w))]
        have ez : y + 0 = y := Int32.add_zero y
        rw [ez]
        exact ih y (b + 1) (by omega) (by omega) (by omega)
theorem fp_v (a : AS x S T col S1 T1 c1) (o : oR S1 T1 x H) : f_Y0_freePlaces S1 x = (f_X11_freePlaces H).1 := fp_l a o 100000 0 0 (by rw [i0]; omega) (by rw [i0]; omega) (by rw [i0]; omega)
theorem np_l (a : AS x S T col S1 T1 c1) (w : wR S1 T1 x H) (h : RA H) : ∀ (n : Nat) (b : Int32), 0 ≤ b.toInt → b.toInt ≤ 9 → 9 - b.toInt < n → lp_Y5_needsPlace_2 S1 (x + 1) n b = (lp_X11_wantsPlace_2 n H b).1 := by
  intro n
  induction n with
  | zero => intro b h1 h2 h3; omega
  | succ n ih =>
    intro b h1 h2 h3
    have h6 := h.2.1
    rw [lp_Y5_needsPlace_2, lp_X11_wantsPlace_2]
    unfold st_Y5_needsPlace_2 st_X11_wantsPlace_2
    rw [rr_z a w]
    by_cases c : H.1 6 ≤ b
    · rw [if_pos c, if_pos c]
    · have c' := mt iLe.mpr c
      have e1 := iAdd (x := b) (y := 1) (by rw [i1]; omega) (by rw [i1]; omega)
      rw [i1] at e1
      obtain ⟨q, eq, mu, -, -⟩ := (rr_at a w h b).2 h1 (by omega)
      have i := ih (b + 1) (by omega) (by omega) (by omega)
      rw [if_neg c, if_neg c, eq]
      simp only [reduceCtorEq, if_false, Option.getD_some]
      unfold f_Y4_needsPlace b_Y4_needsPlace_25 b_Y4_needsPlace_30 b_Y5_needsPlace_29 b_X11_wantsPlace_56
      simp only [mu.1.1]
      generalize H.2 14 (H.2 31 b.toNatClampNeg).toNatClampNeg = k
      by_cases d4 : k = 4
      · simp [d4]
      by_cases d5 : k = 5
      · simp [d5]
      by_cases d7 : k = 7
      · simp [d7]
      simp only [d4, d5, d7, if_false, if_true]
      exact i
theorem np_v (a : AS x S T col S1 T1 c1) (w : wR S1 T1 x H) (h : RA H) : f_Y5_needsPlace S1 (x + 1) = (f_X11_wantsPlace H).1 := np_l a w h 100000 0 (by rw [i0]; omega) (by rw [i0]; omega) (by rw [i0]; omega)
end
