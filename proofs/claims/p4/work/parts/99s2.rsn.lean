/-! ===== the reasons are the same, act by act ===== -/
section
variable {wF : Prop × (Nat → Int32) × Int32 × (Nat → Int32)} {x : Nat} {S S1 S2 : Cst} {T T1 : Nat → List Nat} {col c1 : Nat → Nat} {H : HS} {N : Int}
theorem h10 : ¬ ((1 : Int32) = 0) := by decide
theorem in_if {α : Type} (v lo hi : Int32) (A B : α) : (if v < lo then A else if hi < v then A else B) = if f_X12_in v lo hi = 0 then A else B := by
  by_cases h1 : v < lo
  · have q := iLt.mp h1
    have e : f_X12_in v lo hi = 0 := by rw [in_f, if_neg (fun z => by omega)]
    rw [if_pos h1, if_pos e]
  · have a := mt iLt.mpr h1
    rw [if_neg h1]
    by_cases h2 : hi < v
    · have q := iLt.mp h2
      have e : f_X12_in v lo hi = 0 := by rw [in_f, if_neg (fun z => by omega)]
      rw [if_pos h2, if_pos e]
    · have b := mt iLt.mpr h2
      have e : f_X12_in v lo hi = 1 := by rw [in_f, if_pos ⟨by omega, by omega⟩]
      rw [if_neg h2, if_neg (by rw [e]; exact h10)]
theorem in_if2 {α : Type} (v lo hi : Int32) (A B : α) : (if v < lo then A else if v ≤ hi then B else A) = if f_X12_in v lo hi = 0 then A else B := by
  rw [← in_if]
  by_cases h1 : v < lo
  · rw [if_pos h1, if_pos h1]
  · rw [if_neg h1, if_neg h1]
    by_cases h2 : v ≤ hi
    · have := iLe.mp h2
      rw [if_pos h2, if_neg (fun z => by have := iLt.mp z; omega)]
    · have := mt iLe.mpr h2
      rw [if_neg h2, if_pos (iLt.mpr (by omega))]
theorem ab_v (a : AS x S T col S1 T1 c1) (r : hR S1 x H) (h : RA H) (s : Int32) : f_Y8_againstAbsent S1 (x + 37) s = if sE H s then (if H.2 11 s.toNatClampNeg = 0 then 8 else 0) else 9 := by
  unfold f_Y8_againstAbsent b_Y8_againstAbsent_25
  rw [hs_has a r h, hs_there a r h]
  by_cases q : sE H s
  · by_cases z : H.2 11 s.toNatClampNeg = 0 <;> simp [q, z]
  · simp [q]
theorem set_v (a : AS x S T col S1 T1 c1) (w : wR S1 T1 x H) (y : Int32) : f_Y8_againstSetting S1 x y = if y = 0 then 9 else if H.1 6 ≤ 0 then 0 else 11 := by
  unfold f_Y8_againstSetting b_Y8_againstSetting_23
  rw [a.g1, Option.getD_some, rr_z a w]
theorem rs_1 (a : AS x S T col S1 T1 c1) (r : RR wF N S1 T1 x H) (h : HA H) (i b c d : Int32) : f_Y8_againstOnFloor S1 x 1 i b = (f_X11_reason H 1 i b c d).1 := by
  unfold f_X11_reason
  rw [if_pos rfl]
  unfold f_Y8_againstOnFloor
  rw [if_pos rfl, a.g0, Option.getD_some, seat_f h.1.ra]
  unfold f_Y8_againstThere b_Y8_againstThere_25 b_X11_reason_a105 b_X11_reason_128
  rw [hs_has a r.1 h.1.ra, hs_there a r.1 h.1.ra]
  by_cases q : sE H i
  · by_cases z : H.2 11 i.toNatClampNeg = 0 <;> simp [q, z]
  · simp [q]
theorem rs_129 (a : AS x S T col S1 T1 c1) (r : RR wF N S1 T1 x H) (h : HA H) (k i b c d : Int32) : f_Y8_againstAbsent S1 (x + 37) i = (b_X11_reason_129 H k i b c d).1 := by
  rw [ab_v a r.1 h.1.ra]
  unfold b_X11_reason_129 b_X11_reason_a134 b_X11_reason_157
  rw [seat_f h.1.ra]
  by_cases q : sE H i
  · by_cases z : H.2 11 i.toNatClampNeg = 0 <;> simp [q, z]
  · simp [q]
theorem rs_2 (a : AS x S T col S1 T1 c1) (r : RR wF N S1 T1 x H) (h : HA H) (i b c d : Int32) : f_Y8_againstOnFloor S1 x 2 i b = (f_X11_reason H 2 i b c d).1 := by
  unfold f_X11_reason
  rw [if_neg (by decide), if_pos rfl]
  unfold f_Y8_againstOnFloor
  rw [if_neg (by decide), if_pos rfl, a.g0, Option.getD_some]
  exact rs_129 a r h 2 i b c d
theorem rs_4 (a : AS x S T col S1 T1 c1) (r : RR wF N S1 T1 x H) (h : HA H) (i b c d : Int32) : f_Y8_againstOnFloor S1 x 4 i b = (f_X11_reason H 4 i b c d).1 := by
  unfold f_X11_reason
  rw [if_neg (by decide), if_neg (by decide), if_neg (by decide), if_pos rfl]
  unfold f_Y8_againstOnFloor
  rw [if_neg (by decide), if_neg (by decide), if_neg (by decide), if_pos rfl, a.g0, Option.getD_some]
  exact rs_129 a r h 4 i b c d
theorem rs_3 (a : AS x S T col S1 T1 c1) (r : RR wF N S1 T1 x H) (_ : HA H) (i b c d : Int32) : f_Y8_againstOnFloor S1 x 3 i b = (f_X11_reason H 3 i b c d).1 := by
  unfold f_X11_reason
  rw [if_neg (by decide), if_neg (by decide), if_pos rfl]
  unfold f_Y8_againstOnFloor
  rw [if_neg (by decide), if_neg (by decide), if_pos rfl, in_if]
  unfold b_Y8_againstOnFloor_86 b_Y8_againstOnFloor_87 b_X11_reason_187
  rw [set_v a r.2.1, set_v a r.2.1]
  by_cases z : f_X12_in i 0 200 = 0
  · simp [z]
  · by_cases y : H.1 6 ≤ 0 <;> simp [z, y]
theorem rs_5 (a : AS x S T col S1 T1 c1) (r : RR wF N S1 T1 x H) (_ : HA H) (i b c d : Int32) : f_Y8_againstOnFloor S1 x 5 i b = (f_X11_reason H 5 i b c d).1 := by
  unfold f_X11_reason
  rw [if_neg (by decide), if_neg (by decide), if_neg (by decide), if_neg (by decide), if_pos rfl]
  unfold f_Y8_againstOnFloor
  rw [if_neg (by decide), if_neg (by decide), if_neg (by decide), if_neg (by decide), if_pos rfl, in_if b 1 3, in_if i 1 8]
  unfold b_Y8_againstOnFloor_126 b_Y8_againstOnFloor_127 b_X11_reason_207 b_X11_reason_225
  rw [set_v a r.2.1, set_v a r.2.1]
  by_cases z : f_X12_in i 1 8 = 0
  · simp [z]
  · by_cases w : f_X12_in b 1 3 = 0
    · simp [z, w]
    · by_cases y : H.1 6 ≤ 0 <;> simp [z, w, y]
theorem rs_6 (a : AS x S T col S1 T1 c1) (r : RR wF N S1 T1 x H) (_ : HA H) (i b c d : Int32) : f_Y8_againstOnFloor S1 x 6 i b = (f_X11_reason H 6 i b c d).1 := by
  unfold f_X11_reason
  rw [if_neg (by decide), if_neg (by decide), if_neg (by decide), if_neg (by decide), if_neg (by decide), if_pos rfl]
  unfold f_Y8_againstOnFloor
  rw [if_neg (by decide), if_neg (by decide), if_neg (by decide), if_neg (by decide), if_neg (by decide), if_pos rfl, in_if]
  unfold b_Y8_againstOnFloor_146 b_Y8_againstOnFloor_147 b_X11_reason_254
  rw [set_v a r.2.1, set_v a r.2.1]
  by_cases z : f_X12_in i 0 99 = 0
  · simp [z]
  · by_cases y : H.1 6 ≤ 0 <;> simp [z, y]
theorem rs_7 (a : AS x S T col S1 T1 c1) (r : RR wF N S1 T1 x H) (h : HA H) (i b c d : Int32) : f_Y8_againstOnFloor S1 x 7 i b = (f_X11_reason H 7 i b c d).1 := by
  unfold f_X11_reason
  rw [if_neg (by decide), if_neg (by decide), if_neg (by decide), if_neg (by decide), if_neg (by decide), if_neg (by decide), if_pos rfl]
  unfold f_Y8_againstOnFloor
  rw [if_neg (by decide), if_neg (by decide), if_neg (by decide), if_neg (by decide), if_neg (by decide), if_neg (by decide), if_pos rfl]
  unfold f_Y8_againstFloor b_Y8_againstFloor_37 b_X11_reason_a260 b_X11_reason_294
  rw [a.g0, a.g1, Option.getD_some, Option.getD_some, ab_v a r.1 h.1.ra, seat_f h.1.ra, r.1.1.2.2.1, r.1.1.2.2.2.2.2, r.1.1.2.2.2.2.1, top_s]
  by_cases q : sE H i
  rotate_left
  · simp only [if_neg q]
    simp
  simp only [if_pos q]
  by_cases z : H.2 11 i.toNatClampNeg = 0
  · simp only [if_pos z]
    simp
  simp only [if_neg z]
  by_cases c1 : i = H.1 2
  · simp only [if_pos c1]
    simp
  by_cases c2 : H.1 5 = -1
  rotate_left
  · simp [c1, c2]
  obtain ⟨t0, t1⟩ := rr_top a r.2.1 h.1.ra
  by_cases c3 : H.1 6 = 0
  · rw [t0 c3]
    simp [c1, c2, c3]
  obtain ⟨u, eu, mu, -, -⟩ := t1 c3
  rw [eu]
  obtain ⟨t, ht⟩ : ∃ t, f_X11_top H = (t, H) := ⟨_, Prod.ext rfl (top_s H)⟩
  rw [ht] at mu
  simp only [c1, c2, c3, if_true, if_false, reduceCtorEq, Option.getD_some, and_self]
  unfold b_Y8_againstFloor_81 b_Y8_againstFloor_82 b_Y8_againstFloor_105 b_Y8_againstFloor_111 b_X11_reason_a313 b_X11_reason_a327 b_X11_reason_a346 b_X11_reason_354 b_X11_reason_359 b_X11_reason_360
  simp only [ht, Option.getD_some, mu.1.1, mu.2.1.1, mu.1.2.2.2.1]
  have l0 := r.1.2.2.2.1
  generalize H.2 14 t.toNatClampNeg = k
  generalize H.2 24 t.toNatClampNeg = l
  generalize H.2 17 t.toNatClampNeg = f
  have e0 : (H.1 4 ≤ 0) ↔ H.1 4 = 0 := ⟨fun y => iEq.mpr (by have := iLe.mp y; rw [i0] at this ⊢; omega), fun y => by rw [y]; decide⟩
  by_cases d1 : k = 6
  · by_cases d2 : H.1 4 = 0
    · simp [d1, d2]
    · by_cases d3 : f < H.1 4 <;> simp [d1, d2, d3]
  by_cases d4 : l = 0
  · by_cases d2 : H.1 4 = 0
    · simp [d1, d2, d4]
    · by_cases d3 : f < H.1 4 <;> simp [d1, d2, d3, d4, e0]
  · by_cases d2 : H.1 4 = 0
    · simp [d1, d2, d4]
    · by_cases d3 : f < H.1 4 <;> simp [d1, d2, d3, d4]
theorem rs_8 (a : AS x S T col S1 T1 c1) (r : RR wF N S1 T1 x H) (_ : HA H) (i b c d : Int32) : f_Y8_againstOnFloor S1 x 8 i b = (f_X11_reason H 8 i b c d).1 := by
  unfold f_X11_reason
  rw [if_neg (by decide), if_neg (by decide), if_neg (by decide), if_neg (by decide), if_neg (by decide), if_neg (by decide), if_neg (by decide), if_pos rfl]
  unfold f_Y8_againstOnFloor
  rw [if_neg (by decide), if_neg (by decide), if_neg (by decide), if_neg (by decide), if_neg (by decide), if_neg (by decide), if_neg (by decide), if_pos rfl, a.g0, Option.getD_some, r.1.1.2.2.2.2.2]
  unfold b_Y8_againstOnFloor_173 b_X11_reason_374
  by_cases z : H.1 5 = -1 <;> simp [z]
/-- whether the top is seconded -/
theorem sec_v (H : HS) : (f_X11_hasSeconder H).1 = if H.2 16 (f_X11_top H).1.toNatClampNeg = -1 then 0 else 1 := by
  unfold f_X11_hasSeconder b_X11_hasSeconder_a8 b_X11_hasSeconder_18
  rw [top_s]
  split <;> rfl
theorem fl_v (r : hR S1 x H) (i : Int32) : f_Y2_hasFloor S1 (x + 37) i = if H.1 5 = -1 then 0 else if H.1 5 = i then 1 else 0 := by
  unfold f_Y2_hasFloor b_Y2_hasFloor_17 b_Y2_hasFloor_18
  rw [r.1.2.2.2.2.2]
  by_cases z : H.1 5 = -1
  · rw [if_pos z, z]
    by_cases y : i = -1 <;> simp [y]
  · by_cases y : H.1 5 = i
    · rw [if_neg z, if_pos y, if_neg (fun e => z (y.trans e)), if_pos y.symm]
    · rw [if_neg z, if_neg y]
      by_cases w : i = -1
      · rw [if_pos w]
      · rw [if_neg w, if_neg (fun e => y e.symm)]
theorem rs_9 (a : AS x S T col S1 T1 c1) (r : RR wF N S1 T1 x H) (h : HA H) (i b c d : Int32) : f_Y8_againstOnFloor S1 x 9 i b = (f_X11_reason H 9 i b c d).1 := by
  unfold f_X11_reason
  rw [if_neg (by decide), if_neg (by decide), if_neg (by decide), if_neg (by decide), if_neg (by decide), if_neg (by decide), if_neg (by decide), if_neg (by decide), if_pos rfl]
  unfold f_Y8_againstOnFloor
  rw [if_neg (by decide), if_neg (by decide), if_neg (by decide), if_neg (by decide), if_neg (by decide), if_neg (by decide), if_neg (by decide), if_neg (by decide), if_pos rfl]
  unfold f_Y8_againstDebate b_X11_reason_401 b_X11_reason_a407
  rw [a.g0, a.g1, Option.getD_some, Option.getD_some, fl_v r.1, sec_v, seconder_s]
  obtain ⟨t0, t1⟩ := rr_top a r.2.1 h.1.ra
  by_cases c3 : H.1 6 = 0
  · rw [t0 c3]
    simp [c3]
  obtain ⟨u, eu, mu, -, -⟩ := t1 c3
  rw [eu]
  by_cases c2 : H.1 5 = -1
  · simp [c2, c3]
  by_cases c4 : H.1 5 = i
  rotate_left
  · simp [c2, c3, c4]
  obtain ⟨t, ht⟩ : ∃ t, f_X11_top H = (t, H) := ⟨_, Prod.ext rfl (top_s H)⟩
  rw [ht] at mu
  simp only [c2, c3, c4, if_true, if_false, reduceCtorEq, Option.getD_some]
  unfold b_Y8_againstDebate_65 b_Y8_againstDebate_71 b_X11_reason_a420 b_X11_reason_437
  simp only [ht, mu.1.1, mu.1.2.2.1, in_f]
  have e6 : (6 : Int32).toInt = 6 := by decide
  have e7 : (7 : Int32).toInt = 7 := by decide
  have e8 : (8 : Int32).toInt = 8 := by decide
  rw [e6, e8]
  have hi : i ≠ -1 := fun y => c2 (c4.trans y)
  by_cases c5 : H.2 16 t.toNatClampNeg = -1
  · simp [c5, hi]
  generalize H.2 14 t.toNatClampNeg = k
  by_cases d6 : k = 6
  · subst d6
    simp [c5, hi]
  by_cases d7 : k = 7
  · subst d7
    simp [c5, hi]
  by_cases d8 : k = 8
  · subst d8
    simp [c5, hi]
  have n6 := mt iEq.mpr d6
  have n7 := mt iEq.mpr d7
  have n8 := mt iEq.mpr d8
  rw [e6] at n6
  rw [e7] at n7
  rw [e8] at n8
  rw [if_neg (show ¬ (6 ≤ k.toInt ∧ k.toInt ≤ 8) from fun y => by omega)]
  simp [c5, d6, d7, d8, hi]
end
