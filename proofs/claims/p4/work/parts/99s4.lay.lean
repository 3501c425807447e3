/-! ===== the reasons of lay, take, move ===== -/
section
variable {wF : Prop × (Nat → Int32) × Int32 × (Nat → Int32)} {x : Nat} {S S1 S2 : Cst} {T T1 : Nat → List Nat} {col c1 : Nat → Nat} {H : HS} {N : Int}
theorem bt_v {S1 : Cst} {q u : Nat} {H : HS} {m t : Nat} (mu : mR S1 q H m) (mt_ : mR S1 u H t) (k : Int32) (hk : H.2 14 m = k) : f_Y4_canBeAbout S1 q (some u) = if k = 3 then (if H.2 14 t = 2 then 1 else 0) else if k = 2 then (if H.2 14 t = 1 then 1 else if H.2 14 t = 4 then 1 else if H.2 14 t = 5 then 1 else 0) else 0 := by
  unfold f_Y4_canBeAbout b_Y4_canBeAbout_27 b_Y4_canBeAbout_60 b_Y4_canBeAbout_64 b_Y4_canBeAbout_65
  simp only [reduceCtorEq, if_false, Option.getD_some]
  simp only [mu.1.1, mt_.1.1, hk]
theorem ia_v (H : HS) (k : Int32) (z : ¬ H.1 6 = 0) : (f_X11_isAbout H k).1 = if k = 2 then (if H.2 14 (f_X11_top H).1.toNatClampNeg = 1 then 1 else if H.2 14 (f_X11_top H).1.toNatClampNeg = 4 then 1 else if H.2 14 (f_X11_top H).1.toNatClampNeg = 5 then 1 else 0) else if H.2 14 (f_X11_top H).1.toNatClampNeg = 2 then 1 else 0 := by
  unfold f_X11_isAbout b_X11_isAbout_a17 b_X11_isAbout_39 b_X11_isAbout_57
  rw [if_neg z, top_s]
  repeat' split
  all_goals rfl
theorem ia_0 (H : HS) (k : Int32) (z : H.1 6 = 0) : (f_X11_isAbout H k).1 = 0 := by
  unfold f_X11_isAbout
  rw [if_pos z]
theorem lay_end (a : AS x S T col S1 T1 c1) (r : RR wF N S1 T1 x H) (h : HA H) (i : Int32) (p q : Option Nat) : b_Y8_againstLay_101 S1 x i p q = (b_X11_reasonOfLay_100 H i).1 := by
  unfold b_Y8_againstLay_101 b_Y8_againstLay_124 b_Y8_againstLay_125 b_X11_reasonOfLay_100 b_X11_reasonOfLay_a104 b_X11_reasonOfLay_a112 b_X11_reasonOfLay_120 b_X11_reasonOfLay_121
  rw [fp_v a r.2.2.1, a.g1, Option.getD_some, np_v a r.2.1 h.1.ra, freePlaces_s, wantsPlace_s]
  by_cases z1 : (f_X11_freePlaces H).1 = 1
  · rw [if_pos z1, if_pos z1]
    by_cases z2 : (f_X11_wantsPlace H).1 = 0
    · rw [if_pos z2, if_pos z2]
    · rw [if_neg z2, if_neg z2]
  · rw [if_neg z1, if_neg z1]
theorem ly_v (h : HA H) {p : Nat} (hp : p < 8) : H.2 34 p ≤ 0 ↔ H.2 34 p = 0 := by
  have b := (h.1.1.1 (p + 2) (by omega)).1
  have e : hN H (p + 2) = (H.2 34 p).toInt := rfl
  exact ⟨fun y => iEq.mpr (by have := iLe.mp y; rw [i0] at this ⊢; omega), fun y => by rw [y]; decide⟩
theorem rs_13 (a : AS x S T col S1 T1 c1) (r : RR wF N S1 T1 x H) (h : HA H) (i b c d : Int32) : f_Y8_againstOnPaper S1 x 13 i b c d = (f_X11_reason H 13 i b c d).1 := by
  unfold f_X11_reason
  rw [if_neg (by decide), if_neg (by decide), if_neg (by decide), if_neg (by decide), if_neg (by decide), if_neg (by decide), if_neg (by decide), if_neg (by decide), if_neg (by decide), if_neg (by decide), if_neg (by decide), if_neg (by decide), if_pos rfl]
  unfold f_Y8_againstOnPaper
  rw [if_neg (by decide), if_neg (by decide), if_neg (by decide), if_pos rfl]
  unfold b_X11_reason_a533 f_Y8_againstLay f_X11_reasonOfLay
  rw [a.g1, a.g2, Option.getD_some, Option.getD_some]
  obtain ⟨p0, p1⟩ := pl_v a r.2.2.1 i
  by_cases z0 : f_X12_in i 0 7 = 0
  · rw [p0 z0]
    simp [z0]
  obtain ⟨ep, hp, hi, ee⟩ := p1 z0
  rw [ep]
  simp only [reduceCtorEq, z0, if_false, Option.getD_some]
  simp only [rr_de r.2.2.1, ee]
  unfold b_Y8_againstLay_30 b_X11_reasonOfLay_29
  by_cases z1 : H.1 35 = 0
  · simp [z1]
  have ly := ly_v h hp
  by_cases z2 : H.2 34 i.toNatClampNeg = 0
  rotate_left
  · simp [z1, z2, ly]
  simp only [z1, z2, ly, if_true, if_false, h10]
  unfold b_X11_reasonOfLay_a38
  rw [hd_v h.1.ra, hasDraft_s, zn0]
  obtain ⟨d0, d1⟩ := rr_dr a r.2.1 r.2.2.1 h.1
  by_cases z3 : H.1 36 = 0
  rotate_left
  · rw [d0 (Or.inr z3)]
    simp only [z1, z3, if_true, if_false]
    exact lay_end a r h i _ _
  obtain ⟨q, eq, mu, lq, hq⟩ := d1 z1 z3
  have kq : iK S1 q 3 := a.m3 (c := x + 4) (by rw [hq]; exact List.mem_singleton.mpr rfl)
  rw [eq]
  simp only [z1, z3, if_true, if_false, reduceCtorEq, Option.getD_some]
  rw [am_v mu, am_in, lq]
  by_cases z4 : H.2 25 (H.2 32 0).toNatClampNeg = 0
  rotate_left
  · simp only [z4, if_false]
    rw [lay_end a r h i]
    split <;> (split <;> first | rfl | (split <;> rfl))
  simp only [z4, if_true]
  have key : ∀ k : Int32, (k = 2 ∨ k = 3) → H.2 14 (H.2 32 0).toNatClampNeg = k → (if f_Y5_top S1 (x + 1) = none then (b_Y8_againstLay_82 S1 x i (some (x + 13 + 3 * i.toNatClampNeg)) (some q) (f_Y5_top S1 (x + 1))) else (b_Y8_againstLay_79a S1 x i (some (x + 13 + 3 * i.toNatClampNeg)) (some q) (f_Y5_top S1 (x + 1)) (f_Y4_canBeAbout S1 q (f_Y5_top S1 (x + 1))))) = (b_X11_reasonOfLay_a70 (f_X11_isAbout H (H.2 14 (H.2 32 0).toNatClampNeg)).2 i (f_X11_isAbout H (H.2 14 (H.2 32 0).toNatClampNeg)).1).1 := by
    intro k hk ek
    rw [isAbout_s]
    unfold b_X11_reasonOfLay_a70 b_X11_reasonOfLay_a94 b_Y8_againstLay_82 b_Y8_againstLay_79a
    obtain ⟨t0, t1⟩ := rr_top a r.2.1 h.1.ra
    by_cases c3 : H.1 6 = 0
    · rw [t0 c3, ia_0 H _ c3]
      simp
    obtain ⟨u, eu, mt_, hu, -⟩ := t1 c3
    have ku : iK S1 u 3 := a.m3 hu
    rw [eu, ia_v H _ c3, bt_v mu mt_ k ek, ek]
    simp only [reduceCtorEq, if_false, Option.getD_some, top_s, zn0]
    rw [lay_end a r h i]
    have eb : (if k = 3 then (if H.2 14 (f_X11_top H).1.toNatClampNeg = 2 then (1 : Int32) else 0) else if k = 2 then (if H.2 14 (f_X11_top H).1.toNatClampNeg = 1 then 1 else if H.2 14 (f_X11_top H).1.toNatClampNeg = 4 then 1 else if H.2 14 (f_X11_top H).1.toNatClampNeg = 5 then 1 else 0) else 0) = if k = 2 then (if H.2 14 (f_X11_top H).1.toNatClampNeg = 1 then 1 else if H.2 14 (f_X11_top H).1.toNatClampNeg = 4 then 1 else if H.2 14 (f_X11_top H).1.toNatClampNeg = 5 then 1 else 0) else if H.2 14 (f_X11_top H).1.toNatClampNeg = 2 then 1 else 0 := by
      rcases hk with rfl | rfl <;> rfl
    rw [eb]
    generalize (if k = 2 then (if H.2 14 (f_X11_top H).1.toNatClampNeg = 1 then (1 : Int32) else if H.2 14 (f_X11_top H).1.toNatClampNeg = 4 then 1 else if H.2 14 (f_X11_top H).1.toNatClampNeg = 5 then 1 else 0) else if H.2 14 (f_X11_top H).1.toNatClampNeg = 2 then 1 else 0) = v
    by_cases y : v = 0
    · rw [if_pos y, if_pos y]
      unfold b_Y8_againstLay_82
      rfl
    rw [if_neg y, if_neg y]
    simp only [tx_v mt_ a.ci.wf ku]
    have o26 : H.2 26 (H.2 32 0).toNatClampNeg = 0 → giC S1 q 9 = H.2 21 (H.2 32 0).toNatClampNeg := fun e => (mu.2.2.1 e).2
    simp only [o26 (r.2.2.1.2.2.2.1 1 (by omega) (dr_L h z1 z3).1 (dr_L h z1 z3).2 z4)]
    split <;> rfl
  by_cases y2 : H.2 14 (H.2 32 0).toNatClampNeg = 2
  · simp only [y2, if_true, h10, if_false]
    rw [← y2]
    exact key 2 (Or.inl rfl) y2
  · by_cases y3 : H.2 14 (H.2 32 0).toNatClampNeg = 3
    · simp only [if_neg y2, if_pos y3, if_neg h10]
      exact key 3 (Or.inr rfl) y3
    · simp only [y2, y3, if_true, if_false]
      exact lay_end a r h i _ _
theorem rs_14 (a : AS x S T col S1 T1 c1) (r : RR wF N S1 T1 x H) (h : HA H) (i b c d : Int32) : f_Y8_againstOnPaper S1 x 14 i b c d = (f_X11_reason H 14 i b c d).1 := by
  unfold f_X11_reason
  rw [if_neg (by decide), if_neg (by decide), if_neg (by decide), if_neg (by decide), if_neg (by decide), if_neg (by decide), if_neg (by decide), if_neg (by decide), if_neg (by decide), if_neg (by decide), if_neg (by decide), if_neg (by decide), if_neg (by decide), if_pos rfl]
  unfold f_Y8_againstOnPaper
  rw [if_neg (by decide), if_neg (by decide), if_neg (by decide), if_neg (by decide), if_pos rfl]
  unfold f_Y8_againstTake b_Y8_againstTake_30 b_Y8_againstTake_36 b_X11_reason_565 b_X11_reason_571
  rw [a.g2, Option.getD_some, rr_de r.2.2.1]
  obtain ⟨p0, p1⟩ := pl_v a r.2.2.1 i
  by_cases z0 : f_X12_in i 0 7 = 0
  · rw [p0 z0]
    simp [z0]
  obtain ⟨ep, hp, hi, ee⟩ := p1 z0
  rw [ep]
  simp only [reduceCtorEq, z0, if_false, Option.getD_some]
  simp only [ee]
  have b35 := h.1.1.1 1 (by omega)
  have e1 : hN H 1 = (H.1 35).toInt := rfl
  by_cases z1 : H.1 35 = 0
  · have e0 : ¬ (0 : Int32) < H.1 35 := by rw [z1]; decide
    by_cases z2 : H.2 34 i.toNatClampNeg = 0
    · simp [z1, z2]
    · simp [z1, z2]
  · have z1' := mt iEq.mpr z1
    rw [i0] at z1'
    have e0 : (0 : Int32) < H.1 35 := iLt.mpr (by rw [i0]; omega)
    simp [z1, e0]
/-! move -/
theorem hr_l (a : AS x S T col S1 T1 c1) (w : wR S1 T1 x H) (h : RA H) (s d k : Int32) : ∀ (n : Nat) (u v b : Int32), (u < k ↔ v = 0) → 0 ≤ b.toInt → b.toInt ≤ 9 → 9 - b.toInt < n → (lp_X11_reasonOfMove_70 n H s d k v b).1 = if H.1 6 = 0 then 1 else if lp_Y5_highestRank_4 S1 (x + 1) n u b < k then (b_X11_reasonOfMove_127 H s d k).1 else 1 := by
  intro n
  induction n with
  | zero => intro u v b h0 h1 h2 h3; omega
  | succ n ih =>
    intro u v b h0 h1 h2 h3
    have h6 := h.2.1
    rw [lp_Y5_highestRank_4, lp_X11_reasonOfMove_70]
    unfold st_Y5_highestRank_4 st_X11_reasonOfMove_70 b_X11_reasonOfMove_125
    rw [rr_z a w]
    by_cases c : H.1 6 ≤ b
    · rw [if_pos c, if_pos c]
      by_cases y : H.1 6 = 0
      · simp only [y, if_true]
      · by_cases z : v = 0
        · have := h0.mpr z
          simp only [y, z, this, if_true, if_false]
        · have := mt h0.mp z
          simp only [y, z, this, if_false]
    · have c' := mt iLe.mpr c
      have e1 := iAdd (x := b) (y := 1) (by rw [i1]; omega) (by rw [i1]; omega)
      rw [i1] at e1
      obtain ⟨q, eq, mu, -, -⟩ := (rr_at a w h b).2 h1 (by omega)
      rw [if_neg c, if_neg c, eq]
      simp only [reduceCtorEq, if_false, Option.getD_some]
      unfold b_Y5_highestRank_31 b_X11_reasonOfMove_100 b_X11_reasonOfMove_105
      rw [mu.1.1]
      generalize H.2 14 (H.2 31 b.toNatClampNeg).toNatClampNeg = g
      by_cases z : v = 0
      · rw [if_pos z]
        have uk := iLt.mp (h0.mpr z)
        by_cases y : g < k
        · rw [if_pos y]
          have y' := iLt.mp y
          refine ih _ _ (b + 1) ?_ (by omega) (by omega) (by omega)
          simp only [iff_true]
          split
          · exact y
          · exact iLt.mpr uk
        · rw [if_neg y]
          have y' := mt iLt.mpr y
          refine ih _ _ (b + 1) ?_ (by omega) (by omega) (by omega)
          simp only [h10, iff_false]
          rw [if_pos (iLt.mpr (by omega))]
          exact y
      · rw [if_neg z]
        have uk := mt h0.mp z
        have uk' := mt iLt.mpr uk
        refine ih _ _ (b + 1) ?_ (by omega) (by omega) (by omega)
        simp only [h10, iff_false]
        split
        · rename_i y
          have := iLt.mp y
          exact fun e => by have := iLt.mp e; omega
        · exact uk
theorem hr_v (a : AS x S T col S1 T1 c1) (w : wR S1 T1 x H) (h : RA H) (s d k : Int32) (hk : 0 < k.toInt) : (lp_X11_reasonOfMove_70 100000 H s d k 0 0).1 = if H.1 6 = 0 then 1 else if f_Y5_highestRank S1 (x + 1) < k then (b_X11_reasonOfMove_127 H s d k).1 else 1 :=
  hr_l a w h s d k 100000 0 0 0 (by simp only [iff_true]; exact iLt.mpr (by rw [i0]; omega)) (by rw [i0]; omega) (by rw [i0]; omega) (by rw [i0]; omega)
theorem ar_s (s d w : Int32) : (s - d) + w = (s + w) - d := by
  rw [Int32.sub_eq_add_neg, Int32.sub_eq_add_neg, Int32.add_assoc, Int32.add_comm (-d) w, ← Int32.add_assoc]
theorem qu_v (a : AS x S T col S1 T1 c1) (r : hR S1 x H) : f_Y2_hasQuorum S1 (x + 37) = if H.1 3 ≤ H.1 1 then 1 else 0 := by
  unfold f_Y2_hasQuorum b_Y2_hasQuorum_16
  rw [r.1.2.1, r.1.2.2.2.1]
  by_cases z : H.1 1 < H.1 3
  · rw [if_pos z, if_neg (fun y => by have := iLt.mp z; have := iLe.mp y; omega)]
  · have := mt iLt.mpr z
    rw [if_neg z, if_pos (iLe.mpr (by omega))]
theorem fcU_pos {S1 : Cst} {x p : Nat} (e : giC S1 (x + 13 + 3 * p) 0 = 0) : ∀ n, p < n → 1 ≤ fcU S1 x n := by
  intro n
  induction n with
  | zero => intro h; omega
  | succ n ih =>
    intro h
    rw [fcU]
    by_cases z : p = n
    · subst z
      rw [if_pos e]
      omega
    · have := ih (by omega)
      omega
theorem ff_l (H : HS) : ∀ (n : Nat) (b : Int32), 0 ≤ b.toInt → b.toInt ≤ 8 → 8 - b.toInt < n → ((lp_X11_free_2 n H b).1 = -1 ∧ ∀ p : Nat, b.toInt ≤ p → p < 8 → H.2 34 p ≠ 0) ∨ ((b.toInt ≤ (lp_X11_free_2 n H b).1.toInt ∧ (lp_X11_free_2 n H b).1.toInt < 8) ∧ H.2 34 (lp_X11_free_2 n H b).1.toNatClampNeg = 0 ∧ ∀ p : Nat, b.toInt ≤ p → (p : Int) < (lp_X11_free_2 n H b).1.toInt → H.2 34 p ≠ 0) := by
  have e8 : (8 : Int32).toInt = 8 := by decide
  intro n
  induction n with
  | zero => intro b h1 h2 h3; omega
  | succ n ih =>
    intro b h1 h2 h3
    rw [lp_X11_free_2]
    unfold st_X11_free_2
    have k := iNat h1
    by_cases c : 8 ≤ b
    · have := iLe.mp c
      rw [e8] at this
      rw [if_pos c]
      exact Or.inl ⟨rfl, fun p h4 h5 => by omega⟩
    · have c' := mt iLe.mpr c
      rw [e8] at c'
      have e1 := iAdd (x := b) (y := 1) (by rw [i1]; omega) (by rw [i1]; omega)
      rw [i1] at e1
      rw [if_neg c]
      by_cases z : H.2 34 b.toNatClampNeg = 0
      · rw [if_pos z]
        exact Or.inr ⟨⟨by show b.toInt ≤ b.toInt; omega, by show b.toInt < 8; omega⟩, z, fun p h4 (h5 : (p : Int) < b.toInt) => by omega⟩
      · rw [if_neg z]
        dsimp only
        have nz : ∀ p : Nat, b.toInt ≤ p → ¬ (b + 1).toInt ≤ p → H.2 34 p ≠ 0 := fun p h4 h5 => by
          have : p = b.toNatClampNeg := by omega
          rw [this]
          exact z
        rcases ih (b + 1) (by omega) (by omega) (by omega) with ⟨q1, q2⟩ | ⟨q1, q2, q3⟩
        · exact Or.inl ⟨q1, fun p h4 h5 => if y : (b + 1).toInt ≤ p then q2 p y h5 else nz p h4 y⟩
        · exact Or.inr ⟨⟨by omega, q1.2⟩, q2, fun p h4 h5 => if y : (b + 1).toInt ≤ p then q3 p y h5 else nz p h4 y⟩
theorem ff_v (H : HS) : ((f_X11_free H).1 = -1 ∧ ∀ p : Nat, p < 8 → H.2 34 p ≠ 0) ∨ ((0 ≤ (f_X11_free H).1.toInt ∧ (f_X11_free H).1.toInt < 8) ∧ H.2 34 (f_X11_free H).1.toNatClampNeg = 0 ∧ ∀ p : Nat, p < (f_X11_free H).1.toNatClampNeg → H.2 34 p ≠ 0) := by
  rcases ff_l H 100000 0 (by rw [i0]; omega) (by rw [i0]; omega) (by rw [i0]; omega) with ⟨q1, q2⟩ | ⟨q1, q2, q3⟩
  · exact Or.inl ⟨q1, fun p hp => q2 p (by rw [i0]; omega) hp⟩
  · rw [i0] at q1
    refine Or.inr ⟨q1, q2, fun p hp => q3 p (by rw [i0]; omega) ?_⟩
    have := iNat q1.1
    have hp : p < (lp_X11_free_2 100000 H 0).1.toNatClampNeg := hp
    omega
theorem fr_e (a : AS x S T col S1 T1 c1) (o : oR S1 T1 x H) : f_Y0_freePlaces S1 x = 0 ↔ (f_X11_free H).1 = -1 := by
  have v := free_v a.ci.wf a.k1
  rcases ff_v H with ⟨q1, q2⟩ | ⟨q1, q2, q3⟩
  · have z := fcU_0 (S1 := S1) (x := x) 8 (fun p hp y => q2 p hp ((em_e o hp).mp y))
    rw [z] at v
    exact ⟨fun _ => q1, fun _ => iEq.mpr (by rw [v]; rfl)⟩
  · have k := iNat q1.1
    have z := fcU_pos ((em_e o (show (f_X11_free H).1.toNatClampNeg < 8 by omega)).mpr q2) 8 (by omega)
    refine ⟨fun y => ?_, fun y => ?_⟩
    · rw [y, i0] at v
      omega
    · rw [y] at q1
      exact absurd q1.1 (by decide)
theorem hr_ge (a : AS x S T col S1 T1 c1) (w : wR S1 T1 x H) (h : RA H) : ∀ (n : Nat) (u b : Int32), 0 ≤ b.toInt → b.toInt ≤ 9 → 9 - b.toInt < n → u.toInt ≤ (lp_Y5_highestRank_4 S1 (x + 1) n u b).toInt ∧ ∀ j : Int32, b.toInt ≤ j.toInt → j.toInt < (H.1 6).toInt → (H.2 14 (H.2 31 j.toNatClampNeg).toNatClampNeg).toInt ≤ (lp_Y5_highestRank_4 S1 (x + 1) n u b).toInt := by
  intro n
  induction n with
  | zero => intro u b h1 h2 h3; omega
  | succ n ih =>
    intro u b h1 h2 h3
    have h6 := h.2.1
    rw [lp_Y5_highestRank_4]
    unfold st_Y5_highestRank_4
    rw [rr_z a w]
    by_cases c : H.1 6 ≤ b
    · have := iLe.mp c
      rw [if_pos c]
      exact ⟨by show u.toInt ≤ u.toInt; omega, fun j h4 h5 => by omega⟩
    · have c' := mt iLe.mpr c
      have e1 := iAdd (x := b) (y := 1) (by rw [i1]; omega) (by rw [i1]; omega)
      rw [i1] at e1
      obtain ⟨q, eq, mu, -, -⟩ := (rr_at a w h b).2 h1 (by omega)
      rw [if_neg c, eq]
      simp only [reduceCtorEq, if_false, Option.getD_some]
      unfold b_Y5_highestRank_31
      rw [mu.1.1]
      dsimp only
      generalize eg : H.2 14 (H.2 31 b.toNatClampNeg).toNatClampNeg = g
      generalize eu : (if u < g then g else u) = u2
      have i := ih u2 (b + 1) (by omega) (by omega) (by omega)
      have hu : u.toInt ≤ u2.toInt ∧ g.toInt ≤ u2.toInt := by
        rw [← eu]
        split
        · rename_i y
          have := iLt.mp y
          exact ⟨by omega, by omega⟩
        · rename_i y
          have := mt iLt.mpr y
          exact ⟨by omega, by omega⟩
      refine ⟨by omega, fun j h4 h5 => ?_⟩
      by_cases y : (b + 1).toInt ≤ j.toInt
      · exact i.2 j y h5
      · have : j = b := iEq.mpr (by omega)
        rw [this, eg]
        omega
/-- where the top is a ruling nothing is in rank -/
theorem rs_15 (a : AS x S T col S1 T1 c1) (r : RR wF N S1 T1 x H) (h : HA H) (i : Int32) : f_Y8_againstMove S1 x i = (f_X11_reasonOfMove H i).1 := by
  unfold f_Y8_againstMove f_X11_reasonOfMove b_X11_reasonOfMove_34
  rw [a.g1, a.g2, Option.getD_some, Option.getD_some, rr_de r.2.2.1, zn0]
  by_cases z1 : H.1 35 = 0
  · simp [z1]
  simp only [z1, if_false, h10, if_true]
  obtain ⟨d0, d1⟩ := rr_dr a r.2.1 r.2.2.1 h.1
  obtain ⟨t0, t1⟩ := rr_top a r.2.1 h.1.ra
  have h6 := h.1.ra.2.1
  have p0 : H.1 6 ≤ 0 ↔ H.1 6 = 0 := ⟨fun y => iEq.mpr (by have := iLe.mp y; rw [i0] at this ⊢; omega), fun y => by rw [y]; decide⟩
  have e1' : (1 : Int32) = 1 := rfl
  -- behind the rank: the floor, the seconder, the quorum
  have tail : ∀ (mo : Option Nat) (k : Int32) (dd : Int32), f_Y6_motion S1 (x + 3) = mo → (∀ u, f_Y5_top S1 (x + 1) = some u → giC S1 u 2 ≠ 9) → (H.1 3 ≤ H.1 1 → (if mo = none then (0 : Int32) else if (f_Y4_amends S1 (mo.getD 0)) = 0 then (b_Y8_againstMove_114 S1 x i mo (f_Y5_top S1 (x + 1))) else if (f_Y8_isOffSubject S1 mo (f_Y5_top S1 (x + 1))) = 0 then (b_Y8_againstMove_114 S1 x i mo (f_Y5_top S1 (x + 1))) else 5) = (if (H.1 36) = 0 then if k = 2 then (b_X11_reasonOfMove_191 H i dd k) else if k = 3 then (b_X11_reasonOfMove_191 H i dd k) else (b_X11_reasonOfMove_195 H i dd k) else (b_X11_reasonOfMove_195 H i dd k)).1) → b_Y8_againstMove_38a S1 x i mo (f_Y5_top S1 (x + 1)) 0 = (b_X11_reasonOfMove_127 H i dd k).1 := by
    intro mo k dd hmo h9 hq
    unfold b_Y8_againstMove_38a b_Y8_againstMove_77 b_Y8_againstMove_79 b_X11_reasonOfMove_127 b_X11_reasonOfMove_143 b_X11_reasonOfMove_161 b_X11_reasonOfMove_a156
    rw [a.g0, Option.getD_some, fl_v r.1, qu_v a r.1, sec_v, seconder_s]
    simp only [if_true]
    by_cases c2 : H.1 5 = -1
    · simp [c2]
    by_cases c4 : H.1 5 = i
    rotate_left
    · simp [c2, c4]
    simp only [c2, c4, if_true, if_false, h10, p0]
    have e161 : (if (if H.1 3 ≤ H.1 1 then (1 : Int32) else 0) = 0 then (4 : Int32) else if mo = none then (0 : Int32) else if (f_Y4_amends S1 (mo.getD 0)) = 0 then (b_Y8_againstMove_114 S1 x i mo (f_Y5_top S1 (x + 1))) else if (f_Y8_isOffSubject S1 mo (f_Y5_top S1 (x + 1))) = 0 then (b_Y8_againstMove_114 S1 x i mo (f_Y5_top S1 (x + 1))) else 5) = (if (H.1 3) ≤ (H.1 1) then if (H.1 36) = 0 then if k = 2 then (b_X11_reasonOfMove_191 H i dd k) else if k = 3 then (b_X11_reasonOfMove_191 H i dd k) else (b_X11_reasonOfMove_195 H i dd k) else (b_X11_reasonOfMove_195 H i dd k) else (4, H)).1 := by
      by_cases q : H.1 3 ≤ H.1 1
      · rw [if_pos q, if_pos q, if_neg h10]
        exact hq q
      · rw [if_neg q, if_neg q, if_pos rfl]
    have ci : i ≠ -1 := fun y => c2 (c4.trans y)
    by_cases c3 : H.1 6 = 0
    · rw [t0 c3] at e161 ⊢
      simp only [c3, if_true, ci, if_false]
      exact e161
    obtain ⟨u, eu, mt_, hu, -⟩ := t1 c3
    have n9 := h9 u eu
    rw [eu] at e161 ⊢
    simp only [reduceCtorEq, if_false, Option.getD_some, c3, n9, ci]
    rw [mt_.1.2.2.1]
    by_cases c5 : H.2 16 (f_X11_top H).1.toNatClampNeg = -1
    · simp [c5]
    · simp only [c5, if_false, h10]
      exact e161
  by_cases z2 : H.1 36 = 0
  rotate_left
  · -- a tabled row
    have em := d0 (Or.inr z2)
    rw [em]
    unfold f_Y8_isOutOfRank b_Y8_isOutOfRank_12 b_Y8_isOutOfRank_21
    simp only [z2, if_true, if_false, p0]
    by_cases c3 : H.1 6 = 0
    · have et := t0 c3
      rw [et]
      simp only [c3, if_true]
      have w := tail none 1 (H.2 32 0) em (fun u e => by rw [et] at e; cases e)
      rw [et] at w
      refine w (fun _ => ?_)
      simp only [if_true, z2, if_false]
      unfold b_X11_reasonOfMove_195 b_X11_reasonOfMove_196 b_X11_reasonOfMove_259
      simp [z2]
    · obtain ⟨u, eu, mt_, hu, -⟩ := t1 c3
      rw [eu]
      simp only [reduceCtorEq, if_false, c3]
      unfold b_Y8_againstMove_38a
      rw [if_neg h10]
  -- one motion
  obtain ⟨q, eq, mu, lq, hq⟩ := d1 z1 z2
  have kq : iK S1 q 3 := a.m3 (c := x + 4) (by rw [hq]; exact List.mem_singleton.mpr rfl)
  have L := dr_L h z1 z2
  have uw := h.1.1.2.2.2.2.1 1 0 L.1
  have eM : hM H 1 0 = (H.2 32 0).toNatClampNeg := rfl
  rw [eM] at uw
  rw [eq]
  simp only [z2, if_true]
  generalize ek : H.2 14 (H.2 32 0).toNatClampNeg = k
  have uk : 1 ≤ k.toInt ∧ k.toInt ≤ 9 := by
    rw [← ek]
    exact uw.1
  have e4 : (4 : Int32).toInt = 4 := by decide
  have e2 : (2 : Int32).toInt = 2 := by decide
  have e3 : (3 : Int32).toInt = 3 := by decide
  have e9 : (9 : Int32).toInt = 9 := by decide
  have am := am_v mu
  rw [ek] at am
  -- what comes behind the quorum
  have np : f_Y4_needsPlace S1 q = if k = 4 then 1 else if k = 5 then 1 else if k = 7 then 1 else 0 := by
    unfold f_Y4_needsPlace b_Y4_needsPlace_25 b_Y4_needsPlace_30
    rw [mu.1.1, ek]
  have fe := fr_e a r.2.2.1
  have s9 : giC S1 (x + 1) 1 < 9 ↔ ¬ H.1 6 = 9 := by
    rw [rr_z a r.2.1]
    refine ⟨fun y z => by rw [z] at y; exact absurd y (by decide), fun y => ?_⟩
    have y' := mt iEq.mpr y
    rw [e9] at y'
    exact iLt.mpr (by rw [e9]; omega)
  have v395 : ∀ y, (b_X11_reasonOfMove_395 H i (H.2 32 0) k y).1 = if f_Y4_needsPlace S1 q = 0 then 0 else if f_Y0_freePlaces S1 x = 0 then 10 else 0 := fun y => by
    unfold b_X11_reasonOfMove_395 b_X11_reasonOfMove_411 b_X11_reasonOfMove_a415 b_X11_reasonOfMove_424 b_X11_reasonOfMove_425
    rw [np, sf_X11_free]
    by_cases f : (f_X11_free H).1 = -1
    · have f2 := fe.mpr f
      by_cases y4 : k = 4
      · simp [y4, f, f2]
      by_cases y5 : k = 5
      · simp [y5, f, f2]
      by_cases y7 : k = 7
      · simp [y7, f, f2]
      simp [y4, y5, y7]
    · have f2 := mt fe.mp f
      by_cases y4 : k = 4
      · simp [y4, f, f2]
      by_cases y5 : k = 5
      · simp [y5, f, f2]
      by_cases y7 : k = 7
      · simp [y7, f, f2]
      simp [y4, y5, y7]
  -- no amendment
  have plain : ¬ k = 2 → ¬ k = 3 → (if (some q : Option Nat) = none then (0 : Int32) else if (f_Y4_amends S1 ((some q : Option Nat).getD 0)) = 0 then (b_Y8_againstMove_114 S1 x i (some q) (f_Y5_top S1 (x + 1))) else if (f_Y8_isOffSubject S1 (some q) (f_Y5_top S1 (x + 1))) = 0 then (b_Y8_againstMove_114 S1 x i (some q) (f_Y5_top S1 (x + 1))) else 5) = (if (H.1 36) = 0 then if k = 2 then (b_X11_reasonOfMove_191 H i (H.2 32 0) k) else if k = 3 then (b_X11_reasonOfMove_191 H i (H.2 32 0) k) else (b_X11_reasonOfMove_195 H i (H.2 32 0) k) else (b_X11_reasonOfMove_195 H i (H.2 32 0) k)).1 := by
    intro n2 n3
    simp only [reduceCtorEq, if_false, Option.getD_some, am, n2, n3, if_true, z2]
    unfold b_Y8_againstMove_114 b_Y8_againstMove_129 f_Y8_lacksRoom b_Y8_lacksRoom_33 b_Y8_lacksRoom_61 b_Y8_lacksRoom_62 b_X11_reasonOfMove_195 b_X11_reasonOfMove_196 b_X11_reasonOfMove_259
    simp only [a.g1, Option.getD_some, s9, z2, if_true, am, n2, n3, if_false]
    by_cases y9 : H.1 6 = 9
    · simp [y9]
    · simp only [y9, not_false_eq_true, if_true, if_false]
      rw [v395]
      by_cases y1 : f_Y4_needsPlace S1 q = 0
      · simp [y1]
      · by_cases y2 : f_Y0_freePlaces S1 x = 0 <;> simp [y1, y2]
  by_cases k1 : k = 1
  · -- a main motion
    have n2 : ¬ k = 2 := by rw [k1]; decide
    have n3 : ¬ k = 3 := by rw [k1]; decide
    unfold f_Y8_isOutOfRank b_Y8_isOutOfRank_12 b_Y8_isOutOfRank_21
    simp only [reduceCtorEq, if_false, Option.getD_some, mu.1.1, ek, k1, if_true, p0]
    by_cases c3 : H.1 6 = 0
    · have et := t0 c3
      rw [et]
      simp only [c3, if_true]
      rw [← et]
      have tl := tail (some q) 1 (H.2 32 0) eq (fun u e => by rw [et] at e; cases e) (fun _ => by rw [← k1]; exact plain n2 n3)
      exact tl
    · obtain ⟨u, eu, mt_, hu, -⟩ := t1 c3
      rw [eu]
      simp only [reduceCtorEq, if_false, c3]
      unfold b_Y8_againstMove_38a
      rw [if_neg h10]
  by_cases k4 : 4 ≤ k
  · -- one that goes over all
    have k4' := iLe.mp k4
    rw [e4] at k4'
    have n2 : ¬ k = 2 := fun y => by rw [y, e2] at k4'; omega
    have n3 : ¬ k = 3 := fun y => by rw [y, e3] at k4'; omega
    unfold f_Y8_isOutOfRank b_Y8_isOutOfRank_58 b_Y8_isOutOfRank_63
    simp only [reduceCtorEq, if_false, Option.getD_some, mu.1.1, ek, k1, am, n2, n3, if_true, k4]
    rw [hr_v a r.2.1 h.1.ra i (H.2 32 0) k (by omega)]
    by_cases c3 : H.1 6 = 0
    · rw [t0 c3]
      simp only [c3, if_true]
      unfold b_Y8_againstMove_38a
      rw [if_neg h10]
    obtain ⟨u, eu, mt_, hu, hu2⟩ := t1 c3
    simp only [c3, if_false]
    by_cases y : f_Y5_highestRank S1 (x + 1) < k
    · have y' := iLt.mp y
      have tl := tail (some q) k (H.2 32 0) eq (fun u' e => by
        have e' : u = u' := by rw [eu] at e; exact Option.some.inj e
        rw [← e', mt_.1.1]
        have pp := pend_pos h.1.ra c3
        have e6 := iSub (x := H.1 6) (y := 1) (by rw [i1]; omega) (by rw [i1]; omega)
        rw [i1] at e6
        have g := (hr_ge a r.2.1 h.1.ra 100000 0 0 (by rw [i0]; omega) (by rw [i0]; omega) (by rw [i0]; omega)).2 (H.1 6 - 1) (by rw [i0]; omega) (by omega)
        have g : (H.2 14 (f_X11_top H).1.toNatClampNeg).toInt ≤ (f_Y5_highestRank S1 (x + 1)).toInt := g
        intro w9
        rw [w9, e9] at g
        have := uk.2
        omega) (fun _ => plain n2 n3)
      rw [eu] at tl ⊢
      simp only [reduceCtorEq, if_false, y, if_true]
      exact tl
    · rw [eu]
      simp only [reduceCtorEq, if_false, y]
      unfold b_Y8_againstMove_38a
      rw [if_neg h10]
  -- an amendment
  have k4' := mt iLe.mpr k4
  rw [e4] at k4'
  have k1' := mt iEq.mpr k1
  rw [i1] at k1'
  have k23 : k = 2 ∨ k = 3 := by
    have := uk.1
    rcases (show k.toInt = 2 ∨ k.toInt = 3 by omega) with y | y
    · exact Or.inl (iEq.mpr (by rw [y, e2]))
    · exact Or.inr (iEq.mpr (by rw [y, e3]))
  have am1 : f_Y4_amends S1 q = 1 := by
    rw [am]
    rcases k23 with rfl | rfl <;> rfl
  unfold f_Y8_isOutOfRank b_Y8_isOutOfRank_42
  simp only [reduceCtorEq, if_false, Option.getD_some, mu.1.1, ek, k1, am1, h10, k4]
  unfold b_X11_reasonOfMove_a59
  rw [isAbout_s]
  by_cases c3 : H.1 6 = 0
  · rw [t0 c3, ia_0 H _ c3]
    have e0 : f_Y4_canBeAbout S1 q none = 0 := rfl
    simp only [e0, if_true]
    unfold b_Y8_againstMove_38a
    rw [if_neg h10]
  obtain ⟨u, eu, mt_, hu, hu2⟩ := t1 c3
  have ku : iK S1 u 3 := a.m3 hu
  have pp := pend_pos h.1.ra c3
  have e6 := iSub (x := H.1 6) (y := 1) (by rw [i1]; omega) (by rw [i1]; omega)
  rw [i1] at e6
  have kt := iNat (x := H.1 6 - 1) (by omega)
  have Lt : hL H 0 (H.1 6 - 1).toNatClampNeg := ⟨by omega, by show _ < (H.1 6).toInt; omega⟩
  have eT : hM H 0 (H.1 6 - 1).toNatClampNeg = (f_X11_top H).1.toNatClampNeg := rfl
  have ot := (r.2.2.2.2.2.2.1 0 _ Lt True.intro).2.2
  rw [eT] at ot
  have ft := mt_.2.2.1 ot
  have eb : f_Y4_canBeAbout S1 q (some u) = (f_X11_isAbout H k).1 := by
    rw [ia_v H _ c3, bt_v mu mt_ k ek]
    rcases k23 with rfl | rfl <;> rfl
  rw [eu]
  simp only [eb]
  by_cases y : (f_X11_isAbout H k).1 = 0
  · rw [if_pos y, if_pos y]
    unfold b_Y8_againstMove_38a
    rw [if_neg h10]
  rw [if_neg y, if_neg y]
  have ia := ia_v H k c3
  have tl := tail (some q) k (H.2 32 0) eq (fun u' e => by
    have e' : u = u' := by rw [eu] at e; exact Option.some.inj e
    rw [← e', mt_.1.1]
    intro w9
    rw [ia, w9] at y
    rcases k23 with rfl | rfl <;> exact y rfl) (fun _ => ?_)
  · rw [eu] at tl
    exact tl
  rw [eu]
  simp only [reduceCtorEq, if_false, Option.getD_some, am1, h10, z2, if_true]
  have e191 : (if k = 2 then (b_X11_reasonOfMove_191 H i (H.2 32 0) k) else if k = 3 then (b_X11_reasonOfMove_191 H i (H.2 32 0) k) else (b_X11_reasonOfMove_195 H i (H.2 32 0) k)) = b_X11_reasonOfMove_191 H i (H.2 32 0) k := by
    rcases k23 with rfl | rfl <;> rfl
  rw [e191]
  unfold f_Y8_isOffSubject b_Y8_isOffSubject_11 b_Y8_isOffSubject_31 b_Y8_isOffSubject_45 b_Y8_isOffSubject_50 b_X11_reasonOfMove_191 b_X11_reasonOfMove_196
  simp only [reduceCtorEq, if_false, Option.getD_some, h10, mu.2.1.2, lq]
  by_cases o1 : H.2 26 (H.2 32 0).toNatClampNeg = 0
  rotate_left
  · simp [o1, b_X11_reasonOfMove_257]
  have fq := mu.2.2.1 o1
  simp only [o1, if_true, fq.1, fq.2, tx_v mt_ a.ci.wf ku]
  -- behind the subject
  have rest : (if (if H.2 21 (H.2 32 0).toNatClampNeg ≤ H.2 19 (f_X11_top H).1.toNatClampNeg then (0 : Int32) else 1) = 0 then b_Y8_againstMove_114 S1 x i (some q) (some u) else 5) = (b_X11_reasonOfMove_239 H i (H.2 32 0) k 1).1 := by
    unfold b_X11_reasonOfMove_239 b_X11_reasonOfMove_a253 b_X11_reasonOfMove_257
    rw [top_s]
    by_cases q1 : H.2 21 (H.2 32 0).toNatClampNeg ≤ H.2 19 (f_X11_top H).1.toNatClampNeg
    rotate_left
    · simp [q1]
    simp only [q1, if_true]
    unfold b_Y8_againstMove_114 b_Y8_againstMove_129 f_Y8_lacksRoom b_Y8_lacksRoom_61 b_Y8_lacksRoom_62 b_X11_reasonOfMove_259
    have np0 : f_Y4_needsPlace S1 q = 0 := by
      rw [np]
      rcases k23 with rfl | rfl <;> rfl
    simp only [a.g1, Option.getD_some, s9, z2, if_true, am1, h10, np0, if_false, reduceCtorEq]
    by_cases y9 : H.1 6 = 9
    · simp [y9]
    simp only [y9, not_false_eq_true, if_true, if_false]
    unfold b_X11_reasonOfMove_a293
    have v0 : ∀ y, (b_X11_reasonOfMove_395 H i (H.2 32 0) k y).1 = 0 := fun y => by
      rw [v395, np0, if_pos rfl]
    rw [top_s]
    unfold f_Y8_makesTextTooLong b_Y8_makesTextTooLong_22a b_Y8_makesTextTooLong_74a b_Y8_makesTextTooLong_84 b_Y8_makesTextTooLong_85 f_Y9_sizeWith
    simp only [Option.getD_some, tx_v mu a.ci.wf kq, tx_v mt_ a.ci.wf ku, fq.1, fq.2, mu.1.1, ek, rr_z a r.2.1, ft.1, ft.2]
    rw [ar_s]
    generalize ((H.2 19 (f_X11_top H).1.toNatClampNeg + H.2 19 (H.2 32 0).toNatClampNeg) - (H.2 21 (H.2 32 0).toNatClampNeg - H.2 20 (H.2 32 0).toNatClampNeg)) = n
    by_cases n4 : n ≤ 400
    rotate_left
    · simp [n4]
    simp only [n4, if_true]
    by_cases k3 : k = 3
    rotate_left
    · simp only [k3, if_false, if_true]
      unfold b_X11_reasonOfMove_348
      rw [if_pos rfl, v0]
    simp only [k3, if_true]
    -- the subject's subject
    have tk : H.2 14 (f_X11_top H).1.toNatClampNeg = 2 := by
      rw [ia, k3] at y
      exact Classical.byContradiction (fun w => y (by rw [if_neg (by decide), if_neg w]))
    have p2 : 2 ≤ (H.1 6).toInt := by
      refine Classical.byContradiction (fun w => ?_)
      have e0 : (H.1 6 - 1).toNatClampNeg = 0 := by omega
      have m0 := h.1.1.2.2.2.1 0 ⟨by omega, by show ((0 : Nat) : Int) < (H.1 6).toInt; omega⟩ True.intro
      have eT' := eT
      rw [e0] at eT'
      rw [eT', tk] at m0
      exact absurd m0 (by decide)
    have e62 := iSub (x := H.1 6) (y := 2) (by rw [e2]; omega) (by rw [e2]; omega)
    rw [e2] at e62
    have k2 := iNat (x := H.1 6 - 2) (by omega)
    obtain ⟨w, ew, mw, hw, -⟩ := (rr_at a r.2.1 h.1.ra (H.1 6 - 2)).2 (by omega) (by omega)
    have kw : iK S1 w 3 := a.m3 hw
    have rb := h.1.ra.2.2.2.1 (H.1 6 - 2).toNatClampNeg (by omega)
    have rn : ¬ H.2 31 (H.1 6 - 2).toNatClampNeg = -1 := fun z => by
      rw [z] at rb
      exact absurd rb.1 (by decide)
    rw [ew]
    simp only [reduceCtorEq, if_false, Option.getD_some, tx_v mw a.ci.wf kw]
    unfold b_X11_reasonOfMove_348 b_X11_reasonOfMove_a374 b_X11_reasonOfMove_a383
    rw [if_neg rn, top_s, top_s, ar_s]
    generalize ((H.2 19 (H.2 31 (H.1 6 - 2).toNatClampNeg).toNatClampNeg + n) - (H.2 21 (f_X11_top H).1.toNatClampNeg - H.2 20 (f_X11_top H).1.toNatClampNeg)) = n2
    rw [k3] at v0
    by_cases n5 : n2 ≤ 400
    · simp only [n5, if_true, v0]
    · simp [n5]
  by_cases l1 : H.2 25 (H.2 32 0).toNatClampNeg = 0
  · simp only [l1, if_true]
    exact rest
  simp only [l1, if_false]
  unfold b_X11_reasonOfMove_a235 b_X11_reasonOfMove_257
  rw [top_s]
  have nm := (r.2.2.2.2.2.2.2.2 1 L.1 L.2 l1 (by rw [eM, ek]; exact k23)).2.2.1 0 _ Lt True.intro
  rw [eM, eT] at nm
  have e1' : (T1 (rP x 1)).getD 0 0 = q := by
    show (T1 (x + 4)).getD 0 0 = q
    rw [hq]
    rfl
  have e2' : (T1 (rP x 0)).getD (H.1 6 - 1).toNatClampNeg 0 = u := hu2.symm
  rw [e1', e2'] at nm
  by_cases g : H.2 23 (H.2 32 0).toNatClampNeg = H.2 22 (f_X11_top H).1.toNatClampNeg
  · simp only [g, nm.mpr g, if_true]
    exact rest
  · simp [g, mt nm.mp g]
end
