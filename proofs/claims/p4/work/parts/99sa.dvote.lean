/-! ===== the deeds: votes, words ===== -/
section
variable {wF : Prop × (Nat → Int32) × Int32 × (Nat → Int32)} {x : Nat} {S S1 S2 S3 : Cst} {T T1 T2 : Nat → List Nat} {col c1 : Nat → Nat} {H H2 H3 : HS} {N : Int}
theorem bx_v {y s : Int32} (hy : 0 ≤ y.toInt ∧ y.toInt < 90) (hs : 0 ≤ s.toInt ∧ s.toInt < 200) : ((200 * y) + s).toNatClampNeg = 200 * y.toNatClampNeg + s.toNatClampNeg := by
  have e2 : (200 : Int32).toInt = 200 := by decide
  have m := iMul (x := 200) (y := y) (n := 200 * y.toInt) (by rw [e2]) (by omega) (by omega)
  have a := iAdd (x := 200 * y) (y := s) (by rw [m]; omega) (by rw [m]; omega)
  rw [m] at a
  have k := iNat (x := (200 * y) + s) (by omega)
  have k1 := iNat hy.1
  have k2 := iNat hs.1
  omega
theorem tx_x {y s : Int32} (hy : 0 ≤ y.toInt ∧ y.toInt < 90) (hs : 0 ≤ s.toInt ∧ s.toInt < 400) : ((400 * y) + s).toNatClampNeg = 400 * y.toNatClampNeg + s.toNatClampNeg := by
  have e2 : (400 : Int32).toInt = 400 := by decide
  have m := iMul (x := 400) (y := y) (n := 400 * y.toInt) (by rw [e2]) (by omega) (by omega)
  have a := iAdd (x := 400 * y) (y := s) (by rw [m]; omega) (by rw [m]; omega)
  rw [m] at a
  have k := iNat (x := (400 * y) + s) (by omega)
  have k1 := iNat hy.1
  have k2 := iNat hs.1
  omega
theorem vCn_le (S : Cst) (q : Nat) : ∀ n, vCn S q n ≤ n := by
  intro n
  induction n with
  | zero => exact Nat.le_refl _
  | succ n ih =>
    rw [vCn]
    split <;> omega
theorem vCn_z {q n : Nat} (h : ∀ s, n ≤ s → s < 200 → giC S1 (q + 3) s = 0) : ∀ k, n + k ≤ 200 → vCn S1 q (n + k) = vCn S1 q n := by
  intro k
  induction k with
  | zero => intro _; rfl
  | succ k ih =>
    intro hk
    rw [← Nat.add_assoc, vCn, ih (by omega), if_pos (h _ (by omega) (by omega))]
    rfl
/-- the voters counted one by one -/
theorem vo_l {q : Nat} {y : Int32} (mu : mR S1 q H y.toNatClampNeg) (hy : 0 ≤ y.toInt ∧ y.toInt < 90) (h0 : 1 ≤ (H.1 0).toInt ∧ (H.1 0).toInt ≤ 200) : ∀ (n : Nat) (v b : Int32), 0 ≤ b.toInt → b.toInt ≤ (H.1 0).toInt → 200 - b.toInt < n → v.toInt = vCn S1 q b.toNatClampNeg → (lp_X11_voters_4 n H y v b).1.toInt = vCn S1 q (H.1 0).toNatClampNeg := by
  intro n
  induction n with
  | zero => intro v b h1 h2 h3; omega
  | succ n ih =>
    intro v b h1 h2 h3 hv
    rw [lp_X11_voters_4]
    unfold st_X11_voters_4 b_X11_voters_34
    have kb := iNat h1
    by_cases c : H.1 0 ≤ b
    · have := iLe.mp c
      rw [if_pos c]
      have e : b = H.1 0 := iEq.mpr (by omega)
      show v.toInt = _
      rw [hv, e]
    · have c' := mt iLe.mpr c
      have e1 := iAdd (x := b) (y := 1) (by rw [i1]; omega) (by rw [i1]; omega)
      rw [i1] at e1
      have kb1 := iNat (x := b + 1) (by omega)
      have en : (b + 1).toNatClampNeg = b.toNatClampNeg + 1 := by omega
      have vb := mu.2.2.2.2.1 b.toNatClampNeg (by omega)
      have le := vCn_le S1 q b.toNatClampNeg
      rw [if_neg c, bx_v hy ⟨h1, by omega⟩]
      have e2 : (2 : Int32).toInt = 2 := by decide
      rcases vb with ⟨z1, z2⟩ | ⟨z1, z2⟩ | ⟨z1, z2⟩
      · rw [z1, if_pos (by decide)]
        dsimp only
        have ez : v + 0 = v := Int32.add_zero v
        rw [ez]
        refine ih _ _ (by omega) (by omega) (by omega) ?_
        rw [en, vCn, if_pos z2, hv]
        rfl
      · rw [z1, if_neg (by decide)]
        dsimp only
        have a := iAdd (x := v) (y := 1) (by rw [i1]; omega) (by rw [i1]; omega)
        rw [i1] at a
        refine ih _ _ (by omega) (by omega) (by omega) ?_
        rw [en, vCn, if_neg (by rw [z2]; decide), a, hv]
        omega
      · rw [z1, if_neg (by decide)]
        dsimp only
        have a := iAdd (x := v) (y := 1) (by rw [i1]; omega) (by rw [i1]; omega)
        rw [i1] at a
        refine ih _ _ (by omega) (by omega) (by omega) ?_
        rw [en, vCn, if_neg (by rw [z2]; decide), a, hv]
        omega
theorem vo_v {q : Nat} {y : Int32} (mu : mR S1 q H y.toNatClampNeg) (hy : 0 ≤ y.toInt ∧ y.toInt < 90) (h0 : 1 ≤ (H.1 0).toInt ∧ (H.1 0).toInt ≤ 200) : giC S1 q 14 = (f_X11_voters H y).1 := by
  have k := iNat (x := H.1 0) (by omega)
  have e := vo_l mu hy h0 100000 0 0 (by rw [i0]; omega) (by rw [i0]; omega) (by rw [i0]; omega) (by rw [i0, zn0]; rfl)
  refine iEq.mpr ?_
  rw [mu.2.2.2.2.2.1.2]
  refine Eq.trans ?_ e.symm
  have z := vCn_z (S1 := S1) (q := q) (n := (H.1 0).toNatClampNeg) (fun s h1 h2 => mu.2.2.2.2.2.1.1 s h2 (by omega)) (200 - (H.1 0).toNatClampNeg) (by omega)
  rw [show (H.1 0).toNatClampNeg + (200 - (H.1 0).toNatClampNeg) = 200 by omega] at z
  rw [z]
theorem vCn_up {q n : Nat} (v : Int32) : ∀ k, vCn (siC S1 (q + 3) n v) q k + (if n < k then (if giC S1 (q + 3) n = 0 then 0 else 1) else 0) = vCn S1 q k + (if n < k then (if v = 0 then 0 else 1) else 0) := by
  intro k
  induction k with
  | zero => rfl
  | succ k ih =>
    rw [vCn, vCn]
    have e : giC (siC S1 (q + 3) n v) (q + 3) k = if k = n then v else giC S1 (q + 3) k := by
      rw [gi_si]
      by_cases z : k = n
      · rw [if_pos ⟨rfl, z⟩, if_pos z]
      · rw [if_neg (fun y => z y.2), if_neg z]
    rw [e]
    by_cases z : k = n
    · subst z
      simp only [if_neg (Nat.lt_irrefl k)] at ih
      simp only [if_pos (Nat.lt_succ_self k), if_true]
      omega
    · simp only [if_neg z]
      by_cases y : n < k
      · simp only [if_pos y] at ih
        simp only [if_pos (show n < k + 1 by omega)]
        omega
      · simp only [if_neg y] at ih
        simp only [if_neg (show ¬ n < k + 1 by omega)]
        omega
theorem ds_17 (a : AS x S T col S1 T1 c1) (r : RR wF N S1 T1 x H) (h : HA H) (i b c d : Int32) (z : ¬ H.1 6 = 0) (q : sE H i) (hb : 0 ≤ b.toInt ∧ b.toInt ≤ 2) : DS wF N x S T col (f_Y1_perform S1 x 17 i b c d) (f_X11_does H 17 i b c d) := by
  obtain ⟨u, eu, mt_, hu, hu2⟩ := (rr_top a r.2.1 h.1.ra).2 z
  have ku := a.m3 hu
  have wu := a.ci.wf.w3 ku
  have cu : c1 u = x := by rw [(a.ci.tk _ u hu).2]; exact a.1.cx 1 (by omega)
  have ti := top_in h.1.ra (pend_pos h.1.ra z)
  have n200 := sE_n h.1.ra q
  have k := iNat q.1
  have h0 := h.1.ra.1
  have e200 : (Int32.ofNat 200).toInt = 200 := by decide
  -- the vote as it is written
  obtain ⟨nv, hnv⟩ : ∃ nv : Int32, nv = if b = 2 then 0 else b + 1 := ⟨_, rfl⟩
  have b3 : b = 0 ∨ b = 1 ∨ b = 2 := by
    rcases (show b.toInt = 0 ∨ b.toInt = 1 ∨ b.toInt = 2 by omega) with y | y | y
    · exact Or.inl (iEq.mpr (by rw [y]; rfl))
    · exact Or.inr (Or.inl (iEq.mpr (by rw [y]; rfl)))
    · exact Or.inr (Or.inr (iEq.mpr (by rw [y]; rfl)))
  have vbn : vB nv b := by
    rw [hnv]
    rcases b3 with rfl | rfl | rfl
    · exact Or.inr (Or.inl ⟨rfl, rfl⟩)
    · exact Or.inr (Or.inr ⟨rfl, rfl⟩)
    · exact Or.inl ⟨rfl, rfl⟩
  have e1 : f_Y4_castVote S1 u i b = (giC (siC (siC S1 (u + 3) i.toNatClampNeg nv) u 14 (giC S1 u 14 + ((if nv = 0 then 0 else 1) - (if giC S1 (u + 3) i.toNatClampNeg = 0 then 0 else 1)))) u 14, siC (siC S1 (u + 3) i.toNatClampNeg nv) u 14 (giC S1 u 14 + ((if nv = 0 then 0 else 1) - (if giC S1 (u + 3) i.toNatClampNeg = 0 then 0 else 1)))) := by
    have g14 : ∀ w, giC (siC S1 (u + 3) i.toNatClampNeg w) u 14 = giC S1 u 14 := fun w => by rw [gi_si, if_neg (fun z => by omega)]
    unfold f_Y4_castVote b_Y4_castVote_27 b_Y4_castVote_38 b_Y4_castVote_57 b_Y4_castVote_72
    rw [wu.2.1.2, Option.getD_some, wu.1.2.2, if_neg (fun y => by have := iLt.mp y; rw [i0] at this; omega), if_neg (fun y => by have := iLe.mp y; rw [e200] at this; omega)]
    simp only [Option.getD_some, g14]
    rw [hnv]
    by_cases y : giC S1 (u + 3) i.toNatClampNeg = 0
    · rw [if_pos y, if_pos y]
      rcases b3 with rfl | rfl | rfl <;> rfl
    · rw [if_neg y, if_neg y]
      rcases b3 with rfl | rfl | rfl <;> rfl
  obtain ⟨-, v, S2, e', uu⟩ := y_castVote a.1 ku cu i b
  obtain ⟨-, rfl⟩ := Prod.mk.inj (e1.symm.trans e')
  have e2 : f_X11_does H 17 i b c d = ((f_X11_voters (sA H 29 (200 * (f_X11_top H).1.toNatClampNeg + i.toNatClampNeg) b) (f_X11_top H).1).1, (f_X11_voters (sA H 29 (200 * (f_X11_top H).1.toNatClampNeg + i.toNatClampNeg) b) (f_X11_top H).1).2) := by
    unfold f_X11_does b_X11_does_a413 b_X11_does_a424 b_X11_does_a427
    rw [if_neg (by decide), if_neg (by decide), if_neg (by decide), if_neg (by decide), if_neg (by decide), if_neg (by decide), if_neg (by decide), if_neg (by decide), if_neg (by decide), if_neg (by decide), if_neg (by decide), if_neg (by decide), if_neg (by decide), if_neg (by decide), if_neg (by decide), if_neg (by decide), if_pos rfl, top_s, top_s, bx_v ti ⟨q.1, by have := q.2; omega⟩]
    have en : vp_nar .byte (b.toInt8.toInt32) = b := by
      rcases b3 with rfl | rfl | rfl <;> rfl
    rw [en]
    rfl
  have vs : ∀ (H : HS) (y : Int32), (f_X11_voters H y).2 = H := by
    have key : ∀ (n : Nat) (S : HS) (x1 x2 x3 : Int32), (lp_X11_voters_4 n S x1 x2 x3).2 = S := by
      intro n
      induction n with
      | zero => intro S x1 x2 x3; rfl
      | succ n ih =>
        intro S x1 x2 x3
        rw [lp_X11_voters_4]
        unfold st_X11_voters_4
        by_cases c : S.1 0 ≤ x3
        · rw [if_pos c]
        · rw [if_neg c]
          by_cases z : 2 ≤ (S.2 29 ((200 * x1) + x3).toNatClampNeg)
          · rw [if_pos z]
            exact ih _ _ _ _
          · rw [if_neg z]
            exact ih _ _ _ _
    exact fun H y => key 100000 H y 0 0
  rw [vs] at e2
  have e3 : f_Y1_perform S1 x 17 i b c d = f_Y4_castVote S1 u i b := by
    unfold f_Y1_perform b_Y1_perform_259
    rw [a.g1, Option.getD_some, eu]
    rfl
  rw [e3, e1, e2]
  -- the motion, written
  have vc := vCn_up (S1 := S1) (q := u) (n := i.toNatClampNeg) nv 200
  rw [if_pos n200, if_pos n200] at vc
  have mm : mR (siC (siC S1 (u + 3) i.toNatClampNeg nv) u 14 (giC S1 u 14 + ((if nv = 0 then 0 else 1) - (if giC S1 (u + 3) i.toNatClampNeg = 0 then 0 else 1)))) u (sA H 29 (200 * (f_X11_top H).1.toNatClampNeg + i.toNatClampNeg) b) (f_X11_top H).1.toNatClampNeg := by
    obtain ⟨⟨a1, a2, a3, a4, a5⟩, ⟨b1, b2⟩, cc, ⟨d1, d2⟩, e, ⟨f1, f2⟩, g⟩ := mt_
    generalize hw : (giC S1 u 14 + ((if nv = 0 then 0 else 1) - (if giC S1 (u + 3) i.toNatClampNeg = 0 then 0 else 1)) : Int32) = w
    have n : ∀ k, k ≠ 14 → giC (siC (siC S1 (u + 3) i.toNatClampNeg nv) u 14 w) u k = giC S1 u k := fun k hk => by rw [gi_si, if_neg (fun y => hk y.2), gi_si, if_neg (fun y => by omega)]
    have o : ∀ j k, 0 < j → j ≠ 3 → giC (siC (siC S1 (u + 3) i.toNatClampNeg nv) u 14 w) (u + j) k = giC S1 (u + j) k := fun j k h1 h2 => by rw [gi_si, if_neg (fun y => by omega), gi_si, if_neg (fun y => by omega)]
    have o3 : ∀ k, giC (siC (siC S1 (u + 3) i.toNatClampNeg nv) u 14 w) (u + 3) k = giC (siC S1 (u + 3) i.toNatClampNeg nv) (u + 3) k := fun k => by rw [gi_si, if_neg (fun y => by omega)]
    refine ⟨⟨(n 2 (by decide)).trans a1, (n 3 (by decide)).trans a2, (n 4 (by decide)).trans a3, (n 5 (by decide)).trans a4, (n 6 (by decide)).trans a5⟩, ⟨(n 7 (by decide)).trans b1, (n 11 (by decide)).trans b2⟩, fun z => ⟨(n 8 (by decide)).trans (cc z).1, (n 9 (by decide)).trans (cc z).2⟩, ⟨(o 1 1 (by omega) (by omega)).trans d1, fun i hi => (o 2 i (by omega) (by omega)).trans (d2 i hi)⟩, fun s hs => ?_, ⟨fun s h1 h2 => ?_, ?_⟩, g⟩
    · rw [o3, gi_si]
      show vB _ (upd (H.2 29) (200 * (f_X11_top H).1.toNatClampNeg + i.toNatClampNeg) b (200 * (f_X11_top H).1.toNatClampNeg + s))
      unfold upd
      by_cases y : s = i.toNatClampNeg
      · rw [if_pos ⟨rfl, y⟩, if_pos (by omega)]
        exact vbn
      · rw [if_neg (fun w => y w.2), if_neg (by omega)]
        exact e s hs
    · have h2 : (H.1 0).toInt ≤ (s : Int) := h2
      rw [o3, gi_si, if_neg (fun y => by have := q.2; omega)]
      exact f1 s h1 h2
    · rw [gi_si, if_pos ⟨rfl, rfl⟩, vCn_cg (S1 := siC S1 (u + 3) i.toNatClampNeg nv) o3, ← hw]
      have le := vCn_le S1 u 200
      have le2 := vCn_le (siC S1 (u + 3) i.toNatClampNeg nv) u 200
      by_cases y1 : nv = 0
      · by_cases y2 : giC S1 (u + 3) i.toNatClampNeg = 0
        · rw [if_pos y1, if_pos y2]
          rw [if_pos y1, if_pos y2] at vc
          have ez : giC S1 u 14 + (0 - 0) = giC S1 u 14 := Int32.add_zero _
          rw [ez, f2]
          omega
        · rw [if_pos y1, if_neg y2]
          rw [if_pos y1, if_neg y2] at vc
          have e0 : ((0 : Int32) - 1).toInt = -1 := by decide
          have aa := iAdd (x := giC S1 u 14) (y := 0 - 1) (by rw [e0]; omega) (by rw [e0]; omega)
          rw [aa, e0]
          omega
      · by_cases y2 : giC S1 (u + 3) i.toNatClampNeg = 0
        · rw [if_neg y1, if_pos y2]
          rw [if_neg y1, if_pos y2] at vc
          have e0 : ((1 : Int32) - 0).toInt = 1 := by decide
          have aa := iAdd (x := giC S1 u 14) (y := 1 - 0) (by rw [e0]; omega) (by rw [e0]; omega)
          rw [aa, e0]
          omega
        · rw [if_neg y1, if_neg y2]
          rw [if_neg y1, if_neg y2] at vc
          have e0 : ((1 : Int32) - 1).toInt = 0 := by decide
          have aa := iAdd (x := giC S1 u 14) (y := 1 - 1) (by rw [e0]; omega) (by rw [e0]; omega)
          rw [aa, e0]
          omega
  refine ⟨_, T1, c1, ?_, uu.1, r.tp a.ci a.k1 h z hu2 (((mC'.rf u S1).si _ _ (j := 3) (by omega) rfl).si 14 _ (j := 0) (by omega) rfl) ⟨?_, ?_, ?_⟩ (qM.b H _ _ _ n200) mm ⟨rfl, rfl, rfl, rfl, rfl⟩ ⟨rfl, rfl, rfl, rfl, rfl⟩ ⟨rfl, rfl, rfl, rfl, rfl⟩⟩
  · refine Prod.ext ?_ rfl
    exact vo_v mm ti h0
  · rw [gi_o (by decide), gi_si, if_neg (fun y => by omega)]
  · rw [gi_o (by decide), gi_si, if_neg (fun y => by omega)]
  · rw [gi_o (by decide), gi_si, if_neg (fun y => by omega)]
/-- one word more -/
theorem ap_v {q : Nat} (wf : wfS S1) (kq : iK S1 q 3) (mu : mR S1 q H (H.2 32 0).toNatClampNeg) (hd : 0 ≤ (H.2 32 0).toInt ∧ (H.2 32 0).toInt < 90) (w : Int32) (hw : 0 ≤ (H.2 19 (H.2 32 0).toNatClampNeg).toInt ∧ (H.2 19 (H.2 32 0).toNatClampNeg).toInt + cW w ≤ 400) : ∃ S2, f_Y9_append S1 (q + 1) w = (0, S2) ∧ mC' q S1 S2 ∧ (∀ k, giC S2 q k = giC S1 q k) ∧ mR S2 q (f_X11_addWord H w).2 (H.2 32 0).toNatClampNeg ∧ qM (f_X11_addWord H w).2 H (H.2 32 0).toNatClampNeg ∧ (f_X11_addWord H w).2.1 = H.1 ∧ (∀ k, k ≠ 19 → k ≠ 28 → (f_X11_addWord H w).2.2 k = H.2 k) ∧ ((f_X11_addWord H w).2.2 19 (H.2 32 0).toNatClampNeg).toInt = (H.2 19 (H.2 32 0).toNatClampNeg).toInt + cW w := by
  have w6 := wf.w6 (W3k wf kq).1
  have e400 : (Int32.ofNat 400).toInt = 400 := by decide
  unfold f_Y9_append b_Y9_append_36 f_X11_addWord
  by_cases z : w = 0
  · rw [if_pos z, if_pos z]
    refine ⟨S1, rfl, mC'.rf q S1, fun _ => rfl, mu, qM.rf H _, rfl, fun _ _ _ => rfl, ?_⟩
    rw [z]
    show (H.2 19 (H.2 32 0).toNatClampNeg).toInt = (H.2 19 (H.2 32 0).toNatClampNeg).toInt + cW 0
    unfold cW
    rw [if_pos rfl]
    omega
  · have c1 : cW w = 1 := by
      unfold cW
      rw [if_neg z]
    rw [c1] at hw ⊢
    have sz := mu.2.2.2.1.1
    rw [if_neg z, if_neg z, w6.2.1, Option.getD_some, w6.1.2, if_neg (fun y => by have := iLe.mp y; rw [e400, sz] at this; omega), zn0, tx_x hd ⟨hw.1, by omega⟩]
    have g1 : giC (siC S1 (q + 1 + 1) (giC S1 (q + 1) 1).toNatClampNeg w) (q + 1) 1 = H.2 19 (H.2 32 0).toNatClampNeg := by
      rw [gi_si, if_neg (fun y => by omega)]
      exact sz
    rw [g1, sz]
    have n400 : (H.2 19 (H.2 32 0).toNatClampNeg).toNatClampNeg < 400 := by
      have := iNat hw.1
      omega
    have a1 := iAdd (x := H.2 19 (H.2 32 0).toNatClampNeg) (y := 1) (by rw [i1]; omega) (by rw [i1]; omega)
    rw [i1] at a1
    have kn := iNat hw.1
    refine ⟨_, rfl, ((mC'.rf q S1).si _ _ (j := 2) (by omega) rfl).si _ _ (j := 1) (by omega) rfl, fun k => ?_, ?_, ?_, rfl, fun k h1 h2 => ?_, ?_⟩
    · rw [gi_si, if_neg (fun y => by omega), gi_si, if_neg (fun y => by omega)]
    · obtain ⟨⟨p1, p2, p3, p4, p5⟩, ⟨b1, b2⟩, cc, ⟨d1, d2⟩, e, ⟨f1, f2⟩, g⟩ := mu
      generalize hm : (H.2 32 0).toNatClampNeg = m at *
      have n : ∀ k, giC (siC (siC S1 (q + 1 + 1) (H.2 19 m).toNatClampNeg w) (q + 1) 1 (H.2 19 m + 1)) q k = giC S1 q k := fun k => by rw [gi_si, if_neg (fun y => by omega), gi_si, if_neg (fun y => by omega)]
      have o3 : ∀ k, giC (siC (siC S1 (q + 1 + 1) (H.2 19 m).toNatClampNeg w) (q + 1) 1 (H.2 19 m + 1)) (q + 3) k = giC S1 (q + 3) k := fun k => by rw [gi_si, if_neg (fun y => by omega), gi_si, if_neg (fun y => by omega)]
      have r19 : (sA (sA H 28 (400 * m + (H.2 19 m).toNatClampNeg) w) 19 m (H.2 19 m + 1)).2 19 m = H.2 19 m + 1 := if_pos rfl
      refine ⟨⟨(n 2).trans p1, (n 3).trans p2, (n 4).trans p3, (n 5).trans p4, (n 6).trans p5⟩, ⟨(n 7).trans b1, (n 11).trans b2⟩, fun y => ⟨(n 8).trans (cc y).1, (n 9).trans (cc y).2⟩, ⟨?_, fun i hi => ?_⟩, fun s hs => ?_, ⟨fun s h1 h2 => (o3 s).trans (f1 s h1 h2), ?_⟩, g⟩
      · rw [gi_si, if_pos ⟨rfl, rfl⟩]
        exact r19.symm
      · have hi : (i : Int) < ((sA (sA H 28 (400 * m + (H.2 19 m).toNatClampNeg) w) 19 m (H.2 19 m + 1)).2 19 m).toInt := hi
        rw [r19, a1] at hi
        rw [gi_si, if_neg (fun y => by omega), gi_si]
        show _ = upd (H.2 28) (400 * m + (H.2 19 m).toNatClampNeg) w (400 * m + i)
        unfold upd
        by_cases y : i = (H.2 19 m).toNatClampNeg
        · rw [if_pos ⟨by omega, y⟩, if_pos (by omega)]
        · rw [if_neg (fun v => y v.2), if_neg (by omega)]
          exact d2 i (by omega)
      · rw [o3]
        exact e s hs
      · rw [n, vCn_cg (S1 := S1) o3]
        exact f2
    · exact (qM.A _ _ _ (by decide) (by decide) (by decide) (by decide)).tr (qM.tx H _ _ _ n400)
    · show (if k = 19 then _ else if k = 28 then _ else H.2 k) = H.2 k
      rw [if_neg h1, if_neg h2]
    · have r19 : ((sA (sA H 28 (400 * (H.2 32 0).toNatClampNeg + (H.2 19 (H.2 32 0).toNatClampNeg).toNatClampNeg) w) 19 (H.2 32 0).toNatClampNeg (H.2 19 (H.2 32 0).toNatClampNeg + 1)).2 19 (H.2 32 0).toNatClampNeg) = H.2 19 (H.2 32 0).toNatClampNeg + 1 := if_pos rfl
      exact (congrArg Int32.toInt r19).trans a1
theorem mC'.tr {q : Nat} (h : mC' q S1 S2) (g : mC' q S2 S3) : mC' q S1 S3 := ⟨fun z k hz => (g.1 z k hz).trans (h.1 z k hz), fun z k => (g.2.1 z k).trans (h.2.1 z k), fun z => (g.2.2.1 z).trans (h.2.2.1 z), fun z c k => h.2.2.2 z c (g.2.2.2 z c k)⟩
/-- in the middle of words -/
def wW (x : Nat) (S : Cst) (T : Nat → List Nat) (col : Nat → Nat) (T1 : Nat → List Nat) (c1 : Nat → Nat) (S1 : Cst) (q : Nat) (H : HS) (m : Nat) (Sk : Cst) (Hk : HS) : Prop :=
  QU noE x S T [] col T1 [] c1 S1 Sk ∧ mC' q S1 Sk ∧ (∀ k, giC Sk q k = giC S1 q k) ∧ mR Sk q Hk m ∧ qM Hk H m ∧ Hk.1 = H.1 ∧ ∀ k, k ≠ 19 → k ≠ 28 → Hk.2 k = H.2 k
theorem wW.step {q m : Nat} {Sk : Cst} {Hk : HS} (W : wW x S T col T1 c1 S1 q H m Sk Hk) (hm : (H.2 32 0).toNatClampNeg = m) (hd : 0 ≤ (H.2 32 0).toInt ∧ (H.2 32 0).toInt < 90) (k : iK S1 q 3) (cq : c1 q = x) (w : Int32) (h0 : 0 ≤ (Hk.2 19 m).toInt) (hw : (Hk.2 19 m).toInt + cW w ≤ 400) : ∃ S2, f_Y9_append Sk ((grC Sk q 12).getD 0) w = (0, S2) ∧ wW x S T col T1 c1 S1 q H m S2 (f_X11_addWord Hk w).2 ∧ ((f_X11_addWord Hk w).2.2 19 m).toInt = (Hk.2 19 m).toInt + cW w := by
  obtain ⟨u, mc, sq, mr, qm_, e1, e2⟩ := W
  have kk : iK Sk q 3 := k.e u.2.2
  have wf := u.1.ci.wf
  have e32 : Hk.2 32 0 = H.2 32 0 := by rw [e2 32 (by decide) (by decide)]
  have hm' : (Hk.2 32 0).toNatClampNeg = m := by rw [e32]; exact hm
  have gr : grC Sk q 12 = some (q + 1) := (wf.w3 kk).2.1.1
  obtain ⟨S2, f, a1, a2, a3, a4, a5, a6, a7⟩ := ap_v (H := Hk) wf kk (by rw [hm']; exact mr) (by rw [e32]; exact hd) w (by rw [hm']; exact ⟨h0, hw⟩)
  rw [hm'] at a3 a4 a7
  have cx : ∀ j, j < 4 → c1 (q + j) = x := fun j hj => u.mc kk cq j hj
  obtain ⟨-, v, S3, f3, u3⟩ := y_append u.1 (W3k wf kk).1 (cx 1 (by omega)) (cx 2 (by omega)) w
  obtain ⟨-, rfl⟩ := Prod.mk.inj (f.symm.trans f3)
  rw [gr, Option.getD_some]
  exact ⟨S2, f, ⟨u.tr u3, mc.tr a1, fun j => (a2 j).trans (sq j), a3, a4.tr qm_, a5.trans e1, fun j h1 h2 => (a6 j h1 h2).trans (e2 j h1 h2)⟩, a7⟩
theorem ds_12 (a : AS x S T col S1 T1 c1) (r : RR wF N S1 T1 x H) (h : HA H) (i b c d : Int32) (z1 : ¬ H.1 35 = 0) (z2 : H.1 36 = 0) (hw : (H.2 19 (hM H 1 0)).toInt + cW i + cW b + cW c + cW d ≤ 400) : DS wF N x S T col (f_Y1_perform S1 x 12 i b c d) (f_X11_does H 12 i b c d) := by
  obtain ⟨q, eq, mu, -, hq⟩ := (rr_dr a r.2.1 r.2.2.1 h.1).2 z1 z2
  have hu : q ∈ T1 (x + 4) := by rw [hq]; exact List.mem_singleton.mpr rfl
  have kq := a.m3 hu
  have cq : c1 q = x := by rw [(a.ci.tk _ q hu).2]; exact a.1.cx 4 (by omega)
  have z1' := mt iEq.mpr z1
  rw [i0] at z1'
  have b35 := (h.1.1.1 1 (by omega)).1
  have e35 : hN H 1 = (H.1 35).toInt := rfl
  have hd := draft0_in h.1.ra (by omega)
  rw [zn0] at hd
  have eM : hM H 1 0 = (H.2 32 0).toNatClampNeg := rfl
  have bd := (h.1.1.2.2.2.2.1 1 0 (dr_L h z1 z2).1).2.1
  rw [eM] at hw bd
  have cp : ∀ v, 0 ≤ cW v := fun v => by
    unfold cW
    split <;> omega
  have c1' := cp i
  have c2' := cp b
  have c3' := cp c
  have c4' := cp d
  have W0 : wW x S T col T1 c1 S1 q H (H.2 32 0).toNatClampNeg S1 H := ⟨QU.rf a.1, mC'.rf q S1, fun _ => rfl, mu, qM.rf H _, rfl, fun _ _ _ => rfl⟩
  obtain ⟨Sa, fa, Wa, na⟩ := W0.step rfl hd kq cq i bd.1 (by omega)
  obtain ⟨Sb, fb, Wb, nb⟩ := Wa.step rfl hd kq cq b (by omega) (by omega)
  obtain ⟨Sc, fc, Wc, nc⟩ := Wb.step rfl hd kq cq c (by omega) (by omega)
  obtain ⟨Sd, fd, Wd, nd'⟩ := Wc.step rfl hd kq cq d (by omega) (by omega)
  have e1 : f_Y1_perform S1 x 12 i b c d = (giC Sd ((grC Sd q 12).getD 0) 1, Sd) := by
    unfold f_Y1_perform b_Y1_perform_217a f_Y1_addWords b_Y1_addWords_25a b_Y1_addWords_34a b_Y1_addWords_43a b_Y1_addWords_53a
    rw [a.g2, Option.getD_some, eq]
    simp only [reduceCtorEq, if_false, Option.getD_some, fa, fb, fc, fd]
    rfl
  have e2 : f_X11_does H 12 i b c d = ((f_X11_addWord (f_X11_addWord (f_X11_addWord (f_X11_addWord H i).2 b).2 c).2 d).2.2 19 ((f_X11_addWord (f_X11_addWord (f_X11_addWord (f_X11_addWord H i).2 b).2 c).2 d).2.2 32 (0 : Int32).toNatClampNeg).toNatClampNeg, (f_X11_addWord (f_X11_addWord (f_X11_addWord (f_X11_addWord H i).2 b).2 c).2 d).2) := rfl
  rw [e1, e2]
  generalize (f_X11_addWord (f_X11_addWord (f_X11_addWord (f_X11_addWord H i).2 b).2 c).2 d).2 = H2 at Wd
  obtain ⟨u, mc, sq, mr, qm_, p1, p2⟩ := Wd
  have e32 : H2.2 32 = H.2 32 := p2 32 (by decide) (by decide)
  refine ⟨_, T1, c1, ?_, u.1, r.dr a.ci a.k1 h z1 z2 hq mc ⟨sq 0, sq 1, sq 10⟩ qm_ mr ⟨by rw [p1], by rw [p1], by rw [p1], by rw [p1], by rw [p1]⟩ ⟨by rw [p1], by rw [p1], by rw [p1], by rw [p1], by rw [p1]⟩ ⟨p2 _ (by decide) (by decide), p2 _ (by decide) (by decide), p2 _ (by decide) (by decide), p2 _ (by decide) (by decide), p2 _ (by decide) (by decide)⟩⟩
  refine Prod.ext ?_ rfl
  show giC Sd ((grC Sd q 12).getD 0) 1 = H2.2 19 (H2.2 32 (0 : Int32).toNatClampNeg).toNatClampNeg
  rw [e32, zn0]
  exact tx_v mr u.1.ci.wf (kq.e u.2.2)
end
