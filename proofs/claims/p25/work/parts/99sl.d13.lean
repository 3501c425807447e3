section
/-! ===== the deeds: act 13 ===== -/
section
variable {wF : Prop × (Nat → Int32) × Int32 × (Nat → Int32)} {E : Nat → Prop} {x : Nat} {S S1 S2 S3 : Cst} {T T1 T2 T3 : Nat → List Nat} {F F1 : List Nat} {col c1 : Nat → Nat} {H H2 H3 : HS} {N N2 M M2 : Int} {D : Nat → Prop}
theorem ld_64 (hS : Sst noE x S T F col S2 T1 F1 c1) {d : Nat} (i : Int32) (r tp : Option Nat) (f1 : f_Y6_takeFrom S2 d (x + 3) = (0, S3)) : b_Y1_layDown_64 S2 x i (some d) r tp = (i, S3) := by
  have w2 := hS.ci.wf.w0 hS.k1
  unfold b_Y1_layDown_64 b_Y1_layDown_76
  simp only [reduceCtorEq, if_false]
  rw [w2.2.1.2.2.1]
  simp only [Option.getD_some, f1]
/-- the top's name is its subject's, in both -/
theorem top_jn (r : RR wF N S1 T1 x H) (h : HA H) (bN : (H.1 7).toInt ≤ N) (z : ¬ H.1 6 = 0) (k9 : H.2 14 (f_X11_top H).1.toNatClampNeg ≠ 9) : (1 ≤ (giC S1 ((T1 (x + 1)).getD (H.1 6 - 1).toNatClampNeg 0) 0).toInt ∧ (giC S1 ((T1 (x + 1)).getD (H.1 6 - 1).toNatClampNeg 0) 0).toInt ≤ (giC S1 x 8).toInt) ∧ (0 ≤ (H.1 30 - H.2 22 (f_X11_top H).1.toNatClampNeg).toInt ∧ (H.1 30 - H.2 22 (f_X11_top H).1.toNatClampNeg).toInt < N) ∧ (∀ g i, hL H g i → hT H g → (giC S1 ((T1 (x + 1)).getD (H.1 6 - 1).toNatClampNeg 0) 0 = giC S1 ((T1 (rP x g)).getD i 0) 0 ↔ H.2 22 (f_X11_top H).1.toNatClampNeg = H.2 22 (hM H g i))) ∧ ∀ g, hL H g 0 → ¬ hT H g → H.2 22 (f_X11_top H).1.toNatClampNeg ≠ H.2 22 (hM H g 0) := by
  obtain ⟨l, e⟩ := top_L h z
  rw [← e] at k9 ⊢
  obtain ⟨n1, n2, n3, n4⟩ := r.2.2.2.2.2
  have t0 : hT H 0 := trivial
  have a2 := (n2 0 _ l t0).1 k9
  have a3 := (n2 0 _ l t0).2.1
  have ag := h.1.1.2.2.2.2.2.1 0 _ l
  have hU := h.1.1.2.2.2.2.2.2.1
  have a2' := mt iEq.mpr a2
  rw [i0] at a2'
  refine ⟨⟨?_, a3.2⟩, ⟨ag.1, by omega⟩, fun g i lg tg => ⟨fun y => ?_, fun y => ?_⟩, fun g lg tg y => ?_⟩
  · have b := a3.1
    show 1 ≤ (giC S1 ((T1 (rP x 0)).getD (H.1 6 - 1).toNatClampNeg 0) 0).toInt
    omega
  · obtain ⟨e1, e2⟩ := n3 0 _ g i l t0 lg tg a2 y
    rw [← e1, ← e2]
  · obtain ⟨e1, e2⟩ := hU 0 _ g i l lg y
    rw [← e1, ← e2]
    rfl
  · obtain ⟨e1, -⟩ := hU 0 _ g 0 l lg y
    exact tg (by rw [← e1]; trivial)
theorem ds_13 (a : AS x S T col S1 T1 c1) (r : RR wF N S1 T1 x H) (h : HA H) (bN : (H.1 7).toInt ≤ N) (i b c d : Int32) (hi : 0 ≤ i.toInt ∧ i.toInt ≤ 7) (z1 : ¬ H.1 35 = 0) (z0 : H.2 34 i.toNatClampNeg = 0) (hw : wP H → ∃ q, q < 8 ∧ q ≠ i.toNatClampNeg ∧ H.2 34 q = 0) (ab : H.1 36 = 0 → H.2 25 (hM H 1 0) = 0 → (H.2 14 (hM H 1 0) = 2 ∨ H.2 14 (hM H 1 0) = 3) → ¬ H.1 6 = 0 ∧ H.2 14 (f_X11_top H).1.toNatClampNeg ≠ 9) : DS wF (N + 1) x S T col (f_Y1_perform S1 x 13 i b c d) (f_X11_does H 13 i b c d) := by
  have kp := iNat hi.1
  have hp : i.toNatClampNeg < 8 := by omega
  have pv := pa_v a.ci.wf a.k1 hp (i := i) (by omega)
  have z1' := mt iEq.mpr z1
  rw [i0] at z1'
  have n35 := h.1.1.1 1 (by omega)
  have e35 : hN H 1 = (H.1 35).toInt := rfl
  have h36 : H.1 36 = 0 ∨ H.1 36 = 1 := h.1.2.2.2.2.1
  have z0' := congrArg Int32.toInt z0
  rw [i0] at z0'
  have DO2 := (d_13 h.1 (by omega) hi (by omega) hw).1.1
  have e1 : f_Y1_perform S1 x 13 i b c d = f_Y1_layDown S1 x i := by
    unfold f_Y1_perform b_Y1_perform_223a
    rfl
  have e2 : f_X11_does H 13 i b c d = f_X11_lay H i := by
    unfold f_X11_does b_X11_does_a377
    rfl
  rw [e1, e2]
  have m0 : (H.2 32 (0 : Int32).toNatClampNeg).toNatClampNeg = hM H 1 0 := by rw [zn0]; rfl
  obtain ⟨t0, t1⟩ := rr_dr a r.2.1 r.2.2.1 h.1
  -- what is common: the state H' is laid from S'
  have fin : ∀ (S' : Cst) (H' : HS), Sst noE x S T [] col S' T1 [] c1 → RR wF N S' T1 x H' → HC (H.1 7).toInt H' → H'.1 = H.1 → H'.2 34 = H.2 34 → f_X11_lay H i = lp_X11_lay_67 100000 H' i (H.2 32 (0 : Int32).toNatClampNeg) 0 → (∀ S3, f_Y6_takeFrom S' (x + 13 + 3 * i.toNatClampNeg) (x + 3) = (0, S3) → f_Y1_layDown S1 x i = (i, S3)) → DS wF (N + 1) x S T col (f_Y1_layDown S1 x i) (f_X11_lay H i) := fun S' H' hS r' hc' q1 q34 el ec => by
    rw [el] at DO2 ⊢
    obtain ⟨u, el2, u1, u2⟩ := lay_W hi H' (H.2 32 (0 : Int32).toNatClampNeg) (by rw [q1]; exact h36) (by rw [q1]; omega)
    rw [el2] at DO2 ⊢
    rw [← kp] at u2
    obtain ⟨S3, T3, f1, f2, f3⟩ := lay_B hS r' hc' hp (by rw [q34]; exact z0) (by rw [q1]; exact z1) rfl u1 u2 DO2
    rw [ec S3 f1]
    exact ⟨S3, T3, c1, rfl, f2, f3.up (by omega)⟩
  by_cases z2 : H.1 36 = 0
  · obtain ⟨q, eq, mu, lq, hq⟩ := t1 z1 z2
    have hu : q ∈ T1 (x + 4) := by rw [hq]; exact List.mem_singleton.mpr rfl
    have kq := a.m3 hu
    have cq : c1 q = x := by rw [(a.ci.tk _ q hu).2]; exact a.1.cx 4 (by omega)
    have lq : giC S1 q 10 = H.2 25 (hM H 1 0) := lq
    have mu : mR S1 q H (hM H 1 0) := mu
    have o26 := r.2.2.1.2.2.2.1 1 (by omega) (dr_L h z1 z2).1 (dr_L h z1 z2).2
    by_cases z3 : H.2 25 (hM H 1 0) = 0
    · -- laid now
      have lp67 : f_X11_lay H i = lp_X11_lay_67 100000 (sA (if H.2 14 (hM H 1 0) = 2 ∨ H.2 14 (hM H 1 0) = 3 then sA H 23 (hM H 1 0) (H.2 22 (f_X11_top H).1.toNatClampNeg) else H) 25 (hM H 1 0) 1) i (H.2 32 (0 : Int32).toNatClampNeg) 0 := by
        unfold f_X11_lay b_X11_lay_43 b_X11_lay_a56 b_X11_lay_58 b_X11_lay_65
        rw [if_pos z2, m0, if_pos z3, top_s, vb1]
        by_cases k2 : H.2 14 (hM H 1 0) = 2
        · rw [if_pos k2, if_pos (Or.inl k2)]
        · rw [if_neg k2]
          by_cases k3 : H.2 14 (hM H 1 0) = 3
          · rw [if_pos k3, if_pos (Or.inr k3)]
          · rw [if_neg k3, if_neg (fun y => y.elim k2 k3)]
      have cl : ∀ y, (if f_Y4_amends (siC S1 q 10 1) q = 0 then 0 else if f_Y5_top S1 (x + 1) = none then 0 else giC (siC S1 q 10 1) ((f_Y5_top S1 (x + 1)).getD 0) 0) = y → ∀ S3, f_Y6_takeFrom (siC (siC S1 q 10 1) q 1 y) (x + 13 + 3 * i.toNatClampNeg) (x + 3) = (0, S3) → f_Y1_layDown S1 x i = (i, S3) := fun y ey S3 f1 => by
        have U := ((QU.rf a.1).mI kq cq 10 1 (by decide) (fun _ => bz1)).mI (ik_si.mpr kq) cq 1 y (by decide) (by omega)
        have g := ld_64 U.1 i (some q) (f_Y5_top S1 (x + 1)) f1
        unfold f_Y1_layDown b_Y1_layDown_44a b_Y1_layDown_60 b_Y1_layDown_61
        rw [pv, a.g2, a.g1]
        simp only [Option.getD_some]
        rw [eq]
        simp only [reduceCtorEq, if_false, Option.getD_some]
        rw [if_pos (lq.trans z3)]
        by_cases y1 : f_Y4_amends (siC S1 q 10 1) q = 0
        · rw [if_pos y1] at ey ⊢
          rw [ey]
          exact g
        · rw [if_neg y1] at ey ⊢
          by_cases y2 : f_Y5_top S1 (x + 1) = none
          · rw [if_pos y2] at ey ⊢
            rw [ey]
            exact g
          · rw [if_neg y2] at ey ⊢
            rw [ey]
            exact g
      have am : f_Y4_amends (siC S1 q 10 1) q = if H.2 14 (hM H 1 0) = 2 ∨ H.2 14 (hM H 1 0) = 3 then 1 else 0 := by
        have e := mu.1.1
        have g2 : giC (siC S1 q 10 1) q 2 = H.2 14 (hM H 1 0) := (gi_o (by decide)).trans e
        unfold f_Y4_amends b_Y4_amends_16 b_Y4_amends_21
        rw [g2]
        by_cases k2 : H.2 14 (hM H 1 0) = 2
        · rw [if_pos k2, if_pos (Or.inl k2)]
        · rw [if_neg k2]
          by_cases k3 : H.2 14 (hM H 1 0) = 3
          · rw [if_pos k3, if_pos (Or.inr k3)]
          · rw [if_neg k3, if_neg (fun y => y.elim k2 k3)]
      by_cases k23 : H.2 14 (hM H 1 0) = 2 ∨ H.2 14 (hM H 1 0) = 3
      · obtain ⟨p6, k9⟩ := ab z2 z3 k23
        obtain ⟨t, et, mt_, ht, ht2⟩ := (rr_top a r.2.1 h.1.ra).2 p6
        have J := top_jn r h bN p6 k9
        rw [← ht2] at J
        have nt : t ≠ q := fun e => by
          have e1 : x + 1 = x + 4 := a.ci.td _ _ q (by rw [← e]; exact ht) hu
          omega
        obtain ⟨r', hc'⟩ := r.la a h z1 z2 hq (giC S1 t 0) (H.2 22 (f_X11_top H).1.toNatClampNeg) (fun _ => J)
        rw [if_pos k23] at lp67
        have U := ((QU.rf a.1).mI kq cq 10 1 (by decide) (fun _ => bz1)).mI (ik_si.mpr kq) cq 1 (giC S1 t 0) (by decide) (by omega)
        refine fin _ _ U.1 r' hc' rfl rfl lp67 (cl (giC S1 t 0) ?_)
        rw [am, if_pos k23, if_neg (by decide), et, if_neg (by simp), Option.getD_some, gi_si, if_neg (fun e => nt e.1)]
      · obtain ⟨r', hc'⟩ := r.la a h z1 z2 hq 0 (H.2 23 (hM H 1 0)) (fun y => absurd y k23)
        rw [sA_id H 23 (hM H 1 0) rfl] at r' hc'
        rw [if_neg k23] at lp67
        have U := ((QU.rf a.1).mI kq cq 10 1 (by decide) (fun _ => bz1)).mI (ik_si.mpr kq) cq 1 0 (by decide) (by omega)
        refine fin _ _ U.1 r' hc' rfl rfl lp67 (cl 0 ?_)
        rw [am, if_neg k23, if_pos rfl]
    · -- laid before
      have b1 : H.2 25 (hM H 1 0) = 1 := by
        rw [← lq] at z3 ⊢
        exact ((a.ci.wf.w3 kq).2.2.1.2.1).resolve_left z3
      have lp67 : f_X11_lay H i = lp_X11_lay_67 100000 H i (H.2 32 (0 : Int32).toNatClampNeg) 0 := by
        unfold f_X11_lay b_X11_lay_58 b_X11_lay_65
        rw [if_pos z2, m0, if_neg z3, vb1, sA_id H 25 (hM H 1 0) b1]
      refine fin S1 H a.1 r h.1.1 rfl rfl lp67 (fun S3 f1 => ?_)
      have g := ld_64 a.1 i (some q) (f_Y5_top S1 (x + 1)) f1
      unfold f_Y1_layDown
      rw [pv, a.g2, a.g1]
      simp only [Option.getD_some]
      rw [eq]
      simp only [reduceCtorEq, if_false, Option.getD_some]
      rw [if_neg (fun y => z3 (lq.symm.trans y))]
      exact g
  · have em := t0 (Or.inr z2)
    have lp67 : f_X11_lay H i = lp_X11_lay_67 100000 H i (H.2 32 (0 : Int32).toNatClampNeg) 0 := by
      unfold f_X11_lay b_X11_lay_65
      rw [if_neg z2]
    refine fin S1 H a.1 r h.1.1 rfl rfl lp67 (fun S3 f1 => ?_)
    have g := ld_64 a.1 i none (f_Y5_top S1 (x + 1)) f1
    unfold f_Y1_layDown
    rw [pv, a.g2, a.g1]
    simp only [Option.getD_some]
    rw [em]
    simp only [if_true]
    exact g
end
end
section
/-! ===== the deeds: taking ===== -/
section
variable {wF : Prop × (Nat → Int32) × Int32 × (Nat → Int32)} {E : Nat → Prop} {x : Nat} {S S1 S2 S3 : Cst} {T T1 T2 T3 : Nat → List Nat} {F F1 : List Nat} {col c1 : Nat → Nat} {H H2 H3 : HS} {N N2 M M2 : Int} {D : Nat → Prop}
theorem take_w {x1 : Int32} (hx : 0 ≤ x1.toInt ∧ x1.toInt ≤ 7) : ∀ (n : Nat) (S : HS) (x : Int32), (S.2 34 x1.toNatClampNeg).toInt ≤ 9 → 0 ≤ x.toInt → x.toInt ≤ (S.2 34 x1.toNatClampNeg).toInt → (S.2 34 x1.toNatClampNeg).toInt - x.toInt < n →
    ∃ u, lp_X11_take_2 n S x1 x = (if S.2 37 x1.toNatClampNeg = 0 then S.2 14 (u 0).toNatClampNeg else 7, sR (sA (sI (sI (sR S 32 u) 35 (S.2 34 x1.toNatClampNeg)) 36 (S.2 37 x1.toNatClampNeg)) 34 x1.toNatClampNeg 0) 27 (upd (S.2 27) (u 0).toNatClampNeg 0)) ∧ (∀ i : Nat, x.toInt ≤ i → (i : Int) < (S.2 34 x1.toNatClampNeg).toInt → u i = S.2 33 (9 * x1.toNatClampNeg + i)) ∧ (∀ j : Nat, (j : Int) < x.toInt → u j = S.2 32 j) := by
  intro n
  induction n with
  | zero => intro S x h9 h1 h2 h3; omega
  | succ n ih =>
    intro S x h9 h1 h2 h3
    rw [lp_X11_take_2]
    unfold st_X11_take_2
    by_cases c : S.2 34 x1.toNatClampNeg ≤ x
    · rw [if_pos c]
      have c := iLe.mp c
      refine ⟨S.2 32, ?_, fun i a b => by omega, fun j _ => rfl⟩
      rw [sR_id]
      show (if S.2 37 x1.toNatClampNeg = 0 then _ else _) = _
      by_cases z : S.2 37 x1.toNatClampNeg = 0
      · rw [if_pos z, if_pos z, zn0]
        rfl
      · rw [if_neg z, if_neg z, zn0]
        rfl
    · rw [if_neg c]
      have c := mt iLe.mpr c
      have e := iAdd (x := x) (y := 1) (by rw [i1]; omega) (by rw [i1]; omega)
      rw [i1] at e
      have k := iNat h1
      have cc := c9 hx h1 (by omega)
      obtain ⟨u, q1, q2, q3⟩ := ih (sA S 32 x.toNatClampNeg (S.2 33 (9 * x1.toNatClampNeg + x.toNatClampNeg))) (x + 1) h9 (by omega) (by show _ ≤ (S.2 34 x1.toNatClampNeg).toInt; omega) (by show (S.2 34 x1.toNatClampNeg).toInt - _ < _; omega)
      rw [sR_sA] at q1
      refine ⟨u, ?_, fun i a b => ?_, fun j z => ?_⟩
      · rw [cc]
        exact q1
      · by_cases y : i = x.toNatClampNeg
        · subst y
          rw [q3 x.toNatClampNeg (by omega)]
          exact upd_eq
        · exact q2 i (by omega) b
      · rw [q3 j (by omega)]
        exact upd_ne (by omega)
theorem take_W {x1 : Int32} (hx : 0 ≤ x1.toInt ∧ x1.toInt ≤ 7) (S : HS) (h9 : 0 ≤ (S.2 34 x1.toNatClampNeg).toInt ∧ (S.2 34 x1.toNatClampNeg).toInt ≤ 9) : ∃ u, f_X11_take S x1 = (if S.2 37 x1.toNatClampNeg = 0 then S.2 14 (u 0).toNatClampNeg else 7, sR (sA (sI (sI (sR S 32 u) 35 (S.2 34 x1.toNatClampNeg)) 36 (S.2 37 x1.toNatClampNeg)) 34 x1.toNatClampNeg 0) 27 (upd (S.2 27) (u 0).toNatClampNeg 0)) ∧ ∀ i : Nat, (i : Int) < (S.2 34 x1.toNatClampNeg).toInt → u i = S.2 33 (9 * x1.toNatClampNeg + i) := by
  obtain ⟨u, q1, q2, -⟩ := take_w hx 100000 S 0 h9.2 (by rw [i0]; omega) (by rw [i0]; omega) (by rw [i0]; omega)
  rw [i0] at q2
  exact ⟨u, q1, fun i hi => q2 i (by omega) hi⟩
theorem ds_14 (a : AS x S T col S1 T1 c1) (r : RR wF N S1 T1 x H) (h : HA H) (i b c d : Int32) (hi : 0 ≤ i.toInt ∧ i.toInt ≤ 7) (z1 : H.1 35 = 0) (z0 : ¬ H.2 34 i.toNatClampNeg = 0) : DS wF (N + 1) x S T col (f_Y1_perform S1 x 14 i b c d) (f_X11_does H 14 i b c d) := by
  have kp := iNat hi.1
  have hp : i.toNatClampNeg < 8 := by omega
  have pv := pa_v a.ci.wf a.k1 hp (i := i) (by omega)
  have z1' := congrArg Int32.toInt z1
  rw [i0] at z1'
  have z0' := mt iEq.mpr z0
  rw [i0] at z0'
  have np := h.1.1.1 (i.toNatClampNeg + 2) (by omega)
  have e34 : hN H (i.toNatClampNeg + 2) = (H.2 34 i.toNatClampNeg).toInt := rfl
  have DO2 := (d_14 h.1 (by omega) hi z0).2.1.1
  obtain ⟨u, eu, u1⟩ := take_W hi H (by omega)
  rw [eu] at DO2
  have e2 : f_X11_does H 14 i b c d = f_X11_take H i := by
    unfold f_X11_does b_X11_does_a383
    rfl
  rw [e2, eu]
  clear e2 eu
  generalize hpd : i.toNatClampNeg = p at *
  have u0 := u1 0 (by omega)
  have m0 : (u 0).toNatClampNeg = hM H (p + 2) 0 := by rw [u0]; rfl
  rw [m0] at DO2 ⊢
  have L0 : hL H (p + 2) 0 := ⟨by omega, by omega⟩
  -- the class
  have o3 : pl x (x + 3) := Or.inl rfl
  have o : pl x (x + 13 + 3 * p) := Or.inr ⟨p, hp, rfl⟩
  have e4 : T1 (x + 3 + 1) = [] := by
    have l := r.2.1 1 (by omega)
    have e0 : hN H 1 = (H.1 35).toInt := rfl
    rw [e0, z1, i0] at l
    exact List.length_eq_zero_iff.mp (by have := l.1; show (T1 (x + 4)).length = 0; have e : rP x 1 = x + 4 := rfl; rw [e] at this; omega)
  obtain ⟨-, S3, T3, f1, f2, f3, f4, f5, f6, f7, f8⟩ := y_takeFrom noE_n a.1 o3 o (by omega) e4
  have n13 := n1_take noE_n a.1 o3 o (by omega) e4 f1
  have w3 := f2.ci.wf.w0 f2.k1
  obtain ⟨S4, hS4⟩ : ∃ S4, S4 = if giC S1 (x + 13 + 3 * p) 0 = 1 then siC S3 (x + 3) 0 2 else S3 := ⟨_, rfl⟩
  have f24 : Sst noE x S T [] col S4 T3 [] c1 := by
    rw [hS4]
    split
    · exact f2.sort o3 2
    · exact f2
  have f34 : gX (fun z => z = x + 3) S3 S4 := by
    rw [hS4]
    split
    · exact gX.si S3 (x + 3) 0 2
    · exact (gF.rf S3).x
  have n34 : S4.1 = S3.1 := by
    rw [hS4]
    split <;> rfl
  have so := (r.2.2.1.2.1 p hp).2 z0
  have s4 : giC S4 (x + 3) 0 = if H.2 37 p = 0 then 2 else 3 := by
    rw [hS4, so]
    by_cases y : H.2 37 p = 0
    · rw [if_pos y, if_pos y]
      by_cases w : H.2 27 (hM H (p + 2) 0) = 0
      · rw [if_pos w, if_neg (by decide), f4, so, if_pos y, if_pos w]
      · rw [if_neg w, if_pos rfl, gi_si, if_pos ⟨rfl, rfl⟩]
    · rw [if_neg y, if_neg y, if_neg (by decide), f4, so, if_neg y]
  have e1 : f_Y1_perform S1 x 14 i b c d = (f_Y6_kind S4 (x + 3), S4) := by
    have e : f_Y1_perform S1 x 14 i b c d = f_Y1_takeUp S1 x i := by
      unfold f_Y1_perform b_Y1_perform_229a
      rfl
    rw [e]
    unfold f_Y1_takeUp b_Y1_takeUp_18 b_Y1_takeUp_37
    rw [pv, a.g2]
    simp only [reduceCtorEq, if_false, Option.getD_some, f1]
    rw [w3.2.1.2.2.1, Option.getD_some, f4, hS4]
    by_cases y : giC S1 (x + 13 + 3 * p) 0 = 1
    · rw [if_pos y, if_pos y, gr_si, w3.2.1.2.2.1]
      rfl
    · rw [if_neg y, if_neg y]
  rw [e1]
  clear e1 hS4
  -- the rows
  obtain ⟨H2, hH2⟩ : ∃ H2, H2 = sR (sA (sI (sI (sR H 32 u) 35 (H.2 34 p)) 36 (H.2 37 p)) 34 p 0) 27 (upd (H.2 27) (hM H (p + 2) 0) 0) := ⟨_, rfl⟩
  have DO2 : HC ((H.1 7).toInt + 1) (sR (sA (sI (sI (sR H 32 u) 35 (H.2 34 p)) 36 (H.2 37 p)) 34 p 0) 27 (upd (H.2 27) (hM H (p + 2) 0) 0)) := DO2
  rw [← hH2] at DO2 ⊢
  have q1 : ∀ j, j ≠ 35 → j ≠ 36 → H2.1 j = H.1 j := fun j y y2 => by
    rw [hH2]
    show (if j = 36 then _ else if j = 35 then _ else H.1 j) = H.1 j
    rw [if_neg y2, if_neg y]
  have q35 : H2.1 35 = H.2 34 p := by rw [hH2]; rfl
  have q36 : H2.1 36 = H.2 37 p := by rw [hH2]; rfl
  have q2 : ∀ k, k ≠ 27 → k ≠ 32 → k ≠ 34 → H2.2 k = H.2 k := fun k y y2 y3 => by
    rw [hH2]
    show (if k = 27 then _ else if k = 34 then _ else if k = 32 then _ else H.2 k) = H.2 k
    rw [if_neg y, if_neg y3, if_neg y2]
  have q32 : H2.2 32 = u := by rw [hH2]; rfl
  have q27 : H2.2 27 = upd (H.2 27) (hM H (p + 2) 0) 0 := by rw [hH2]; rfl
  have q34 : H2.2 34 = upd (H.2 34) p 0 := by rw [hH2]; rfl
  clear hH2
  have r1 : hN H2 1 = hN H (p + 2) := by show (H2.1 35).toInt = _; rw [q35]; rfl
  have r2 : hN H2 (p + 2) = 0 := by show (H2.2 34 p).toInt = 0; rw [q34, upd_eq]; rfl
  have r3 : ∀ g, g ≠ 1 → g ≠ p + 2 → hN H2 g = hN H g := fun g n1 n2 => by
    match g, n1 with
    | 0, _ => show (H2.1 6).toInt = _; rw [q1 6 (by decide) (by decide)]; rfl
    | p' + 2, _ => show (H2.2 34 p').toInt = (H.2 34 p').toInt; rw [q34, upd_ne (by omega)]
  have r4 : ∀ i : Nat, (i : Int) < hN H (p + 2) → hM H2 1 i = hM H (p + 2) i := fun i hi => by
    show (H2.2 32 i).toNatClampNeg = (H.2 33 (9 * p + i)).toNatClampNeg
    rw [q32, u1 i hi]
  have r5 : ∀ g i, g ≠ 1 → hM H2 g i = hM H g i := fun g i n => by
    unfold hM
    match g, n with
    | 0, _ => show (H2.2 31 i).toNatClampNeg = _; rw [q2 31 (by decide) (by decide) (by decide)]; rfl
    | p' + 2, _ => show (H2.2 33 (9 * p' + i)).toNatClampNeg = _; rw [q2 33 (by decide) (by decide) (by decide)]; rfl
  have r6 : hT H2 1 ↔ hT H (p + 2) := by show H2.1 36 ≠ 0 ↔ H.2 37 p ≠ 0; rw [q36]
  have r7 : ∀ g, g ≠ 1 → (hT H2 g ↔ hT H g) := fun g n => by
    match g, n with
    | 0, _ => exact Iff.rfl
    | p' + 2, _ => show H2.2 37 p' ≠ 0 ↔ H.2 37 p' ≠ 0; rw [q2 37 (by decide) (by decide) (by decide)]
  have G : gX (D5 x S4.1) S1 S4 := (f3.mo (fun z y => Or.inr (y.elim (fun y => by rw [y]; exact o3) (fun y => by rw [y]; exact o)))).tr (f34.mo (fun z y => Or.inr (Or.inl y)))
  obtain ⟨⟨K1, K2, K3, K4⟩, K8, Kc⟩ := frD (H2 := H2) r a.ci a.k1 G f24.ci.wf (Or.inr (Nat.le_refl _)) (fun z k => Or.inr (ik_b (ik_b k f34.1 n34) f3.1 n13)) (fun k => absurd k.1 (Nat.lt_irrefl _)) (fun k h1 h2 => q1 k (by omega) (by omega)) (q1 39 (by decide) (by decide)) ⟨q2 11 (by decide) (by decide) (by decide), q2 12 (by decide) (by decide) (by decide), q2 38 (by decide) (by decide) (by decide), q2 40 (by decide) (by decide) (by decide), q2 41 (by decide) (by decide) (by decide)⟩
  have eT1 : T3 (rP x 1) = T1 (rP x (p + 2)) := f6
  have eTp : T3 (rP x (p + 2)) = [] := f7
  have eTo : ∀ g, g ≠ 1 → g ≠ p + 2 → T3 (rP x g) = T1 (rP x g) := fun g n1 n2 => f8 _ (fun y => n1 (rP_inj (x := x) (g := g) (g' := 1) y)) (fun y => n2 (rP_inj (x := x) (g := g) (g' := p + 2) y))
  have cs : ∀ g i, hL H g i → ∀ j, j < 4 → ∀ k, giC S4 ((T1 (rP x g)).getD i 0 + j) k = giC S1 ((T1 (rP x g)).getD i 0 + j) k := fun g i l => by
    have k := a.m3 (gD_mem (r.2.1.mem l))
    exact Kc _ k (fun y => by have := k.1; have := G.1.1.1; omega)
  have c0 : ∀ g i, hL H g i → ∀ k, giC S4 ((T1 (rP x g)).getD i 0) k = giC S1 ((T1 (rP x g)).getD i 0) k := fun g i l => cs g i l 0 (by omega)
  have n4 := r.2.2.2.2.2.2.2.2
  have R4 : RR wF N S4 T3 x H2 := by
    have main : ∀ gs, (H.2 37 p = 0 ∧ gs = 1 ∨ H.2 37 p ≠ 0 ∧ gs = 10) → RR wF N S4 T3 x H2 := fun gs hgs => by
      have one : hL H2 gs 0 → gs = 1 ∧ H.2 37 p = 0 := fun l => by
        rcases hgs with ⟨y, z⟩ | ⟨y, z⟩
        · exact ⟨z, y⟩
        · have := l.1
          omega
      refine r.ex (gs := gs) (is := 0) h.1.1 DO2 K1 K2 K3 K4 (q1 0 (by decide) (by decide)) (fun g hg => ?_) ⟨fun y => ?_, fun y => ?_⟩ (fun p' hp' => ?_) ⟨by rw [K8]; exact Int.le_refl _, by rw [K8]; exact r.2.2.2.2.2.1.2⟩ (fun s h1 h2 => by rw [q1 30 (by decide) (by decide)]; omega) (fun g i l n => ?_) (fun l => ?_) (fun l t => ?_) (fun l t => ?_) (fun l j lj t d k => ?_) (fun l t d k => ?_)
      · by_cases y1 : g = 1
        · rw [y1, eT1, r1]
          exact (r.2.1 (p + 2) (by omega)).1
        · by_cases y2 : g = p + 2
          · rw [y2, eTp, r2]
            rfl
          · rw [eTo g y1 y2, r3 g y1 y2]
            exact (r.2.1 g hg).1
      · rw [q35] at y
        exact absurd y z0
      · rw [q36]
        exact s4
      · by_cases y : p' = p
        · subst y
          rw [q34, upd_eq]
          refine ⟨fun _ => ?_, fun w => absurd rfl w⟩
          rw [srt f34 f2.ci f2.k1 o (by omega)]
          exact f5
        · have o' : pl x (x + 13 + 3 * p') := Or.inr ⟨p', hp', rfl⟩
          rw [q34, upd_ne y, q2 37 (by decide) (by decide) (by decide), srt f34 f2.ci f2.k1 o' (by omega), srt f3 a.ci a.k1 o' (by omega), r5 _ _ (by omega), q27]
          refine ⟨(r.2.2.1.2.1 p' hp').1, fun w => ?_⟩
          have b := h.1.1.1 (p' + 2) (by omega)
          have w' := mt iEq.mpr w
          rw [i0] at w'
          have e0 : hN H (p' + 2) = (H.2 34 p').toInt := rfl
          have l' : hL H (p' + 2) 0 := ⟨by omega, by omega⟩
          rw [upd_ne (fun v => by have := (h.1.1.d l' L0 v).1; omega)]
          exact (r.2.2.1.2.1 p' hp').2 w
      · have fin : ∀ g' i', hL H g' i' → hM H2 g i = hM H g' i' → (hT H2 g ↔ hT H g') → (¬ hT H g' → 2 ≤ g' → 2 ≤ g) → T3 (rP x g) = T1 (rP x g') → i = i' → (¬ hT H g' → ¬ (g' = p + 2 ∧ i' = 0)) → ∃ g' i', oM S1 S4 T1 T3 x H H2 g i g' i' := fun g' i' l' m' t' g2 e' ei np' => by
          refine ⟨g', i', l', m', t', g2, by rw [e', ei], cs g' i' l', fun k h1 h2 => by rw [q2 k (by omega) (by omega) (by omega)], fun t => ?_, fun n _ => by rw [q2 28 (by decide) (by decide) (by decide)], fun n _ => by rw [q2 29 (by decide) (by decide) (by decide)]⟩
          rw [q27]
          exact upd_ne (fun v => np' t (h.1.1.d l' L0 v))
        by_cases y1 : g = 1
        · have l2 := l.2
          rw [y1, r1] at l2
          have l' : hL H (p + 2) i := ⟨by omega, l2⟩
          rcases hgs with ⟨y, z⟩ | ⟨y, z⟩
          · exfalso
            have := lone0 h.1.1 l' (fun t => t y)
            exact n ⟨by omega, this⟩
          · exact fin (p + 2) i l' (by rw [y1]; exact r4 i l2) (by rw [y1]; exact r6) (fun t => absurd y t) (by rw [y1]; exact eT1) rfl (fun t => absurd y t)
        · by_cases y2 : g = p + 2
          · have := l.2
            rw [y2, r2] at this
            omega
          · have l2 := l.2
            rw [r3 g y1 y2] at l2
            exact fin g i ⟨l.1, l2⟩ (r5 g i y1) (r7 g y1) (fun _ => id) (eTo g y1 y2) rfl (fun _ w => y2 w.1)
      · obtain ⟨rfl, y⟩ := one l
        rw [eT1, r4 0 (by omega)]
        have b := (h.1.1.2.2.2.2.1 _ _ L0).2.1.2
        exact ((r.2.1 (p + 2) (by omega)).2 0 (r.2.1.mem L0)).cg (cs _ _ L0) (q1 0 (by decide) (by decide)) (fun k h1 h2 => by rw [q2 k (by omega) (by omega) (by omega)]) (fun n _ => by rw [q2 28 (by decide) (by decide) (by decide)]) (fun n _ => by rw [q2 29 (by decide) (by decide) (by decide)])
      · obtain ⟨rfl, y⟩ := one l
        have nt : ¬ hT H (p + 2) := fun t => t y
        rw [eT1, r4 0 (by omega), c0 _ _ L0, q2 25 (by decide) (by decide) (by decide), q2 26 (by decide) (by decide) (by decide), q27, upd_eq]
        exact ⟨r.2.2.1.2.2.1 _ (by omega) L0 nt, r.2.2.1.2.2.2.1 _ (by omega) L0 nt, fun v => absurd rfl v⟩
      · obtain ⟨rfl, y⟩ := one l
        exact absurd y (r6.mp t)
      · obtain ⟨rfl, y⟩ := one l
        rw [r4 0 (by omega), q2 22 (by decide) (by decide) (by decide)]
        exact (n4 j lj t d k).2.2.2 (p + 2) L0 (fun t => t y)
      · obtain ⟨rfl, y⟩ := one l
        have nt : ¬ hT H (p + 2) := fun t => t y
        rw [r4 0 (by omega), q2 25 (by decide) (by decide) (by decide)] at d
        rw [r4 0 (by omega), q2 14 (by decide) (by decide) (by decide)] at k
        obtain ⟨j1, j2, j3, j4⟩ := n4 _ L0 nt d k
        unfold jN
        rw [eT1, r4 0 (by omega), c0 _ _ L0, K8, q2 23 (by decide) (by decide) (by decide), q1 30 (by decide) (by decide)]
        refine ⟨j1, j2, fun g i lg tg => ?_, fun g lg tg => ?_⟩
        · have y1 : g ≠ 1 := fun v => by
            rw [v] at tg
            exact absurd y (r6.mp tg)
          have y2 : g ≠ p + 2 := fun v => by
            have := lg.2
            rw [v, r2] at this
            omega
          have lg' : hL H g i := ⟨lg.1, by rw [← r3 g y1 y2]; exact lg.2⟩
          rw [r5 g i y1, q2 22 (by decide) (by decide) (by decide), eTo g y1 y2, c0 _ _ lg']
          exact j3 g i lg' ((r7 g y1).mp tg)
        · rw [q2 22 (by decide) (by decide) (by decide)]
          by_cases y1 : g = 1
          · rw [y1, r4 0 (by omega)]
            exact j4 _ L0 nt
          · have y2 : g ≠ p + 2 := fun v => by
              have := lg.2
              rw [v, r2] at this
              omega
            rw [r5 g 0 y1]
            exact j4 g ⟨lg.1, by rw [← r3 g y1 y2]; exact lg.2⟩ (mt (r7 g y1).mpr tg)
    by_cases y : H.2 37 p = 0
    · exact main 1 (Or.inl ⟨y, rfl⟩)
    · exact main 10 (Or.inr ⟨y, rfl⟩)
  refine ⟨S4, T3, c1, ?_, f24, R4.up (by omega)⟩
  refine Prod.ext ?_ rfl
  show f_Y6_kind S4 (x + 3) = if H.2 37 p = 0 then H.2 14 (hM H (p + 2) 0) else 7
  have w5 := f24.ci.wf.w5 (o3.lt f24.ci f24.k1)
  unfold f_Y6_kind b_Y6_kind_32
  rw [s4]
  by_cases y : H.2 37 p = 0
  · have le : 0 < (T3 (x + 3 + 1)).length := by
      have := r.2.1.mem L0
      rw [show T3 (x + 3 + 1) = T1 (rP x (p + 2)) from eT1]
      exact this
    have at0 := at_s f24.ci (noE_n _) w5.1 (i := 0) (by rw [i0]; omega) (by rw [i0]; omega)
    rw [if_pos y, if_pos y, if_neg (by decide), w5.2, Option.getD_some, at0, if_neg (by simp), Option.getD_some, zn0, show T3 (x + 3 + 1) = T1 (rP x (p + 2)) from eT1, c0 _ _ L0]
    exact ((r.2.1 (p + 2) (by omega)).2 0 (r.2.1.mem L0)).1.1
  · rw [if_neg y, if_neg y, if_pos rfl]
end
end
section
/-! ===== the deeds: moving ===== -/
section
variable {wF : Prop × (Nat → Int32) × Int32 × (Nat → Int32)} {E : Nat → Prop} {x : Nat} {S S1 S2 S3 : Cst} {T T1 T2 T3 : Nat → List Nat} {F F1 : List Nat} {col c1 : Nat → Nat} {H H2 H3 : HS} {N N2 M M2 : Int} {D : Nat → Prop}
theorem move_a {x1 : Int32} : ∀ (n : Nat) (S : HS) (x : Int32), 0 ≤ x.toInt → x.toInt ≤ 9 → (S.1 35).toInt ≤ 9 → 10 - x.toInt < n → (lp_X11_move_77 n S x1 x).1 = S.1 6 + S.1 35 := by
  intro n
  induction n with
  | zero => intro S x h1 h2 h3 h4; omega
  | succ n ih =>
    intro S x h1 h2 h3 h4
    rw [lp_X11_move_77]
    unfold st_X11_move_77
    by_cases c : S.1 35 ≤ x
    · rw [if_pos c]
      rfl
    · rw [if_neg c]
      have c := mt iLe.mpr c
      have e := iAdd (x := x) (y := 1) (by rw [i1]; omega) (by rw [i1]; omega)
      rw [i1] at e
      exact ih (sA S 31 (S.1 6 + x).toNatClampNeg (S.2 32 x.toNatClampNeg)) (x + 1) (by omega) (by omega) h3 (by omega)
theorem move_W {x1 : Int32} (S : HS) (h6 : 0 ≤ (S.1 6).toInt) (h35 : 0 ≤ (S.1 35).toInt) (h9 : (S.1 6).toInt + (S.1 35).toInt ≤ 9) : ∃ u, lp_X11_move_77 100000 S x1 0 = (S.1 6 + S.1 35, sI (sI (sI (sR S 31 u) 6 (S.1 6 + S.1 35)) 35 0) 5 (-1)) ∧ (∀ i : Nat, (i : Int) < (S.1 35).toInt → u ((S.1 6).toNatClampNeg + i) = S.2 32 i) ∧ (∀ j : Nat, (j : Int) < (S.1 6).toInt → u j = S.2 31 j) := by
  obtain ⟨u, q1, q2, q3⟩ := move_w x1 100000 S 0 h6 h9 (by rw [i0]; omega) (by rw [i0]; omega) (by rw [i0]; omega)
  have e := move_a (x1 := x1) 100000 S 0 (by rw [i0]; omega) (by rw [i0]; omega) (by omega) (by rw [i0]; omega)
  rw [i0] at q2 q3
  exact ⟨u, Prod.ext e q1, fun i hi => q2 i (by omega) hi, fun j hj => q3 j (by omega)⟩
/-- rows behind moving -/
theorem moveRows {u : Nat → Int32} {k : Nat} (e : H2 = sI (sI (sR H 31 u) 6 (H.1 6 + H.1 35)) 35 0) (h6 : 0 ≤ (H.1 6).toInt) (h35 : 0 ≤ (H.1 35).toInt) (h9 : (H.1 6).toInt + (H.1 35).toInt ≤ 9) (hk : (k : Int) = (H.1 6).toInt) (u1 : ∀ i : Nat, (i : Int) < (H.1 35).toInt → u (k + i) = H.2 32 i) (u2 : ∀ j : Nat, (j : Int) < (H.1 6).toInt → u j = H.2 31 j) :
    hN H2 1 = 0 ∧ hN H2 0 = hN H 0 + hN H 1 ∧ (∀ p, hN H2 (p + 2) = hN H (p + 2)) ∧ (∀ i : Nat, (i : Int) < hN H 1 → hM H2 0 (k + i) = hM H 1 i) ∧ (∀ i : Nat, i < k → hM H2 0 i = hM H 0 i) ∧ (∀ p i, hM H2 (p + 2) i = hM H (p + 2) i) ∧ ∀ g, (hT H2 g ↔ hT H g) := by
  have q31 : H2.2 31 = u := by rw [e]; rfl
  have q34 : H2.2 34 = H.2 34 := by rw [e]; rfl
  have q33 : H2.2 33 = H.2 33 := by rw [e]; rfl
  have q37 : H2.2 37 = H.2 37 := by rw [e]; rfl
  have q6 : H2.1 6 = H.1 6 + H.1 35 := by rw [e]; rfl
  have q36 : H2.1 36 = H.1 36 := by rw [e]; rfl
  have q35 : H2.1 35 = 0 := by rw [e]; rfl
  have a6 := iAdd (x := H.1 6) (y := H.1 35) (by omega) (by omega)
  refine ⟨?_, ?_, fun p => ?_, fun i hi => ?_, fun i hi => ?_, fun p i => ?_, fun g => ?_⟩
  · show (H2.1 35).toInt = 0
    rw [q35]
    rfl
  · show (H2.1 6).toInt = (H.1 6).toInt + (H.1 35).toInt
    rw [q6, a6]
  · show (H2.2 34 p).toInt = _
    rw [q34]
    rfl
  · show (H2.2 31 (k + i)).toNatClampNeg = (H.2 32 i).toNatClampNeg
    rw [q31, u1 i hi]
  · show (H2.2 31 i).toNatClampNeg = (H.2 31 i).toNatClampNeg
    rw [q31, u2 i (by omega)]
  · show (H2.2 33 (9 * p + i)).toNatClampNeg = (H.2 33 (9 * p + i)).toNatClampNeg
    rw [q33]
  · match g with
    | 0 => exact Iff.rfl
    | 1 => show H2.1 36 ≠ 0 ↔ H.1 36 ≠ 0; rw [q36]
    | p + 2 => show H2.2 37 p ≠ 0 ↔ H.2 37 p ≠ 0; rw [q37]
theorem mR.mx {q m : Nat} (h : mR S1 q H m) (h0 : H2.1 0 = H.1 0) (cc : ∀ k, k ≠ 0 → k ≠ 1 → k ≠ 3 → k ≠ 10 → giC S2 q k = giC S1 q k) (cj : ∀ j, 0 < j → j < 4 → ∀ k, giC S2 (q + j) k = giC S1 (q + j) k) (e3 : giC S2 q 3 = H2.2 15 m) (f : ∀ k, 14 ≤ k → k ≤ 26 → k ≠ 15 → k ≠ 22 → k ≠ 23 → k ≠ 25 → H2.2 k m = H.2 k m) (fx : ∀ i : Nat, (i : Int) < (H.2 19 m).toInt → H2.2 28 (400 * m + i) = H.2 28 (400 * m + i)) (fb : ∀ s, s < 200 → H2.2 29 (200 * m + s) = H.2 29 (200 * m + s)) : mR S2 q H2 m := by
  obtain ⟨⟨a1, a2, a3, a4, a5⟩, ⟨b1, b2⟩, c, ⟨d1, d2⟩, e, ⟨f1, f2⟩, g⟩ := h
  have m14 := f 14 (by omega) (by omega) (by omega) (by omega) (by omega) (by omega)
  have m19 := f 19 (by omega) (by omega) (by omega) (by omega) (by omega) (by omega)
  have m20 := f 20 (by omega) (by omega) (by omega) (by omega) (by omega) (by omega)
  have m21 := f 21 (by omega) (by omega) (by omega) (by omega) (by omega) (by omega)
  have m26 := f 26 (by omega) (by omega) (by omega) (by omega) (by omega) (by omega)
  refine ⟨⟨?_, e3, ?_, ?_, ?_⟩, ⟨?_, ?_⟩, fun z => ?_, ⟨?_, fun i hi => ?_⟩, fun s hs => ?_, ⟨fun s h1 h2 => ?_, ?_⟩, fun z1 z2 => ?_⟩
  · rw [cc 2 (by decide) (by decide) (by decide) (by decide), m14]
    exact a1
  · rw [cc 4 (by decide) (by decide) (by decide) (by decide), f 16 (by omega) (by omega) (by omega) (by omega) (by omega) (by omega)]
    exact a3
  · rw [cc 5 (by decide) (by decide) (by decide) (by decide), f 17 (by omega) (by omega) (by omega) (by omega) (by omega) (by omega)]
    exact a4
  · rw [cc 6 (by decide) (by decide) (by decide) (by decide), f 18 (by omega) (by omega) (by omega) (by omega) (by omega) (by omega)]
    exact a5
  · rw [cc 7 (by decide) (by decide) (by decide) (by decide), f 24 (by omega) (by omega) (by omega) (by omega) (by omega) (by omega)]
    exact b1
  · rw [cc 11 (by decide) (by decide) (by decide) (by decide), m26]
    exact b2
  · rw [m26] at z
    rw [cc 8 (by decide) (by decide) (by decide) (by decide), cc 9 (by decide) (by decide) (by decide) (by decide), m20, m21]
    exact c z
  · rw [cj 1 (by omega) (by omega), m19]
    exact d1
  · rw [m19] at hi
    rw [cj 2 (by omega) (by omega), fx i hi]
    exact d2 i hi
  · rw [cj 3 (by omega) (by omega), fb s hs]
    exact e s hs
  · rw [h0] at h2
    rw [cj 3 (by omega) (by omega)]
    exact f1 s h1 h2
  · rw [cc 14 (by decide) (by decide) (by decide) (by decide), vCn_cg (S1 := S1) (cj 3 (by omega) (by omega))]
    exact f2
  · rw [m14] at z1 z2
    rw [m20, m21, m26]
    exact g z1 z2
/-- one more name -/
theorem RR.nm (r : RR wF N S1 T1 x H) (ci : CI noE S1 T1 [] c1) (kx : iK S1 x 0) (bN : N ≤ 1000000) : RR wF (N + 1) (siC S1 x 8 (giC S1 x 8 + 1)) T1 x H ∧ (giC S1 x 8 + 1).toInt = (giC S1 x 8).toInt + 1 := by
  obtain ⟨rh, w, o, j, ⟨aa, sv⟩, n1, n2, n3, n4⟩ := r
  have e8 := iAdd (x := giC S1 x 8) (y := 1) (by rw [i1]; omega) (by rw [i1]; omega)
  rw [i1] at e8
  refine ⟨?_, e8⟩
  have ne : ∀ z k, z ≠ x ∨ k ≠ 8 → giC (siC S1 x 8 (giC S1 x 8 + 1)) z k = giC S1 z k := fun z k h => by
    rw [gi_si, if_neg (fun y => h.elim (fun f => f y.1) (fun f => f y.2))]
  have n88 : giC (siC S1 x 8 (giC S1 x 8 + 1)) x 8 = giC S1 x 8 + 1 := by rw [gi_si, if_pos ⟨rfl, rfl⟩]
  have hm : mQ T1 x S1 (siC S1 x 8 (giC S1 x 8 + 1)) := fun g _ q m i hi k => ne _ _ (Or.inl (mo_x ci kx (ci.tk _ q m).1 hi).1)
  have s := sH.rf H
  have ee : ∀ g i, hL H g i → ∀ k, giC (siC S1 x 8 (giC S1 x 8 + 1)) ((T1 (rP x g)).getD i 0) k = giC S1 ((T1 (rP x g)).getD i 0) k := fun g i l k => hm g l.1 _ (gD_mem (w.mem l)) 0 (by omega) k
  refine ⟨?_, w.cg s (fun _ _ => rfl) hm, o.cg w s (fun _ _ => rfl) hm (ne _ _ (Or.inl (by omega))) (fun p _ => ne _ _ (Or.inl (by omega))), j.cg rfl rfl rfl rfl (fun l hl => ⟨fun k => ne _ _ (Or.inl (by omega)), gr_si .., fun k => ne _ _ (Or.inl ?_)⟩) (fun q => ln_si ..) (fun q k => ik_si.mp k), ⟨aa.cg (ne _ _ (Or.inr (by decide))) (ne _ _ (Or.inr (by decide))) (ne _ _ (Or.inl (by omega))) (fun k => ne _ _ (Or.inl (by omega))) rfl rfl rfl (Int.le_refl _) rfl, fun q m => ?_, sv.2⟩, ?_, fun g i l t => ?_, fun g i g' i' l t l' t' k0 e => ?_, fun j l t d k => ?_⟩
  · obtain ⟨⟨p0, p1, p2, p3, p4, p5⟩, p6, p7, p8⟩ := rh
    have e : ∀ k, giC (siC S1 x 8 (giC S1 x 8 + 1)) (x + 37) k = giC S1 (x + 37) k := fun k => ne _ _ (Or.inl (by omega))
    exact ⟨⟨(e 0).trans p0, (e 2).trans p1, (e 3).trans p2, (e 4).trans p3, (e 5).trans p4, (e 6).trans p5⟩, fun s h1 h2 => (ne _ _ (Or.inl (by omega))).trans (p6 s h1 h2), fun k hk => (ne _ _ (Or.inl (by omega))).trans (p7 k hk), p8⟩
  · have z := (zl_k ci kx hl).2
    exact ik_ne z kx (by decide)
  · have kq := ik_si.mp m
    have c : ∀ i, i < 4 → ∀ k, giC (siC S1 x 8 (giC S1 x 8 + 1)) (q + i) k = giC S1 (q + i) k := fun i hi k => ne _ _ (Or.inl (mo_x ci kx kq hi).1)
    rw [vCn_cg (c 3 (by omega)), show giC (siC S1 x 8 (giC S1 x 8 + 1)) q 14 = giC S1 q 14 from c 0 (by omega) 14]
    exact sv.1 q kq
  · rw [n88]
    omega
  · rw [ee g i l, n88]
    have y := n2 g i l t
    exact ⟨y.1, by omega, y.2.2⟩
  · rw [ee g i l, ee g' i' l'] at e
    rw [ee g i l] at k0
    exact n3 g i g' i' l t l' t' k0 e
  · obtain ⟨q1, q2, q3, q4⟩ := n4 j l t d k
    rw [ee j 0 l, n88]
    exact ⟨by omega, by omega, fun g i lg tg => by rw [ee g i lg]; exact q3 g i lg tg, q4⟩
end
end
section
/-! ===== the deeds: act 15 ===== -/
section
variable {wF : Prop × (Nat → Int32) × Int32 × (Nat → Int32)} {E : Nat → Prop} {x : Nat} {S S1 S2 S3 : Cst} {T T1 T2 T3 : Nat → List Nat} {F F1 : List Nat} {col c1 : Nat → Nat} {H H2 H3 : HS} {N N2 M M2 : Int} {D : Nat → Prop}
/-- the class's end of it: the draft poured upon the pending ones -/
theorem br_v (hS : Sst noE x S T [] col S2 T1 [] c1) (i : Int32) (rr : Option Nat) {v : Int32} (hl : (T1 (x + 1)).length + (T1 (x + 4)).length ≤ 9) (hv : v.toInt = (T1 (x + 1)).length + (T1 (x + 4)).length) : ∃ S3 T3, b_Y1_bringUp_40 S2 x i rr = (v, siC (siC S3 (x + 3) 0 0) (x + 37) 6 (-1)) ∧ Sst noE x S T [] col S3 T3 [] c1 ∧ gF S2 S3 ∧ T3 (x + 4) = [] ∧ T3 (x + 1) = T1 (x + 1) ++ T1 (x + 4) ∧ ∀ c, c ≠ x + 4 → c ≠ x + 1 → T3 c = T1 c := by
  have o3 : pl x (x + 3) := Or.inl rfl
  have w2 := hS.ci.wf.w0 hS.k1
  have w5 := hS.ci.wf.w5 (o3.lt hS.ci hS.k1)
  obtain ⟨-, S3, T3, f1, f2, f3, f4, f5, f6⟩ := y_pour noE_n hS (P := x + 4) (Q := x + 1) (Or.inr (Or.inr (Or.inl rfl))) (by omega) (Or.inr (Or.inl rfl)) (by omega) (by omega) hl
  have w3 := f2.ci.wf.w0 f2.k1
  refine ⟨S3, T3, ?_, f2, f3, f4, f5, f6⟩
  have sz : giC S3 (x + 1) 1 = v := by
    refine iEq.mpr ?_
    rw [(f2.ci.tp (x + 1) (noE_n _) w3.1.2.1).1, f5, hv, List.length_append]
    omega
  unfold b_Y1_bringUp_40 b_Y1_bringUp_54a
  rw [w2.2.1.2.2.1, w2.2.1.2.1]
  simp only [Option.getD_some]
  rw [w5.2, Option.getD_some, f1]
  simp only [gr_si, w3.2.1.2.2.1, w3.2.1.1, w3.2.1.2.1, Option.getD_some]
  rw [gi_si, if_neg (fun y => by omega), gi_si, if_neg (fun y => by omega), sz]
theorem ds_15 (a : AS x S T col S1 T1 c1) (r : RR wF N S1 T1 x H) (h : HA H) (bN : 0 ≤ N ∧ N ≤ 1000000) (i b c d : Int32) (z1 : ¬ H.1 35 = 0) (t1 : H.1 36 ≠ 0 → H.1 6 = 0) (t0 : H.1 36 = 0 → mV H (hM H 1 0) (f_X11_top H).1.toNatClampNeg) (o26 : H.1 36 = 0 → H.2 26 (hM H 1 0) = 0) : DS wF (N + 1) x S T col (f_Y1_perform S1 x 15 i b c d) (f_X11_does H 15 i b c d) := by
  have o3 : pl x (x + 3) := Or.inl rfl
  have z1' := mt iEq.mpr z1
  rw [i0] at z1'
  have n35 := h.1.1.1 1 (by omega)
  have n6 := h.1.1.1 0 (by omega)
  have e35 : hN H 1 = (H.1 35).toInt := rfl
  have e6 : hN H 0 = (H.1 6).toInt := rfl
  have k6 := iNat (x := H.1 6) (by omega)
  have L1 : hL H 1 0 := ⟨by omega, by omega⟩
  have DO2 := (d_15 h.1 (by omega) i t1 t0).2
  have rn := rr_n r.2.1
  have rd := rr_d r.2.1
  have h9 : (H.1 6).toInt + (H.1 35).toInt ≤ 9 := by
    by_cases z2 : H.1 36 = 0
    · have := (t0 z2).1
      have := n35.2.2 (fun t => t z2)
      omega
    · have := congrArg Int32.toInt (t1 z2)
      rw [i0] at this
      omega
  have a6 := iAdd (x := H.1 6) (y := H.1 35) (by omega) (by omega)
  have e1 : f_Y1_perform S1 x 15 i b c d = f_Y1_bringUp S1 x i := by
    unfold f_Y1_perform b_Y1_perform_235a
    rfl
  have e2 : f_X11_does H 15 i b c d = f_X11_move H i := by
    unfold f_X11_does b_X11_does_a389
    rfl
  rw [e1, e2]
  have m0 : (H.2 32 (0 : Int32).toNatClampNeg).toNatClampNeg = hM H 1 0 := by rw [zn0]; rfl
  obtain ⟨s0, s1⟩ := rr_dr a r.2.1 r.2.2.1 h.1
  -- what is common: H' is moved from, the class's rows are poured
  have fin : ∀ (S' : Cst) (H' : HS) (rr : Option Nat) (gs is : Nat) (q : Nat), Sst noE x S T [] col S' T1 [] c1 → f_Y1_bringUp S1 x i = b_Y1_bringUp_40 S' x i rr → f_X11_move H i = lp_X11_move_77 100000 H' i 0 → H'.1 = H.1 → (∀ k, k ≠ 15 → k ≠ 23 → H'.2 k = H.2 k) →
      (∀ S4 T4 H4, S4.1 = S'.1 → Sst noE x S T [] col S4 T4 [] c1 → gX (fun z => z = x + 3) S' S4 → (∀ k, k ≠ 6 → k ≠ 35 → H4.1 k = H.1 k) → H4.1 35 = 0 → (∀ k, k ≠ 31 → H4.2 k = H'.2 k) → HC ((H.1 7).toInt + 1) H4 → hN H4 1 = 0 → hN H4 0 = hN H 0 + hN H 1 → (∀ p, hN H4 (p + 2) = hN H (p + 2)) → (∀ i : Nat, (i : Int) < hN H 1 → hM H4 0 ((H.1 6).toNatClampNeg + i) = hM H 1 i) → (∀ i : Nat, i < (H.1 6).toNatClampNeg → hM H4 0 i = hM H 0 i) → (∀ p i, hM H4 (p + 2) i = hM H (p + 2) i) → (∀ g, (hT H4 g ↔ hT H g)) → giC S4 (x + 3) 0 = 0 → T4 (rP x 1) = [] → T4 (rP x 0) = T1 (rP x 0) ++ T1 (rP x 1) → (∀ p, p < 8 → T4 (rP x (p + 2)) = T1 (rP x (p + 2))) → RR wF (N + 1) S4 T4 x H4) →
      DS wF (N + 1) x S T col (f_Y1_bringUp S1 x i) (f_X11_move H i) := fun S' H' rr gs is q hS ec el q1 q2 key => by
    rw [el] at DO2 ⊢
    obtain ⟨u, el2, u1, u2⟩ := move_W (x1 := i) H' (by rw [q1]; omega) (by rw [q1]; omega) (by rw [q1]; exact h9)
    rw [el2] at DO2 ⊢
    obtain ⟨S3, T3, f1, f2, f3, f4, f5, f6⟩ := br_v hS i rr (v := H.1 6 + H.1 35) (by omega) (by omega)
    rw [ec, f1]
    have I4 : HI ((H.1 7).toInt + 1) (sI (sI (sR H' 31 u) 6 (H'.1 6 + H'.1 35)) 35 0) := by
      have y := hi_5 DO2.1 ((sI (sI (sR H' 31 u) 6 (H'.1 6 + H'.1 35)) 35 0).1 5)
      dsimp only at y
      rw [sI_bk] at y
      exact y
    obtain ⟨r1, r2, r3, r4, r5, r6, r7⟩ := moveRows (k := (H.1 6).toNatClampNeg) (rfl : sI (sI (sR H' 31 u) 6 (H'.1 6 + H'.1 35)) 35 0 = _) (by rw [q1]; omega) (by rw [q1]; omega) (by rw [q1]; exact h9) (by rw [q1]; exact k6) (fun i hi => by have y := u1 i hi; rw [q1] at y; exact y) u2
    have hN' : ∀ g, hN H' g = hN H g := fun g => by
      match g with
      | 0 => show (H'.1 6).toInt = _; rw [q1]; rfl
      | 1 => show (H'.1 35).toInt = _; rw [q1]; rfl
      | p + 2 => show (H'.2 34 p).toInt = _; rw [q2 34 (by decide) (by decide)]; rfl
    have hM' : ∀ g i, hM H' g i = hM H g i := fun g i => by
      unfold hM
      match g with
      | 0 => show (H'.2 31 i).toNatClampNeg = _; rw [q2 31 (by decide) (by decide)]; rfl
      | 1 => show (H'.2 32 i).toNatClampNeg = _; rw [q2 32 (by decide) (by decide)]; rfl
      | p + 2 => show (H'.2 33 (9 * p + i)).toNatClampNeg = _; rw [q2 33 (by decide) (by decide)]; rfl
    have hT' : ∀ g, hT H' g ↔ hT H g := fun g => by
      match g with
      | 0 => exact Iff.rfl
      | 1 => show H'.1 36 ≠ 0 ↔ H.1 36 ≠ 0; rw [q1]
      | p + 2 => show H'.2 37 p ≠ 0 ↔ H.2 37 p ≠ 0; rw [q2 37 (by decide) (by decide)]
    have w3 := f2.ci.wf.w0 f2.k1
    have R4 := key (siC S3 (x + 3) 0 0) T3 (sI (sI (sR H' 31 u) 6 (H'.1 6 + H'.1 35)) 35 0) f3.2.2.2 (f2.sort o3 0) ((f3.x (D := fun z => z = x + 3)).tr (gX.si S3 (x + 3) 0 0)) (fun k y y2 => by
        show (if k = 35 then _ else if k = 6 then _ else H'.1 k) = H.1 k
        rw [if_neg y2, if_neg y, q1]) rfl (fun k y => if_neg y) I4.1 r1 (by rw [r2, hN', hN']) (fun p => by rw [r3, hN']) (fun i hi => by rw [r4 i (by rw [hN']; exact hi), hM']) (fun i hi => by rw [r5 i hi, hM']) (fun p i => by rw [r6, hM']) (fun g => (r7 g).trans (hT' g)) (by rw [gi_si, if_pos ⟨rfl, rfl⟩]) f4 f5 (fun p hp => f6 _ (fun y => by have := rP_inj (x := x) (g := p + 2) (g' := 1) y; omega) (fun y => by have := rP_inj (x := x) (g := p + 2) (g' := 0) y; omega))
    have h2 := f2.sort o3 0
    refine ⟨_, T3, c1, ?_, ((QU.rf h2).hI 6 (-1) (by omega)).1, R4.hc h2.ci h2.k1 ((hC'.rf x _).si 6 (-1) (Or.inl rfl)) (sH.I _ _ (by decide) (by decide) (by decide) (by decide) (by decide)) ⟨rfl, rfl, rfl, rfl, rfl⟩ ⟨rfl, rfl, rfl⟩ (R4.1.f6 (-1))⟩
    rw [q1]
  -- rows of what stood
  have lt1 : ∀ i, i < (T1 (x + 1)).length ↔ (i : Int) < hN H 0 := fun i => by omega
  by_cases z2 : H.1 36 = 0
  · obtain ⟨q, eq, mu, lq, hq⟩ := s1 z1 z2
    have hu : q ∈ T1 (x + 4) := by rw [hq]; exact List.mem_singleton.mpr rfl
    have kq := a.m3 hu
    have cq : c1 q = x := by rw [(a.ci.tk _ q hu).2]; exact a.1.cx 4 (by omega)
    have mu : mR S1 q H (hM H 1 0) := mu
    have nT : ¬ hT H 1 := fun t => t z2
    have one : hN H 1 = 1 := by have := n35.2.2 nT; omega
    have eq0 : (T1 (rP x 1)).getD 0 0 = q := by show (T1 (x + 4)).getD 0 0 = q; rw [hq]; rfl
    obtain ⟨rN, e8⟩ := r.nm a.ci a.k1 bN.2
    have U1 := (QU.rf a.1).aI 8 (giC S1 x 8 + 1)
    have n88 : giC (siC S1 x 8 (giC S1 x 8 + 1)) x 8 = giC S1 x 8 + 1 := by rw [gi_si, if_pos ⟨rfl, rfl⟩]
    have U := ((U1.mI (ik_si.mpr kq) cq 0 (giC S1 x 8 + 1) (by decide) (by omega)).mI (ik_si.mpr (ik_si.mpr kq)) cq 3 i (by decide) (by omega)).mI (ik_si.mpr (ik_si.mpr (ik_si.mpr kq))) cq 10 0 (by decide) (fun _ => bz0)
    have nx := mo_x a.ci a.k1 kq (j := 0) (by omega)
    have ec : f_Y1_bringUp S1 x i = b_Y1_bringUp_40 (siC (siC (siC (siC S1 x 8 (giC S1 x 8 + 1)) q 0 (giC S1 x 8 + 1)) q 3 i) q 10 0) x i (some q) := by
      unfold f_Y1_bringUp
      rw [a.g2, Option.getD_some, eq, if_neg (by simp), Option.getD_some, n88]
    -- the reference
    obtain ⟨H', el, q1, q2, q2m, q15⟩ : ∃ H', f_X11_move H i = lp_X11_move_77 100000 H' i 0 ∧ H'.1 = H.1 ∧ (∀ k, k ≠ 15 → k ≠ 23 → H'.2 k = H.2 k) ∧ (∀ k m', m' ≠ hM H 1 0 → H'.2 k m' = H.2 k m') ∧ H'.2 15 (hM H 1 0) = i := by
      have A : ∀ (W : HS), W.1 = H.1 → (∀ k, k ≠ 23 → W.2 k = H.2 k) → (∀ k m', m' ≠ hM H 1 0 → W.2 k m' = H.2 k m') → f_X11_move H i = lp_X11_move_77 100000 (sA W 15 (hM H 1 0) i) i 0 → ∃ H', f_X11_move H i = lp_X11_move_77 100000 H' i 0 ∧ H'.1 = H.1 ∧ (∀ k, k ≠ 15 → k ≠ 23 → H'.2 k = H.2 k) ∧ (∀ k m', m' ≠ hM H 1 0 → H'.2 k m' = H.2 k m') ∧ H'.2 15 (hM H 1 0) = i := fun W w1 w2 w3 e => by
        refine ⟨_, e, w1, fun k y y2 => ?_, fun k m' n => ?_, if_pos rfl⟩
        · show (if k = 15 then _ else W.2 k) = H.2 k
          rw [if_neg y]
          exact w2 k y2
        · show (if k = 15 then upd (W.2 15) (hM H 1 0) i else W.2 k) m' = H.2 k m'
          by_cases y : k = 15
          · rw [if_pos y, upd_ne n, y]
            exact w3 15 m' n
          · rw [if_neg y]
            exact w3 k m' n
      have A0 : f_X11_move H i = lp_X11_move_77 100000 (sA H 15 (hM H 1 0) i) i 0 → ∃ H', f_X11_move H i = lp_X11_move_77 100000 H' i 0 ∧ H'.1 = H.1 ∧ (∀ k, k ≠ 15 → k ≠ 23 → H'.2 k = H.2 k) ∧ (∀ k m', m' ≠ hM H 1 0 → H'.2 k m' = H.2 k m') ∧ H'.2 15 (hM H 1 0) = i := A H rfl (fun _ _ => rfl) (fun _ _ _ => rfl)
      have A1 : f_X11_move H i = lp_X11_move_77 100000 (sA (sA H 23 (hM H 1 0) (H.2 22 (f_X11_top H).1.toNatClampNeg)) 15 (hM H 1 0) i) i 0 → ∃ H', f_X11_move H i = lp_X11_move_77 100000 H' i 0 ∧ H'.1 = H.1 ∧ (∀ k, k ≠ 15 → k ≠ 23 → H'.2 k = H.2 k) ∧ (∀ k m', m' ≠ hM H 1 0 → H'.2 k m' = H.2 k m') ∧ H'.2 15 (hM H 1 0) = i := A (sA H 23 (hM H 1 0) (H.2 22 (f_X11_top H).1.toNatClampNeg)) rfl (fun k y => if_neg y) (fun k m' n => by
        show (if k = 23 then upd (H.2 23) (hM H 1 0) (H.2 22 (f_X11_top H).1.toNatClampNeg) else H.2 k) m' = H.2 k m'
        by_cases y : k = 23
        · rw [if_pos y, upd_ne n, y]
        · rw [if_neg y])
      have E0 : (f_X11_move H i = lp_X11_move_77 100000 (sA H 15 (hM H 1 0) i) i 0) ∨ (f_X11_move H i = lp_X11_move_77 100000 (sA (sA H 23 (hM H 1 0) (H.2 22 (f_X11_top H).1.toNatClampNeg)) 15 (hM H 1 0) i) i 0) := by
        unfold f_X11_move b_X11_move_34 b_X11_move_39 b_X11_move_a66 b_X11_move_68 b_X11_move_75
        rw [if_pos z2, m0, top_s]
        have n1 : ¬ (1 : Int32) = 0 := h10
        by_cases k2 : H.2 14 (hM H 1 0) = 2
        · rw [if_pos k2, if_neg n1]
          by_cases y : H.2 25 (hM H 1 0) = 0
          · rw [if_pos y]
            exact Or.inr rfl
          · rw [if_neg y]
            exact Or.inl rfl
        · rw [if_neg k2]
          by_cases k3 : H.2 14 (hM H 1 0) = 3
          · rw [if_pos k3, if_neg n1]
            by_cases y : H.2 25 (hM H 1 0) = 0
            · rw [if_pos y]
              exact Or.inr rfl
            · rw [if_neg y]
              exact Or.inl rfl
          · rw [if_neg k3, if_pos rfl]
            exact Or.inl rfl
      exact E0.elim A0 A1
    refine fin _ H' (some q) 0 0 q U.1 ec el q1 q2 (fun S4 T4 H4 n4 f2 f3 p1 p35 p2 hc2 r1 r2 r3 r4 r5 r6 r7 s4 eT1 eT0 eTp => ?_)
    generalize hB : siC S1 x 8 (giC S1 x 8 + 1) = SB at *
    have U1' := U1
    have gB : gX (D5 x q) SB (siC (siC (siC SB q 0 (giC S1 x 8 + 1)) q 3 i) q 10 0) := ((gX.si SB q 0 _).tr ((gX.si _ q 3 i).tr (gX.si _ q 10 0))).mo (fun z e => Or.inl (by rw [e]; exact ⟨Nat.le_refl _, Nat.le_add_right _ _⟩))
    have G : gX (D5 x q) SB S4 := gB.tr (f3.mo (fun z y => Or.inr (Or.inl y)))
    have kB : iK SB q 3 := kq.e U1.2.2
    have kC : iK (siC (siC (siC SB q 0 (giC S1 x 8 + 1)) q 3 i) q 10 0) q 3 := ik_si.mpr (ik_si.mpr (ik_si.mpr kB))
    have k4 : iK S4 q 3 := kC.n f3.1
    have cq4 : ∀ j, j < 4 → ∀ k, giC S4 (q + j) k = giC (siC (siC (siC SB q 0 (giC S1 x 8 + 1)) q 3 i) q 10 0) (q + j) k := f3.mo4 U.1.ci.wf kC (fun j hj y => (mo_x f2.ci f2.k1 k4 hj).2.1 y)
    have cB : ∀ z k, z ≠ x ∨ k ≠ 8 → giC SB z k = giC S1 z k := fun z k y => by
      rw [← hB, gi_si, if_neg (fun w => y.elim (fun f => f w.1) (fun f => f w.2))]
    have c4 : ∀ k, k ≠ 0 → k ≠ 3 → k ≠ 10 → giC S4 q k = giC S1 q k := fun k y0 y3 y10 => by
      refine (cq4 0 (by omega) k).trans ?_
      show giC (siC (siC (siC SB q 0 (giC S1 x 8 + 1)) q 3 i) q 10 0) q k = _
      rw [gi_si, if_neg (fun y => y10 y.2), gi_si, if_neg (fun y => y3 y.2), gi_si, if_neg (fun y => y0 y.2)]
      exact cB _ _ (Or.inl nx.1)
    have c4j : ∀ j, 0 < j → j < 4 → ∀ k, giC S4 (q + j) k = giC S1 (q + j) k := fun j hj hj' k => by
      rw [cq4 j hj' k, gi_si, if_neg (fun y => by omega), gi_si, if_neg (fun y => by omega), gi_si, if_neg (fun y => by omega)]
      exact cB _ _ (Or.inl (mo_x a.ci a.k1 kq hj').1)
    have c43 : giC S4 q 3 = i := by
      refine (cq4 0 (by omega) 3).trans ?_
      show giC (siC (siC (siC SB q 0 (giC S1 x 8 + 1)) q 3 i) q 10 0) q 3 = _
      rw [gi_si, if_neg (fun y => absurd y.2 (by decide)), gi_si, if_pos ⟨rfl, rfl⟩]
    have c40 : giC S4 q 0 = giC S1 x 8 + 1 := by
      refine (cq4 0 (by omega) 0).trans ?_
      show giC (siC (siC (siC SB q 0 (giC S1 x 8 + 1)) q 3 i) q 10 0) q 0 = _
      rw [gi_si, if_neg (fun y => absurd y.2 (by decide)), gi_si, if_neg (fun y => absurd y.2 (by decide)), gi_si, if_pos ⟨rfl, rfl⟩]
    have m4 : mR S4 q H4 (hM H 1 0) := mu.mx (p1 0 (by decide) (by decide)) (fun k y0 _ y3 y10 => c4 k y0 y3 y10) c4j (by rw [c43, p2 15 (by decide), q15]) (fun k h1 h2 y15 _ y23 _ => by rw [p2 k (by omega), q2 k y15 y23]) (fun i _ => by rw [p2 28 (by decide), q2 28 (by decide) (by decide)]) (fun i _ => by rw [p2 29 (by decide), q2 29 (by decide) (by decide)])
    obtain ⟨⟨K1, K2, K3, K4⟩, K8, Kc⟩ := frD (H2 := H4) rN U1.1.ci U1.1.k1 G f2.ci.wf (Or.inl k4) (fun z k => Or.inr (ik_si.mp (ik_si.mp (ik_si.mp (ik_b k f3.1 n4))))) (fun _ => m4.2.2.2.2.2.1.2) (fun k h1 h2 => p1 k h2 (by omega)) (p1 39 (by decide) (by decide)) ⟨by rw [p2 11 (by decide), q2 11 (by decide) (by decide)], by rw [p2 12 (by decide), q2 12 (by decide) (by decide)], by rw [p2 38 (by decide), q2 38 (by decide) (by decide)], by rw [p2 40 (by decide), q2 40 (by decide) (by decide)], by rw [p2 41 (by decide), q2 41 (by decide) (by decide)]⟩
    have n88 : giC SB x 8 = giC S1 x 8 + 1 := n88
    have e48 : giC S4 x 8 = giC S1 x 8 + 1 := (K8 8).trans n88
    have nm : ∀ g i, hL H g i → ¬ (g = 1 ∧ i = 0) → (T1 (rP x g)).getD i 0 ≠ q ∧ hM H g i ≠ hM H 1 0 := fun g i l n => by
      refine ⟨fun e => ?_, fun e => n (h.1.1.d l L1 e)⟩
      have u := q_uniq a.ci (r.2.1.mem l) (r.2.1.mem L1) (e.trans eq0.symm)
      exact n ⟨rP_inj u.1, u.2⟩
    have cs : ∀ g i, hL H g i → ¬ (g = 1 ∧ i = 0) → ∀ j, j < 4 → ∀ k, giC S4 ((T1 (rP x g)).getD i 0 + j) k = giC S1 ((T1 (rP x g)).getD i 0 + j) k := fun g i l n j hj k => by
      have kz := a.m3 (gD_mem (r.2.1.mem l))
      rw [Kc _ (kz.e U1.2.2) (nm g i l n).1 j hj k]
      exact cB _ _ (Or.inl (mo_x a.ci a.k1 kz hj).1)
    have st : ∀ p, p < 8 → giC S4 (x + 13 + 3 * p) 0 = giC S1 (x + 13 + 3 * p) 0 := fun p hp => by
      have o : pl x (x + 13 + 3 * p) := Or.inr ⟨p, hp, rfl⟩
      have nd := ik_ne (pl.lt a.ci a.k1 o) kq (by decide)
      rw [srt f3 U.1.ci U.1.k1 o (by omega), gi_si, if_neg (fun y => nd y.1), gi_si, if_neg (fun y => nd y.1), gi_si, if_neg (fun y => nd y.1)]
      exact cB _ _ (Or.inl (by omega))
    have n4' := r.2.2.2.2.2.2.2.2
    have hM0 : hM H4 0 (H.1 6).toNatClampNeg = hM H 1 0 := r4 0 (by omega)
    have eq4 : (T4 (rP x 0)).getD (H.1 6).toNatClampNeg 0 = q := by
      rw [eT0]
      show (T1 (x + 1) ++ T1 (x + 4)).getD _ 0 = q
      rw [hq]
      exact gD_end (by omega)
    refine r.ex (gs := 0) (is := (H.1 6).toNatClampNeg) h.1.1 hc2 K1 K2 K3 K4 (p1 0 (by decide) (by decide)) (fun g hg => ?_) ⟨fun _ => s4, fun y => absurd p35 y⟩ (fun p hp => ?_) ⟨by rw [e48]; omega, by rw [e48]; have := r.2.2.2.2.2.1.2; omega⟩ (fun s h1 h2 => by rw [p1 30 (by decide) (by decide)]; omega) (fun g i' l n => ?_) (fun _ => ?_) (fun _ t => absurd ((r7 0).mpr trivial) t) (fun _ _ => ⟨?_, fun _ => ?_, Or.inr ?_⟩) (fun _ j l t d k => ?_) (fun _ t => absurd ((r7 0).mpr trivial) t)
    · match g with
      | 0 =>
        rw [eT0, List.length_append, r2]
        have l0 := (r.2.1 0 (by omega)).1
        have l1 := (r.2.1 1 (by omega)).1
        omega
      | 1 =>
        rw [eT1, r1]
        rfl
      | p + 2 =>
        rw [eTp p (by omega), r3]
        exact (r.2.1 (p + 2) hg).1
    · rw [st p hp, p2 34 (by decide), q2 34 (by decide) (by decide), p2 37 (by decide), q2 37 (by decide) (by decide), p2 27 (by decide), q2 27 (by decide) (by decide), r6]
      exact r.2.2.1.2.1 p hp
    · have fin2 : hL H g i' → ¬ (g = 1 ∧ i' = 0) → hM H4 g i' = hM H g i' → (T4 (rP x g)).getD i' 0 = (T1 (rP x g)).getD i' 0 → ∃ g'' i'', oM S1 S4 T1 T4 x H H4 g i' g'' i'' := fun l' n' em et => by
        have y := (nm g i' l' n').2
        exact ⟨g, i', l', em, r7 g, fun _ => id, et, cs g i' l' n', fun k h1 h2 => by rw [p2 k (by omega)]; exact q2m k _ y, fun _ => by rw [p2 27 (by decide)]; exact q2m 27 _ y, fun n _ => by rw [p2 28 (by decide), q2 28 (by decide) (by decide)], fun n _ => by rw [p2 29 (by decide), q2 29 (by decide) (by decide)]⟩
      match g, l, n, fin2 with
      | 0, l, n, fin2 =>
        have l2 := l.2
        rw [r2, one] at l2
        have lt : i' < (H.1 6).toNatClampNeg := by
          have : i' ≠ (H.1 6).toNatClampNeg := fun y => n ⟨rfl, y⟩
          omega
        refine fin2 ⟨by omega, by omega⟩ (fun y => absurd y.1 (by decide)) (r5 i' lt) ?_
        rw [eT0]
        show (T1 (x + 1) ++ T1 (x + 4)).getD i' 0 = _
        rw [hq]
        exact gD_app (by omega)
      | 1, l, n, fin2 =>
        have l2 := l.2
        rw [r1] at l2
        omega
      | p + 2, l, n, fin2 =>
        have l2 := l.2
        rw [r3] at l2
        exact fin2 ⟨l.1, l2⟩ (fun y => by omega) (r6 p i') (by rw [eTp p (by have := l.1; omega)])
    · rw [eq4, hM0]
      exact m4
    · rw [hM0, p2 26 (by decide), q2 26 (by decide) (by decide)]
      exact o26 z2
    · rw [eq4, c40]
      intro y
      have := congrArg Int32.toInt y
      have b8 := r.2.2.2.2.2.1.1
      rw [e8, i0] at this
      omega
    · rw [eq4, c40, e48]
      omega
    · rw [hM0, p2 22 (by decide), q2 22 (by decide) (by decide)]
      exact (n4' j l t d k).2.2.2 1 L1 nT
  · have em := s0 (Or.inr z2)
    have ec : f_Y1_bringUp S1 x i = b_Y1_bringUp_40 S1 x i none := by
      unfold f_Y1_bringUp
      rw [a.g2, Option.getD_some, em, if_pos rfl]
    have el : f_X11_move H i = lp_X11_move_77 100000 H i 0 := by
      unfold f_X11_move b_X11_move_75
      rw [if_neg z2]
    have z6 := t1 z2
    have z6' := congrArg Int32.toInt z6
    rw [i0] at z6'
    refine fin S1 H none 10 0 0 a.1 ec el rfl (fun _ _ _ => rfl) (fun S4 T4 H4 n4 f2 f3 p1 p35 p2 hc2 r1 r2 r3 r4 r5 r6 r7 s4 eT1 eT0 eTp => ?_)
    have G : gX (D5 x S4.1) S1 S4 := f3.mo (fun z y => Or.inr (Or.inl y))
    obtain ⟨⟨K1, K2, K3, K4⟩, K8, Kc⟩ := frD (H2 := H4) r a.ci a.k1 G f2.ci.wf (Or.inr (Nat.le_refl _)) (fun z k => Or.inr (ik_b k f3.1 n4)) (fun k => absurd k.1 (Nat.lt_irrefl _)) (fun k h1 h2 => p1 k h2 (by omega)) (p1 39 (by decide) (by decide)) ⟨p2 11 (by decide), p2 12 (by decide), p2 38 (by decide), p2 40 (by decide), p2 41 (by decide)⟩
    have l00 : T1 (rP x 0) = [] := by
      have l := (r.2.1 0 (by omega)).1
      exact List.length_eq_zero_iff.mp (by omega)
    have k00 : (H.1 6).toNatClampNeg = 0 := by omega
    refine (r.ex (gs := 10) (is := 0) (N2 := N) h.1.1 hc2 K1 K2 K3 K4 (p1 0 (by decide) (by decide)) (fun g hg => ?_) ⟨fun _ => s4, fun y => absurd p35 y⟩ (fun p hp => ?_) ⟨by rw [K8]; exact Int.le_refl _, by rw [K8]; exact r.2.2.2.2.2.1.2⟩ (fun s h1 h2 => by rw [p1 30 (by decide) (by decide)]; omega) (fun g i' l n => ?_) (fun l => absurd l.1 (by omega)) (fun l => absurd l.1 (by omega)) (fun l => absurd l.1 (by omega)) (fun l => absurd l.1 (by omega)) (fun l => absurd l.1 (by omega))).up (by omega)
    · match g with
      | 0 =>
        rw [eT0, List.length_append, r2]
        have l0 := (r.2.1 0 (by omega)).1
        have l1 := (r.2.1 1 (by omega)).1
        omega
      | 1 =>
        rw [eT1, r1]
        rfl
      | p + 2 =>
        rw [eTp p (by omega), r3]
        exact (r.2.1 (p + 2) hg).1
    · have o : pl x (x + 13 + 3 * p) := Or.inr ⟨p, hp, rfl⟩
      rw [srt f3 a.ci a.k1 o (by omega), p2 34 (by decide), p2 37 (by decide), p2 27 (by decide), r6]
      exact r.2.2.1.2.1 p hp
    · have fin2 : ∀ g', hL H g' i' → hM H4 g i' = hM H g' i' → (hT H4 g ↔ hT H g') → (¬ hT H g' → 2 ≤ g' → 2 ≤ g) → (T4 (rP x g)).getD i' 0 = (T1 (rP x g')).getD i' 0 → ∃ g'' i'', oM S1 S4 T1 T4 x H H4 g i' g'' i'' := fun g' l' em tt g2 et => by
        have k := a.m3 (gD_mem (r.2.1.mem l'))
        exact ⟨g', i', l', em, tt, g2, et, Kc _ k (fun y => by have := k.1; have := G.1.1.1; omega), fun k h1 h2 => by rw [p2 k (by omega)], fun _ => by rw [p2 27 (by decide)], fun n _ => by rw [p2 28 (by decide)], fun n _ => by rw [p2 29 (by decide)]⟩
      match g, l, fin2 with
      | 0, l, fin2 =>
        have l2 := l.2
        rw [r2] at l2
        have e := r4 i' (by omega)
        rw [k00, Nat.zero_add] at e
        refine fin2 1 ⟨by omega, by omega⟩ e ⟨fun _ => z2, fun _ => (r7 0).mpr trivial⟩ (fun t => absurd z2 t) ?_
        rw [eT0, l00]
        rfl
      | 1, l, fin2 =>
        have l2 := l.2
        rw [r1] at l2
        omega
      | p + 2, l, fin2 =>
        have l2 := l.2
        rw [r3] at l2
        exact fin2 (p + 2) ⟨l.1, l2⟩ (r6 p i') (r7 _) (fun _ => id) (by rw [eTp p (by have := l.1; omega)])
end
end
section
/-! ===== ledgers: a row more, in full ===== -/
section
variable {wF : Prop × (Nat → Int32) × Int32 × (Nat → Int32)} {E : Nat → Prop} {x : Nat} {S S1 S2 S3 : Cst} {T T1 T2 T3 : Nat → List Nat} {F F1 : List Nat} {col c1 c2 c3 : Nat → Nat} {H H2 H3 : HS} {N N2 M M2 : Int} {D : Nat → Prop}
/-- nothing but rows of numbers is made -/
def nk (S S2 : Cst) : Prop := ∀ q c, c ≠ 20 → iK S2 q c → iK S q c
theorem room_k (h : CI E S T F col) {l : Nat} (k : iK S l 2) {r : Int32} (hr : rg r 0 600) (f0 : f_Y3_makeRoom S l r = (0, S2)) : nk S S2 := by
  have w := h.wf.w2 k
  obtain ⟨e1, e2, e3, e4, hg⟩ := led_e (L := lnC S ((grC S l 2).getD 0)) w.1.1 w.1.2.1 hr w.2.2.2
  have kz := w.2.1.2
  unfold f_Y3_makeRoom at f0
  by_cases c : r * giC S l 0 ≤ Int32.ofNat (lnC S ((grC S l 2).getD 0))
  · rw [if_pos c] at f0
    unfold b_Y3_makeRoom_50 at f0
    obtain ⟨-, rfl⟩ := Prod.mk.inj f0
    exact fun _ _ _ h => h
  · rw [if_neg c] at f0
    generalize hN : (if ((giC S l 1) * (giC S l 0)) < (if (r * (giC S l 0)) < (2 * (Int32.ofNat (lnC S ((grC S l 2).getD 0)))) then (2 * (Int32.ofNat (lnC S ((grC S l 2).getD 0)))) else (r * (giC S l 0))) then ((giC S l 1) * (giC S l 0)) else (if (r * (giC S l 0)) < (2 * (Int32.ofNat (lnC S ((grC S l 2).getD 0)))) then (2 * (Int32.ofNat (lnC S ((grC S l 2).getD 0)))) else (r * (giC S l 0)))) = K at f0
    obtain ⟨n1, n2, n3, n4, n5⟩ := led_N w.1.1 w.1.2.1 hr w.2.2.2 c hN
    obtain ⟨f, q1, q2, q3⟩ := y_copyOf h.wf.1 kz n1 n5
    rw [q1] at f0
    unfold b_Y3_makeRoom_47a b_Y3_makeRoom_50 at f0
    obtain ⟨-, rfl⟩ := Prod.mk.inj f0
    intro q c nc kq
    have kq := ik_sf.mp (ik_sr.mp kq)
    have ek : kdC (puC S [(20, K.toNatClampNeg, fun _ => 0, fun _ => none)] K.toNatClampNeg) S.1 = 20 := (nw_kd (cs := [(20, K.toNatClampNeg, fun _ => 0, fun _ => none)]) 0).trans rfl
    have b : q < S.1 + 1 := kq.1
    by_cases y : q < S.1
    · exact ⟨y, by rw [← ((eN.pu S [(20, K.toNatClampNeg, fun _ => 0, fun _ => none)] K.toNatClampNeg).2 q y).1]; exact kq.2⟩
    · have e : q = S.1 := by omega
      rw [e] at kq
      exact absurd (kq.2.symm.trans ek) nc
/-- one row more, behind which rows are written -/
theorem open_v (h : CI E S T F col) {l : Nat} (k : iK S l 2) (hn : (giC S l 3).toInt < 600) : ∃ S2 c2, f_Y3_open S l = (0, S2) ∧ LSt E T F l S col S2 c2 ∧ giC S2 l 3 = giC S l 3 + 1 ∧ (giC S2 l 3).toInt = (giC S l 3).toInt + 1 ∧ ((giC S l 3).toInt + 1) * (giC S l 0).toInt ≤ lcl S2 l ∧ (∀ i, i < lcl S l → giC S2 ((grC S2 l 2).getD 0) i = giC S ((grC S l 2).getD 0) i) ∧ nk S S2 := by
  have w := h.wf.w2 k
  have e6 : (600 : Int32).toInt = 600 := by decide
  have hr := w.1.2.2
  unfold rg at hr
  have c : giC S l 3 < 600 := iLt.mpr (by rw [e6]; exact hn)
  have e1 := iAdd (x := giC S l 3) (y := 1) (by rw [i1]; omega) (by rw [i1]; omega)
  rw [i1] at e1
  have g := LSt.n h k (v := giC S l 3 + 1) ⟨by omega, by omega⟩
  have k2 := g.k k
  have nl : (grC S l 2).getD 0 ≠ l := ik_ne w.2.1.2 k (by decide)
  obtain ⟨S2, c2, f1, f2, f3, f4, f5⟩ := y_room g.1 k2 (r := giC S l 3 + 1) ⟨by omega, by omega⟩
  have rk := room_k g.1 k2 (r := giC S l 3 + 1) ⟨by omega, by omega⟩ f1
  have e33 : giC S2 l 3 = giC S l 3 + 1 := by rw [f3.2.2.2.2.1 3, gi_si, if_pos ⟨rfl, rfl⟩]
  refine ⟨S2, c2, ?_, g.tr (LSt.of k2 f3 f5), e33, by rw [e33, e1], ?_, fun i hi => ?_, fun q c n kq => ik_si.mp (rk q c n kq)⟩
  · unfold f_Y3_open
    rw [isF, w.1.2.1, if_pos c, if_pos rfl]
    unfold b_Y3_open_22a b_Y3_open_25
    rw [show giC (siC S l 3 (giC S l 3 + 1)) l 3 = giC S l 3 + 1 by rw [gi_si, if_pos ⟨rfl, rfl⟩], f1]
  · rw [e1, gi_si, if_neg (fun y => absurd y.2 (by decide))] at f4
    exact f4
  · have e := f3.2.2.2.2.2.2 i (by unfold lcl at hi ⊢; rw [gr_si, ln_si]; exact hi)
    rw [gr_si, gi_si, if_neg (fun y => nl y.1)] at e
    exact e
/-- one number written in the last row -/
theorem write_v (wf : wfS S) {l : Nat} (k : iK S l 2) {n j : Nat} {c : Int32} (v : Int32) (hn : (giC S l 3).toInt = n + 1) (hl : ((n : Int) + 1) * (giC S l 0).toInt ≤ lcl S l) (hj : c.toInt = j) (hc : (j : Int) < (giC S l 0).toInt) : f_Y3_write S l c v = (0, siC S ((grC S l 2).getD 0) ((giC S l 0).toNatClampNeg * n + j) v) := by
  have w := wf.w2 k
  have hr := w.1.2.2
  unfold rg at hr
  have hL := w.2.2.2
  have g0 : (giC S l 0).toInt = 5 ∨ (giC S l 0).toInt = 6 ∨ (giC S l 0).toInt = 7 := by
    rcases w.1.1 with y | y | y <;> rw [y]
    · exact Or.inl (by decide)
    · exact Or.inr (Or.inl (by decide))
    · exact Or.inr (Or.inr (by decide))
  have kg := iNat (x := giC S l 0) (by omega)
  have eL : (Int32.ofNat (lnC S ((grC S l 2).getD 0))).toInt = lnC S ((grC S l 2).getD 0) := (led_e (r := giC S l 3) w.1.1 w.1.2.1 w.1.2.2 hL).2.2.1
  have s1 := iSub (x := giC S l 3) (y := 1) (by rw [i1]; omega) (by rw [i1]; omega)
  rw [i1, hn] at s1
  have hm : ((giC S l 3 - 1) * giC S l 0).toInt = (n : Int) * (giC S l 0).toInt := by
    refine iMul (n := (n : Int) * (giC S l 0).toInt) (by rw [s1]; congr 1; omega) ?_ ?_
    · rcases g0 with y | y | y <;> rw [y] <;> omega
    · rcases g0 with y | y | y <;> rw [y] <;> omega
  have ha : (((giC S l 3 - 1) * giC S l 0) + c).toInt = (n : Int) * (giC S l 0).toInt + j := by
    rw [iAdd (by rw [hm, hj]; rcases g0 with y | y | y <;> rw [y] at hc ⊢ <;> omega) (by rw [hm, hj]; rcases g0 with y | y | y <;> rw [y] at hc ⊢ <;> omega), hm, hj]
  have hl' : (n : Int) * (giC S l 0).toInt + j < lnC S ((grC S l 2).getD 0) := by
    have e : ((n : Int) + 1) * (giC S l 0).toInt = (n : Int) * (giC S l 0).toInt + (giC S l 0).toInt := by rw [Int.add_mul, Int.one_mul]
    rw [e] at hl
    unfold lcl at hl
    omega
  have pos : 0 ≤ (n : Int) * (giC S l 0).toInt := by rcases g0 with y | y | y <;> rw [y] <;> omega
  have kn := iNat (x := ((giC S l 3 - 1) * giC S l 0) + c) (by omega)
  have ix : (((giC S l 3 - 1) * giC S l 0) + c).toNatClampNeg = (giC S l 0).toNatClampNeg * n + j := by
    have e : (((giC S l 0).toNatClampNeg * n : Nat) : Int) = (n : Int) * (giC S l 0).toInt := by
      rw [Int.natCast_mul, kg, Int.mul_comm]
    omega
  unfold f_Y3_write b_Y3_write_46
  rw [if_neg (fun y => by have := iLt.mp y; rw [i0] at this; omega), if_neg (fun y => by have := iLe.mp y; omega), if_neg (fun y => by have := iLt.mp y; rw [i0] at this; omega), if_neg (fun y => by have := iLe.mp y; omega), ix]
end
end
section
/-! ===== a ledger moved, nothing else ===== -/
section
variable {wF : Prop × (Nat → Int32) × Int32 × (Nat → Int32)} {E : Nat → Prop} {x : Nat} {S S1 S2 S3 : Cst} {T T1 T2 T3 : Nat → List Nat} {F F1 : List Nat} {col c1 c2 c3 : Nat → Nat} {H H2 H3 : HS} {N N2 M M2 : Int} {D : Nat → Prop}
/-- the ledger at x + 9 moved, nothing else -/
theorem RR.l9 (r : RR wF N S1 T1 x H) (ci : CI noE S1 T1 [] c1) (kx : iK S1 x 0) (g : LSt noE T1 [] (x + 9) S1 c1 S2 c2) (hk : nk S1 S2) (e3 : giC S2 (x + 9) 3 = H2.1 8) (el : 5 * (H2.1 8).toInt ≤ lcl S2 (x + 9)) (ec : ∀ i j : Nat, (i : Int) < (H2.1 8).toInt → j < 5 → giC S2 ((grC S2 (x + 9) 2).getD 0) (5 * i + j) = H2.2 41 (5 * i + j)) (s : sH H2 H) (e1 : H2.1 1 = H.1 1 ∧ H2.1 2 = H.1 2 ∧ H2.1 3 = H.1 3 ∧ H2.1 4 = H.1 4 ∧ H2.1 5 = H.1 5) (e2 : H2.1 7 = H.1 7 ∧ H2.1 9 = H.1 9 ∧ H2.1 10 = H.1 10 ∧ H2.1 39 = H.1 39) (e4 : H2.2 11 = H.2 11 ∧ H2.2 12 = H.2 12 ∧ H2.2 38 = H.2 38 ∧ H2.2 40 = H.2 40) (e8 : (H.1 8).toInt ≤ (H2.1 8).toInt) : RR wF N S2 T1 x H2 := by
  obtain ⟨rh, w, o, j, ⟨aa, sv⟩, n⟩ := r
  have w0 := ci.wf.w0 kx
  have k37 : iK S1 (x + 37) 1 := w0.1.1
  have w1 := ci.wf.w1 k37
  have k38 : iK S1 (x + 38) 21 := w1.1.1
  have k39 : iK S1 (x + 39) 20 := w1.1.2.2.1
  have k7 : iK S1 (x + 7) 2 := w0.1.2.2.2.2.1
  have k9 : iK S1 (x + 9) 2 := w0.1.2.2.2.2.2.1
  have k11 : iK S1 (x + 11) 6 := w0.1.2.2.2.2.2.2
  have k12 : iK S1 (x + 12) 20 := (ci.wf.w6 k11).1.1
  have z7 := (ci.wf.w2 k7).2.1.2
  have z9 := (ci.wf.w2 k9).2.1.2
  have jj := j
  obtain ⟨⟨a1, a2, a3⟩, ⟨b1, b2, b3⟩, ⟨c1', c2'⟩, d1, d2, d3, d4, d5, d6⟩ := j
  have zl := z9
  have kl := k9
  have dl := d2
  have fr : ∀ q, q < S1.1 → q ≠ x + 9 → q ≠ (grC S1 (x + 9) 2).getD 0 → S2.2.2 q = S1.2.2 q := g.2.2.2.1
  have fi : ∀ q, q < S1.1 → q ≠ x + 9 → q ≠ (grC S1 (x + 9) 2).getD 0 → ∀ k, giC S2 q k = giC S1 q k := fun q a b c k => by unfold giC; rw [fr q a b c]
  have fg : ∀ q, q < S1.1 → q ≠ x + 9 → q ≠ (grC S1 (x + 9) 2).getD 0 → ∀ k, grC S2 q k = grC S1 q k := fun q a b c k => by unfold grC; rw [fr q a b c]
  have kk : ∀ q c, iK S1 q c → c ≠ 20 → q ≠ (grC S1 (x + 9) 2).getD 0 := fun q c k n => ik_ne k zl n
  have hm : ∀ q, iK S1 q 3 → ∀ i, i < 4 → ∀ k, giC S2 (q + i) k = giC S1 (q + i) k := fun q k i hi => by
    have W := W3k ci.wf k
    have nd := dM_l ci kx k jj (l := x + 9) (by omega)
    refine fi _ ?_ ((mo_x ci kx k hi).2.2.2.1) (fun y => nd (by rw [← y]; exact ⟨by omega, by omega⟩))
    rcases (show i = 0 ∨ i = 1 ∨ i = 2 ∨ i = 3 by omega) with rfl | rfl | rfl | rfl
    · exact k.1
    · exact W.1.1
    · exact W.2.1.1
    · exact W.2.2.1
  have hQ : mQ T1 x S1 S2 := fun g' _ q m => hm q (ci.tk _ q m).1
  have k5 : ∀ d, pl x d → giC S2 d 0 = giC S1 d 0 := fun d od => by
    have k := pl.lt ci kx od
    exact fi _ k.1 (ik_ne k kl (by decide)) (kk _ _ k (by decide)) 0
  have n12 : x + 12 ≠ (grC S1 (x + 9) 2).getD 0 := fun y => dl _ k11 y.symm
  have n39 : x + 39 ≠ (grC S1 (x + 9) 2).getD 0 := fun y => d5 y.symm
  have nz : ∀ q, iK S2 q 6 → (grC S2 (x + 9) 2).getD 0 ≠ q + 1 := fun q k y => by
    have kq := hk q 6 (by decide) k
    rcases g.2.2.2.2.1 with v | v
    · rw [v] at y
      exact dl q kq y
    · have := (ci.wf.w6 kq).1.1.1
      omega
  have cn : ∀ z, z < S1.1 → z ≠ (grC S1 (x + 9) 2).getD 0 → (grC S2 (x + 9) 2).getD 0 ≠ z := fun z a b y => by
    rcases g.2.2.2.2.1 with v | v
    · rw [v] at y
      exact b y.symm
    · omega
  have o7 : grC S2 (x + 7) 2 = grC S1 (x + 7) 2 := fg _ k7.1 (by omega) (kk _ _ k7 (by decide)) 2
  have oi : ∀ k, giC S2 (x + 7) k = giC S1 (x + 7) k := fi _ k7.1 (by omega) (kk _ _ k7 (by decide))
  have oz' : ∀ k, giC S2 ((grC S1 (x + 7) 2).getD 0) k = giC S1 ((grC S1 (x + 7) 2).getD 0) k := fi _ z7.1 (ik_ne z7 kl (by decide)) (d3)
  have oc : lcl S2 (x + 7) = lcl S1 (x + 7) := by
    unfold lcl
    rw [o7]
    exact (g.2.1.2 _ z7.1).2
  have g0 : giC S2 (x + 9) 0 = 5 := by rw [g.2.2.2.2.2.1.1]; exact c2'
  have cn2 : (grC S2 (x + 9) 2).getD 0 ≠ (grC S1 (x + 7) 2).getD 0 := cn _ z7.1 (d3)
  have cn39 : (grC S2 (x + 9) 2).getD 0 ≠ x + 39 := cn _ k39.1 n39
  refine ⟨?_, w.cg s (fun _ _ => rfl) hQ, o.cg w s (fun _ _ => rfl) hQ (k5 _ (Or.inl rfl)) (fun p hp => k5 _ (Or.inr ⟨p, hp, rfl⟩)), ?_, ⟨?_, fun q k => ?_, by rw [s.1.1]; exact sv.2.1, by rw [e4.2.2.2]; exact sv.2.2⟩, n.cg w s (fun _ _ => rfl) hQ (fi _ kx.1 (by omega) (kk _ _ kx (by decide)) 8)⟩
  · obtain ⟨⟨p0, p1, p2, p3, p4, p5⟩, p6, p7, p8⟩ := rh
    have f37 := fi (x + 37) k37.1 (by omega) (kk _ _ k37 (by decide))
    have f38 := fi (x + 38) k38.1 (by omega) (kk _ _ k38 (by decide))
    have f39 := fi (x + 39) k39.1 (by omega) n39
    exact ⟨⟨by rw [f37, s.1.1]; exact p0, by rw [f37, e1.1]; exact p1, by rw [f37, e1.2.1]; exact p2, by rw [f37, e1.2.2.1]; exact p3, by rw [f37, e1.2.2.2.1]; exact p4, by rw [f37, e1.2.2.2.2]; exact p5⟩, fun y hy ht => by rw [f38, e4.1]; rw [s.1.1] at ht; exact p6 y hy ht, fun y hy => by rw [f39, e4.2.1]; exact p7 y hy, by rw [e1.2.2.2.1, s.1.1, e4.1]; exact p8⟩
  · refine ⟨⟨by rw [oi, e2.1]; exact a1, by rw [oc, e2.1]; exact a2, fun i k hi hk' => ?_⟩, ⟨e3, el, ec⟩, ⟨by rw [oi]; exact c1', g0⟩, fun q k => by rw [o7]; exact d1 q (hk q 6 (by decide) k), nz, by rw [o7]; exact fun y => cn2 y.symm, by rw [o7]; exact d4, cn39, fun i hi => by rw [o7, oz']; exact d6 i (by rw [← e2.1]; exact hi)⟩
    rw [e2.1] at hi
    rw [o7, oz', e4.2.2.2]
    exact a3 i k hi hk'
  · exact aa.cg (fi _ kx.1 (by omega) (kk _ _ kx (by decide)) 7) (fi _ kx.1 (by omega) (kk _ _ kx (by decide)) 9) (fi _ k11.1 (by omega) (kk _ _ k11 (by decide)) 1) (fi _ k12.1 (by omega) n12) e2.2.1 e2.2.2.1 e2.2.2.2 e8 e4.2.2.1
  · have kq := hk q 3 (by decide) k
    have c := hm q kq
    rw [vCn_cg (c 3 (by omega)), show giC S2 q 14 = giC S1 q 14 from c 0 (by omega) 14]
    exact sv.1 q kq
/-- the ledger at x + 7 moved, nothing else -/
theorem RR.l7 (r : RR wF N S1 T1 x H) (ci : CI noE S1 T1 [] c1) (kx : iK S1 x 0) (g : LSt noE T1 [] (x + 7) S1 c1 S2 c2) (hk : nk S1 S2) (e3 : giC S2 (x + 7) 3 = H2.1 7) (el : 7 * (H2.1 7).toInt ≤ lcl S2 (x + 7)) (ec : ∀ i j : Nat, (i : Int) < (H2.1 7).toInt → j < 6 → giC S2 ((grC S2 (x + 7) 2).getD 0) (7 * i + j) = H2.2 40 (6 * i + j)) (s : sH H2 H) (e1 : H2.1 1 = H.1 1 ∧ H2.1 2 = H.1 2 ∧ H2.1 3 = H.1 3 ∧ H2.1 4 = H.1 4 ∧ H2.1 5 = H.1 5) (e2 : H2.1 8 = H.1 8 ∧ H2.1 9 = H.1 9 ∧ H2.1 10 = H.1 10 ∧ H2.1 39 = H.1 39) (e4 : H2.2 11 = H.2 11 ∧ H2.2 12 = H.2 12 ∧ H2.2 38 = H.2 38 ∧ H2.2 41 = H.2 41) (e8 : (H.1 8).toInt ≤ (H2.1 8).toInt) {z' : Nat → Int32} (e6 : ∀ i : Nat, (i : Int) < (H2.1 7).toInt → giC S2 ((grC S2 (x + 7) 2).getD 0) (7 * i + 6) = z' i) : RR (wF.1, z', wF.2.2.1, H2.2 40) N S2 T1 x H2 := by
  obtain ⟨rh, w, o, j, ⟨aa, sv⟩, n⟩ := r
  have w0 := ci.wf.w0 kx
  have k37 : iK S1 (x + 37) 1 := w0.1.1
  have w1 := ci.wf.w1 k37
  have k38 : iK S1 (x + 38) 21 := w1.1.1
  have k39 : iK S1 (x + 39) 20 := w1.1.2.2.1
  have k7 : iK S1 (x + 7) 2 := w0.1.2.2.2.2.1
  have k9 : iK S1 (x + 9) 2 := w0.1.2.2.2.2.2.1
  have k11 : iK S1 (x + 11) 6 := w0.1.2.2.2.2.2.2
  have k12 : iK S1 (x + 12) 20 := (ci.wf.w6 k11).1.1
  have z7 := (ci.wf.w2 k7).2.1.2
  have z9 := (ci.wf.w2 k9).2.1.2
  have jj := j
  obtain ⟨⟨a1, a2, a3⟩, ⟨b1, b2, b3⟩, ⟨c1', c2'⟩, d1, d2, d3, d4, d5, d6⟩ := j
  have zl := z7
  have kl := k7
  have dl := d1
  have fr : ∀ q, q < S1.1 → q ≠ x + 7 → q ≠ (grC S1 (x + 7) 2).getD 0 → S2.2.2 q = S1.2.2 q := g.2.2.2.1
  have fi : ∀ q, q < S1.1 → q ≠ x + 7 → q ≠ (grC S1 (x + 7) 2).getD 0 → ∀ k, giC S2 q k = giC S1 q k := fun q a b c k => by unfold giC; rw [fr q a b c]
  have fg : ∀ q, q < S1.1 → q ≠ x + 7 → q ≠ (grC S1 (x + 7) 2).getD 0 → ∀ k, grC S2 q k = grC S1 q k := fun q a b c k => by unfold grC; rw [fr q a b c]
  have kk : ∀ q c, iK S1 q c → c ≠ 20 → q ≠ (grC S1 (x + 7) 2).getD 0 := fun q c k n => ik_ne k zl n
  have hm : ∀ q, iK S1 q 3 → ∀ i, i < 4 → ∀ k, giC S2 (q + i) k = giC S1 (q + i) k := fun q k i hi => by
    have W := W3k ci.wf k
    have nd := dM_l ci kx k jj (l := x + 7) (by omega)
    refine fi _ ?_ ((mo_x ci kx k hi).2.2.1) (fun y => nd (by rw [← y]; exact ⟨by omega, by omega⟩))
    rcases (show i = 0 ∨ i = 1 ∨ i = 2 ∨ i = 3 by omega) with rfl | rfl | rfl | rfl
    · exact k.1
    · exact W.1.1
    · exact W.2.1.1
    · exact W.2.2.1
  have hQ : mQ T1 x S1 S2 := fun g' _ q m => hm q (ci.tk _ q m).1
  have k5 : ∀ d, pl x d → giC S2 d 0 = giC S1 d 0 := fun d od => by
    have k := pl.lt ci kx od
    exact fi _ k.1 (ik_ne k kl (by decide)) (kk _ _ k (by decide)) 0
  have n12 : x + 12 ≠ (grC S1 (x + 7) 2).getD 0 := fun y => dl _ k11 y.symm
  have n39 : x + 39 ≠ (grC S1 (x + 7) 2).getD 0 := fun y => d4 y.symm
  have nz : ∀ q, iK S2 q 6 → (grC S2 (x + 7) 2).getD 0 ≠ q + 1 := fun q k y => by
    have kq := hk q 6 (by decide) k
    rcases g.2.2.2.2.1 with v | v
    · rw [v] at y
      exact dl q kq y
    · have := (ci.wf.w6 kq).1.1.1
      omega
  have cn : ∀ z, z < S1.1 → z ≠ (grC S1 (x + 7) 2).getD 0 → (grC S2 (x + 7) 2).getD 0 ≠ z := fun z a b y => by
    rcases g.2.2.2.2.1 with v | v
    · rw [v] at y
      exact b y.symm
    · omega
  have o7 : grC S2 (x + 9) 2 = grC S1 (x + 9) 2 := fg _ k9.1 (by omega) (kk _ _ k9 (by decide)) 2
  have oi : ∀ k, giC S2 (x + 9) k = giC S1 (x + 9) k := fi _ k9.1 (by omega) (kk _ _ k9 (by decide))
  have oz' : ∀ k, giC S2 ((grC S1 (x + 9) 2).getD 0) k = giC S1 ((grC S1 (x + 9) 2).getD 0) k := fi _ z9.1 (ik_ne z9 kl (by decide)) (fun y => d3 y.symm)
  have oc : lcl S2 (x + 9) = lcl S1 (x + 9) := by
    unfold lcl
    rw [o7]
    exact (g.2.1.2 _ z9.1).2
  have g0 : giC S2 (x + 7) 0 = 7 := by rw [g.2.2.2.2.2.1.1]; exact c1'
  have cn2 : (grC S2 (x + 7) 2).getD 0 ≠ (grC S1 (x + 9) 2).getD 0 := cn _ z9.1 (fun y => d3 y.symm)
  have cn39 : (grC S2 (x + 7) 2).getD 0 ≠ x + 39 := cn _ k39.1 n39
  refine ⟨?_, w.cg s (fun _ _ => rfl) hQ, o.cg w s (fun _ _ => rfl) hQ (k5 _ (Or.inl rfl)) (fun p hp => k5 _ (Or.inr ⟨p, hp, rfl⟩)), ?_, ⟨?_, fun q k => ?_, by rw [s.1.1]; exact sv.2.1, rfl⟩, n.cg w s (fun _ _ => rfl) hQ (fi _ kx.1 (by omega) (kk _ _ kx (by decide)) 8)⟩
  · obtain ⟨⟨p0, p1, p2, p3, p4, p5⟩, p6, p7, p8⟩ := rh
    have f37 := fi (x + 37) k37.1 (by omega) (kk _ _ k37 (by decide))
    have f38 := fi (x + 38) k38.1 (by omega) (kk _ _ k38 (by decide))
    have f39 := fi (x + 39) k39.1 (by omega) n39
    exact ⟨⟨by rw [f37, s.1.1]; exact p0, by rw [f37, e1.1]; exact p1, by rw [f37, e1.2.1]; exact p2, by rw [f37, e1.2.2.1]; exact p3, by rw [f37, e1.2.2.2.1]; exact p4, by rw [f37, e1.2.2.2.2]; exact p5⟩, fun y hy ht => by rw [f38, e4.1]; rw [s.1.1] at ht; exact p6 y hy ht, fun y hy => by rw [f39, e4.2.1]; exact p7 y hy, by rw [e1.2.2.2.1, s.1.1, e4.1]; exact p8⟩
  · refine ⟨⟨e3, el, ec⟩, ⟨by rw [oi, e2.1]; exact b1, by rw [oc, e2.1]; exact b2, fun i k hi hk' => ?_⟩, ⟨g0, by rw [oi]; exact c2'⟩, nz, fun q k => by rw [o7]; exact d2 q (hk q 6 (by decide) k), by rw [o7]; exact cn2, cn39, by rw [o7]; exact d5, e6⟩
    rw [e2.1] at hi
    rw [o7, oz', e4.2.2.2]
    exact b3 i k hi hk'
  · exact aa.cg (fi _ kx.1 (by omega) (kk _ _ kx (by decide)) 7) (fi _ kx.1 (by omega) (kk _ _ kx (by decide)) 9) (fi _ k11.1 (by omega) (kk _ _ k11 (by decide)) 1) (fi _ k12.1 (by omega) n12) e2.2.1 e2.2.2.1 e2.2.2.2 e8 e4.2.2.1
  · have kq := hk q 3 (by decide) k
    have c := hm q kq
    rw [vCn_cg (c 3 (by omega)), show giC S2 q 14 = giC S1 q 14 from c 0 (by omega) 14]
    exact sv.1 q kq
end
end
section
/-! ===== a result kept, an entry written: both sides ===== -/
section
variable {wF : Prop × (Nat → Int32) × Int32 × (Nat → Int32)} {E : Nat → Prop} {x : Nat} {S S1 S2 S3 : Cst} {T T1 T2 T3 : Nat → List Nat} {F F1 : List Nat} {col c1 c2 c3 : Nat → Nat} {H H2 H3 : HS} {N N2 M M2 : Int} {D : Nat → Prop}
def wI (S : Cst) (l n : Nat) (C : Int32) : Prop := (giC S l 3).toInt = n + 1 ∧ giC S l 0 = C ∧ ((n : Int) + 1) * C.toInt ≤ lcl S l
theorem wst (h : CI noE S T [] col) {l n j : Nat} {C c : Int32} (k : iK S l 2) (W : wI S l n C) (v : Int32) (hj : c.toInt = j) (hc : (j : Int) < C.toInt) : f_Y3_write S l c v = (0, siC S ((grC S l 2).getD 0) (C.toNatClampNeg * n + j) v) ∧ LSt noE T [] l S col (siC S ((grC S l 2).getD 0) (C.toNatClampNeg * n + j) v) col ∧ wI (siC S ((grC S l 2).getD 0) (C.toNatClampNeg * n + j) v) l n C := by
  obtain ⟨w1, w2, w3⟩ := W
  have nl : (grC S l 2).getD 0 ≠ l := ik_ne (h.wf.w2 k).2.1.2 k (by decide)
  have f := write_v h.wf k v w1 (by rw [w2]; exact w3) hj (by rw [w2]; exact hc)
  rw [w2] at f
  refine ⟨f, LSt.z h k _ v, ?_, ?_, ?_⟩
  · rw [gi_si, if_neg (fun y => nl y.1.symm)]
    exact w1
  · rw [gi_si, if_neg (fun y => nl y.1.symm)]
    exact w2
  · unfold lcl at w3 ⊢
    rw [gr_si, ln_si]
    exact w3
/-- the reference's state with a result more -/
def kpH (H : HS) (k o y n : Int32) : HS := sI (sA (sA (sA (sA (sA H 41 (5 * (H.1 8).toNatClampNeg) (H.1 7)) 41 (5 * (H.1 8).toNatClampNeg + 1) k) 41 (5 * (H.1 8).toNatClampNeg + 2) o) 41 (5 * (H.1 8).toNatClampNeg + 3) y) 41 (5 * (H.1 8).toNatClampNeg + 4) n) 8 (H.1 8 + 1)
theorem kpH_r (H : HS) (k o y n : Int32) (i : Nat) : (kpH H k o y n).2 41 i = if i = 5 * (H.1 8).toNatClampNeg + 4 then n else if i = 5 * (H.1 8).toNatClampNeg + 3 then y else if i = 5 * (H.1 8).toNatClampNeg + 2 then o else if i = 5 * (H.1 8).toNatClampNeg + 1 then k else if i = 5 * (H.1 8).toNatClampNeg then H.1 7 else H.2 41 i := rfl
theorem kpH_q (H : HS) (k o y n : Int32) {q : Nat} (h : q ≠ 41) : (kpH H k o y n).2 q = H.2 q := by
  show (sA (sA (sA (sA (sA H 41 _ _) 41 _ _) 41 _ _) 41 _ _) 41 _ _).2 q = H.2 q
  rw [sA_k h, sA_k h, sA_k h, sA_k h, sA_k h]
/-- with an entry more -/
def miH (H : HS) (k a b c d v : Int32) : HS := sI (sA (sA (sA (sA (sA (sA H 40 (6 * (H.1 7).toNatClampNeg) k) 40 (6 * (H.1 7).toNatClampNeg + 1) a) 40 (6 * (H.1 7).toNatClampNeg + 2) b) 40 (6 * (H.1 7).toNatClampNeg + 3) c) 40 (6 * (H.1 7).toNatClampNeg + 4) d) 40 (6 * (H.1 7).toNatClampNeg + 5) v) 7 (H.1 7 + 1)
theorem miH_r (H : HS) (k a b c d v : Int32) (i : Nat) : (miH H k a b c d v).2 40 i = if i = 6 * (H.1 7).toNatClampNeg + 5 then v else if i = 6 * (H.1 7).toNatClampNeg + 4 then d else if i = 6 * (H.1 7).toNatClampNeg + 3 then c else if i = 6 * (H.1 7).toNatClampNeg + 2 then b else if i = 6 * (H.1 7).toNatClampNeg + 1 then a else if i = 6 * (H.1 7).toNatClampNeg then k else H.2 40 i := rfl
theorem miH_q (H : HS) (k a b c d v : Int32) {q : Nat} (h : q ≠ 40) : (miH H k a b c d v).2 q = H.2 q := by
  show (sA (sA (sA (sA (sA (sA H 40 _ _) 40 _ _) 40 _ _) 40 _ _) 40 _ _) 40 _ _).2 q = H.2 q
  rw [sA_k h, sA_k h, sA_k h, sA_k h, sA_k h, sA_k h]
theorem keepR_v (a : AS x S T col S1 T1 c1) (r : RR wF N S1 T1 x H) (h8 : 0 ≤ (H.1 8).toInt ∧ (H.1 8).toInt < 600) (k o y n : Int32) : ∃ S2 c2, f_Y7_keep S1 x k o y n = (0, S2) ∧ LSt noE T1 [] (x + 9) S1 c1 S2 c2 ∧ nk S1 S2 ∧ RR wF N S2 T1 x (kpH H k o y n) := by
  have w := a.w0
  have kl := w.1.2.2.2.2.2.1
  have e0 : giC S1 (x + 9) 3 = H.1 8 := r.2.2.2.1.2.1.1
  have ec0 : giC S1 (x + 9) 0 = 5 := r.2.2.2.1.2.2.1.2
  have olc : 5 * (H.1 8).toInt ≤ lcl S1 (x + 9) := r.2.2.2.1.2.1.2.1
  have kn := iNat h8.1
  obtain ⟨Sa, ca, f, g, e3, e3i, el, ec, nka⟩ := open_v a.ci kl (by rw [e0]; exact h8.2)
  have ka := a.k1.n g.2.1
  have wa := g.1.wf.w0 ka
  have e5a : grC Sa x 5 = some (x + 9) := wa.2.1.2.2.2.2.2.1
  have e4a : grC Sa x 4 = some (x + 7) := wa.2.1.2.2.2.2.1
  have e1a : grC Sa x 1 = some (x + 1) := wa.2.1.2.1
  have k0 : iK Sa (x + 9) 2 := wa.1.2.2.2.2.2.1
  have g5 : giC Sa (x + 9) 0 = 5 := g.2.2.2.2.2.1.1.trans ec0
  have t5 : (5 : Int32).toInt = 5 := by decide
  have W0 : wI Sa (x + 9) (H.1 8).toNatClampNeg 5 := ⟨by rw [e3i, e0]; omega, g5, by rw [t5]; rw [e0, ec0, t5] at el; omega⟩
  obtain ⟨z, hz⟩ : ∃ z, z = (grC Sa (x + 9) 2).getD 0 := ⟨_, rfl⟩
  obtain ⟨f0, g0, W1⟩ := wst g.1 k0 W0 (c := 0) (j := 0) (giC Sa (x + 7) 3) rfl (by rw [t5]; decide)
  rw [← hz] at f0 g0 W1
  obtain ⟨B0, hB0⟩ : ∃ B, B = siC Sa z (Int32.toNatClampNeg 5 * (H.1 8).toNatClampNeg + 0) (giC Sa (x + 7) 3) := ⟨_, rfl⟩
  rw [← hB0] at f0 g0 W1
  have k1 : iK B0 (x + 9) 2 := g0.k k0
  obtain ⟨f1, g1, W2⟩ := wst g0.1 k1 W1 (c := 1) (j := 1) k rfl (by rw [t5]; decide)
  have hz1 : (grC B0 (x + 9) 2).getD 0 = z := by rw [hB0, gr_si]; exact hz.symm
  rw [hz1] at f1 g1 W2
  obtain ⟨B1, hB1⟩ : ∃ B, B = siC B0 z (Int32.toNatClampNeg 5 * (H.1 8).toNatClampNeg + 1) k := ⟨_, rfl⟩
  rw [← hB1] at f1 g1 W2
  have k2 : iK B1 (x + 9) 2 := g1.k k1
  obtain ⟨f2, g2, W3⟩ := wst g1.1 k2 W2 (c := 2) (j := 2) o rfl (by rw [t5]; decide)
  have hz2 : (grC B1 (x + 9) 2).getD 0 = z := by rw [hB1, gr_si]; exact hz1
  rw [hz2] at f2 g2 W3
  obtain ⟨B2, hB2⟩ : ∃ B, B = siC B1 z (Int32.toNatClampNeg 5 * (H.1 8).toNatClampNeg + 2) o := ⟨_, rfl⟩
  rw [← hB2] at f2 g2 W3
  have k3 : iK B2 (x + 9) 2 := g2.k k2
  obtain ⟨f3, g3, W4⟩ := wst g2.1 k3 W3 (c := 3) (j := 3) y rfl (by rw [t5]; decide)
  have hz3 : (grC B2 (x + 9) 2).getD 0 = z := by rw [hB2, gr_si]; exact hz2
  rw [hz3] at f3 g3 W4
  obtain ⟨B3, hB3⟩ : ∃ B, B = siC B2 z (Int32.toNatClampNeg 5 * (H.1 8).toNatClampNeg + 3) y := ⟨_, rfl⟩
  rw [← hB3] at f3 g3 W4
  have k4 : iK B3 (x + 9) 2 := g3.k k3
  obtain ⟨f4, g4, W5⟩ := wst g3.1 k4 W4 (c := 4) (j := 4) n rfl (by rw [t5]; decide)
  have hz4 : (grC B3 (x + 9) 2).getD 0 = z := by rw [hB3, gr_si]; exact hz3
  rw [hz4] at f4 g4 W5
  obtain ⟨B4, hB4⟩ : ∃ B, B = siC B3 z (Int32.toNatClampNeg 5 * (H.1 8).toNatClampNeg + 4) n := ⟨_, rfl⟩
  rw [← hB4] at f4 g4 W5
  have k5 : iK B4 (x + 9) 2 := g4.k k4
  have G : LSt noE T1 [] (x + 9) S1 c1 B4 ca := (((((g.tr g0).tr g1).tr g2).tr g3).tr g4)
  have hzL : (grC B4 (x + 9) 2).getD 0 = z := by rw [hB4, gr_si]; exact hz4
  have n5 : Int32.toNatClampNeg 5 = 5 := by decide
  have cc : ∀ i, giC B4 z i = if i = 5 * (H.1 8).toNatClampNeg + 4 then n else if i = 5 * (H.1 8).toNatClampNeg + 3 then y else if i = 5 * (H.1 8).toNatClampNeg + 2 then o else if i = 5 * (H.1 8).toNatClampNeg + 1 then k else if i = 5 * (H.1 8).toNatClampNeg + 0 then (giC Sa (x + 7) 3) else giC Sa z i := fun i => by
    rw [hB4]
    simp only [gi_si, true_and, n5]
    rw [hB3]
    simp only [gi_si, true_and, n5]
    rw [hB2]
    simp only [gi_si, true_and, n5]
    rw [hB1]
    simp only [gi_si, true_and, n5]
    rw [hB0]
    simp only [gi_si, true_and, n5]
  have nkL : nk S1 B4 := fun q c n k => nka q c n (by
    rw [hB4] at k
    have k := ik_si.mp k
    rw [hB3] at k
    have k := ik_si.mp k
    rw [hB2] at k
    have k := ik_si.mp k
    rw [hB1] at k
    have k := ik_si.mp k
    rw [hB0] at k
    have k := ik_si.mp k
    exact k)
  have old : ∀ i : Nat, i < 5 * (H.1 8).toNatClampNeg → giC B4 ((grC B4 (x + 9) 2).getD 0) i = giC S1 ((grC S1 (x + 9) 2).getD 0) i := fun i hi => by
    rw [hzL, cc i, if_neg (by omega), if_neg (by omega), if_neg (by omega), if_neg (by omega), if_neg (by omega), hz]
    exact ec i (by omega)
  have e7 : giC Sa (x + 7) 3 = H.1 7 := by
    have k7 := w.1.2.2.2.2.1
    have e : Sa.2.2 (x + 7) = S1.2.2 (x + 7) := g.2.2.2.1 _ k7.1 (by omega) (ik_ne k7 (zl_k a.ci a.k1 (Or.inr rfl)).2 (by decide))
    unfold giC
    rw [e]
    exact r.2.2.2.1.1.1
  have e1 := iAdd (x := H.1 8) (y := 1) (by rw [i1]; omega) (by rw [i1]; omega)
  rw [i1] at e1
  have eh : (kpH H k o y n).1 8 = H.1 8 + 1 := rfl
  refine ⟨B4, ca, ?_, G, nkL, r.l9 a.ci a.k1 G nkL ?_ ?_ (fun i j hi hj => ?_) ⟨⟨rfl, rfl, rfl, rfl, rfl⟩, fun q h1 h2 => kpH_q H k o y n (by omega)⟩ ⟨rfl, rfl, rfl, rfl, rfl⟩ ⟨rfl, rfl, rfl, rfl⟩ ⟨rfl, rfl, rfl, rfl⟩ (by rw [eh]; omega)⟩
  · unfold f_Y7_keep b_Y7_keep_7a b_Y7_keep_22a b_Y7_keep_31a b_Y7_keep_40a b_Y7_keep_49a b_Y7_keep_59a
    rw [w.2.1.2.2.2.2.2.1, Option.getD_some, f]
    simp only [e5a, e4a, Option.getD_some, f0]
    rw [show grC B0 x 5 = some (x + 9) from by rw [hB0, gr_si]; exact e5a]
    simp only [Option.getD_some, f1]
    rw [show grC B1 x 5 = some (x + 9) from by rw [hB1, gr_si, hB0, gr_si]; exact e5a]
    simp only [Option.getD_some, f2]
    rw [show grC B2 x 5 = some (x + 9) from by rw [hB2, gr_si, hB1, gr_si, hB0, gr_si]; exact e5a]
    simp only [Option.getD_some, f3]
    rw [show grC B3 x 5 = some (x + 9) from by rw [hB3, gr_si, hB2, gr_si, hB1, gr_si, hB0, gr_si]; exact e5a]
    simp only [Option.getD_some, f4]
  · refine iEq.mpr ?_
    rw [W5.1, eh, e1]
    omega
  · have y := W5.2.2
    rw [t5] at y
    rw [eh, e1]
    omega
  · rw [eh, e1] at hi
    rw [hzL, cc, kpH_r, e7]
    by_cases y : i < (H.1 8).toNatClampNeg
    · rw [if_neg (show ¬ 5 * i + j = _ by omega), if_neg (show ¬ 5 * i + j = _ by omega), if_neg (show ¬ 5 * i + j = _ by omega), if_neg (show ¬ 5 * i + j = _ by omega), if_neg (show ¬ 5 * i + j = _ by omega), if_neg (show ¬ 5 * i + j = _ by omega), if_neg (show ¬ 5 * i + j = _ by omega), if_neg (show ¬ 5 * i + j = _ by omega), if_neg (show ¬ 5 * i + j = _ by omega), if_neg (show ¬ 5 * i + j = _ by omega), hz, ec _ (by omega)]
      exact r.2.2.2.1.2.1.2.2 i j (by omega) hj
    · have ei : i = (H.1 8).toNatClampNeg := by omega
      subst ei
      rcases (show j = 0 ∨ j = 1 ∨ j = 2 ∨ j = 3 ∨ j = 4 by omega) with rfl | rfl | rfl | rfl | rfl
      · rw [if_neg (show ¬ 5 * (H.1 8).toNatClampNeg + 0 = _ by omega), if_neg (show ¬ 5 * (H.1 8).toNatClampNeg + 0 = _ by omega), if_neg (show ¬ 5 * (H.1 8).toNatClampNeg + 0 = _ by omega), if_neg (show ¬ 5 * (H.1 8).toNatClampNeg + 0 = _ by omega), if_pos rfl, if_neg (show ¬ 5 * (H.1 8).toNatClampNeg + 0 = _ by omega), if_neg (show ¬ 5 * (H.1 8).toNatClampNeg + 0 = _ by omega), if_neg (show ¬ 5 * (H.1 8).toNatClampNeg + 0 = _ by omega), if_neg (show ¬ 5 * (H.1 8).toNatClampNeg + 0 = _ by omega), if_pos (Nat.add_zero _)]
      · rw [if_neg (show ¬ 5 * (H.1 8).toNatClampNeg + 1 = _ by omega), if_neg (show ¬ 5 * (H.1 8).toNatClampNeg + 1 = _ by omega), if_neg (show ¬ 5 * (H.1 8).toNatClampNeg + 1 = _ by omega), if_pos rfl, if_neg (show ¬ 5 * (H.1 8).toNatClampNeg + 1 = _ by omega), if_neg (show ¬ 5 * (H.1 8).toNatClampNeg + 1 = _ by omega), if_neg (show ¬ 5 * (H.1 8).toNatClampNeg + 1 = _ by omega), if_pos rfl]
      · rw [if_neg (show ¬ 5 * (H.1 8).toNatClampNeg + 2 = _ by omega), if_neg (show ¬ 5 * (H.1 8).toNatClampNeg + 2 = _ by omega), if_pos rfl, if_neg (show ¬ 5 * (H.1 8).toNatClampNeg + 2 = _ by omega), if_neg (show ¬ 5 * (H.1 8).toNatClampNeg + 2 = _ by omega), if_pos rfl]
      · rw [if_neg (show ¬ 5 * (H.1 8).toNatClampNeg + 3 = _ by omega), if_pos rfl, if_neg (show ¬ 5 * (H.1 8).toNatClampNeg + 3 = _ by omega), if_pos rfl]
      · rw [if_pos rfl, if_pos rfl]
theorem min_v (a : Sst noE x S T [] col S1 T1 [] c1) (r : RR wF N S1 T1 x H) (h8 : 0 ≤ (H.1 7).toInt ∧ (H.1 7).toInt < 600) (k p b c d v : Int32) : ∃ S2 c2, b_Y0_enact_39a S1 x k p b c d v = (v, S2) ∧ LSt noE T1 [] (x + 7) S1 c1 S2 c2 ∧ nk S1 S2 ∧ RR (wF.1, upd wF.2.1 (H.1 7).toNatClampNeg (H.1 6), wF.2.2.1, (miH H k p b c d v).2 40) N S2 T1 x (miH H k p b c d v) ∧ giC S2 ((grC S2 (x + 7) 2).getD 0) (7 * (H.1 7).toNatClampNeg + 6) = H.1 6 ∧ ∀ i, i < 7 * (H.1 7).toNatClampNeg → giC S2 ((grC S2 (x + 7) 2).getD 0) i = giC S1 ((grC S1 (x + 7) 2).getD 0) i := by
  have w := a.ci.wf.w0 a.k1
  have kl := w.1.2.2.2.2.1
  have e0 : giC S1 (x + 7) 3 = H.1 7 := r.2.2.2.1.1.1
  have ec0 : giC S1 (x + 7) 0 = 7 := r.2.2.2.1.2.2.1.1
  have olc : 7 * (H.1 7).toInt ≤ lcl S1 (x + 7) := r.2.2.2.1.1.2.1
  have kn := iNat h8.1
  obtain ⟨Sa, ca, f, g, e3, e3i, el, ec, nka⟩ := open_v a.ci kl (by rw [e0]; exact h8.2)
  have ka := a.k1.n g.2.1
  have wa := g.1.wf.w0 ka
  have e5a : grC Sa x 5 = some (x + 9) := wa.2.1.2.2.2.2.2.1
  have e4a : grC Sa x 4 = some (x + 7) := wa.2.1.2.2.2.2.1
  have e1a : grC Sa x 1 = some (x + 1) := wa.2.1.2.1
  have k0 : iK Sa (x + 7) 2 := wa.1.2.2.2.2.1
  have g5 : giC Sa (x + 7) 0 = 7 := g.2.2.2.2.2.1.1.trans ec0
  have t5 : (7 : Int32).toInt = 7 := by decide
  have W0 : wI Sa (x + 7) (H.1 7).toNatClampNeg 7 := ⟨by rw [e3i, e0]; omega, g5, by rw [t5]; rw [e0, ec0, t5] at el; omega⟩
  obtain ⟨z, hz⟩ : ∃ z, z = (grC Sa (x + 7) 2).getD 0 := ⟨_, rfl⟩
  obtain ⟨f0, g0, W1⟩ := wst g.1 k0 W0 (c := 0) (j := 0) k rfl (by rw [t5]; decide)
  rw [← hz] at f0 g0 W1
  obtain ⟨B0, hB0⟩ : ∃ B, B = siC Sa z (Int32.toNatClampNeg 7 * (H.1 7).toNatClampNeg + 0) k := ⟨_, rfl⟩
  rw [← hB0] at f0 g0 W1
  have k1 : iK B0 (x + 7) 2 := g0.k k0
  obtain ⟨f1, g1, W2⟩ := wst g0.1 k1 W1 (c := 1) (j := 1) p rfl (by rw [t5]; decide)
  have hz1 : (grC B0 (x + 7) 2).getD 0 = z := by rw [hB0, gr_si]; exact hz.symm
  rw [hz1] at f1 g1 W2
  obtain ⟨B1, hB1⟩ : ∃ B, B = siC B0 z (Int32.toNatClampNeg 7 * (H.1 7).toNatClampNeg + 1) p := ⟨_, rfl⟩
  rw [← hB1] at f1 g1 W2
  have k2 : iK B1 (x + 7) 2 := g1.k k1
  obtain ⟨f2, g2, W3⟩ := wst g1.1 k2 W2 (c := 2) (j := 2) b rfl (by rw [t5]; decide)
  have hz2 : (grC B1 (x + 7) 2).getD 0 = z := by rw [hB1, gr_si]; exact hz1
  rw [hz2] at f2 g2 W3
  obtain ⟨B2, hB2⟩ : ∃ B, B = siC B1 z (Int32.toNatClampNeg 7 * (H.1 7).toNatClampNeg + 2) b := ⟨_, rfl⟩
  rw [← hB2] at f2 g2 W3
  have k3 : iK B2 (x + 7) 2 := g2.k k2
  obtain ⟨f3, g3, W4⟩ := wst g2.1 k3 W3 (c := 3) (j := 3) c rfl (by rw [t5]; decide)
  have hz3 : (grC B2 (x + 7) 2).getD 0 = z := by rw [hB2, gr_si]; exact hz2
  rw [hz3] at f3 g3 W4
  obtain ⟨B3, hB3⟩ : ∃ B, B = siC B2 z (Int32.toNatClampNeg 7 * (H.1 7).toNatClampNeg + 3) c := ⟨_, rfl⟩
  rw [← hB3] at f3 g3 W4
  have k4 : iK B3 (x + 7) 2 := g3.k k3
  obtain ⟨f4, g4, W5⟩ := wst g3.1 k4 W4 (c := 4) (j := 4) d rfl (by rw [t5]; decide)
  have hz4 : (grC B3 (x + 7) 2).getD 0 = z := by rw [hB3, gr_si]; exact hz3
  rw [hz4] at f4 g4 W5
  obtain ⟨B4, hB4⟩ : ∃ B, B = siC B3 z (Int32.toNatClampNeg 7 * (H.1 7).toNatClampNeg + 4) d := ⟨_, rfl⟩
  rw [← hB4] at f4 g4 W5
  have k5 : iK B4 (x + 7) 2 := g4.k k4
  obtain ⟨f5, g5, W6⟩ := wst g4.1 k5 W5 (c := 5) (j := 5) v rfl (by rw [t5]; decide)
  have hz5 : (grC B4 (x + 7) 2).getD 0 = z := by rw [hB4, gr_si]; exact hz4
  rw [hz5] at f5 g5 W6
  obtain ⟨B5, hB5⟩ : ∃ B, B = siC B4 z (Int32.toNatClampNeg 7 * (H.1 7).toNatClampNeg + 5) v := ⟨_, rfl⟩
  rw [← hB5] at f5 g5 W6
  have k6 : iK B5 (x + 7) 2 := g5.k k5
  obtain ⟨v6, hv6⟩ : ∃ v6, giC B5 (x + 1) 1 = v6 := ⟨_, rfl⟩
  obtain ⟨f6, g6, W7⟩ := wst g5.1 k6 W6 (c := 6) (j := 6) v6 rfl (by rw [t5]; decide)
  have hz6 : (grC B5 (x + 7) 2).getD 0 = z := by rw [hB5, gr_si]; exact hz5
  rw [hz6] at f6 g6 W7
  obtain ⟨B6, hB6⟩ : ∃ B, B = siC B5 z (Int32.toNatClampNeg 7 * (H.1 7).toNatClampNeg + 6) v6 := ⟨_, rfl⟩
  rw [← hB6] at f6 g6 W7
  have k7 : iK B6 (x + 7) 2 := g6.k k6
  have G : LSt noE T1 [] (x + 7) S1 c1 B6 ca := (((((((g.tr g0).tr g1).tr g2).tr g3).tr g4).tr g5).tr g6)
  have hzL : (grC B6 (x + 7) 2).getD 0 = z := by rw [hB6, gr_si]; exact hz6
  have n5 : Int32.toNatClampNeg 7 = 7 := by decide
  have cc : ∀ i, giC B6 z i = if i = 7 * (H.1 7).toNatClampNeg + 6 then v6 else if i = 7 * (H.1 7).toNatClampNeg + 5 then v else if i = 7 * (H.1 7).toNatClampNeg + 4 then d else if i = 7 * (H.1 7).toNatClampNeg + 3 then c else if i = 7 * (H.1 7).toNatClampNeg + 2 then b else if i = 7 * (H.1 7).toNatClampNeg + 1 then p else if i = 7 * (H.1 7).toNatClampNeg + 0 then k else giC Sa z i := fun i => by
    rw [hB6]
    simp only [gi_si, true_and, n5]
    rw [hB5]
    simp only [gi_si, true_and, n5]
    rw [hB4]
    simp only [gi_si, true_and, n5]
    rw [hB3]
    simp only [gi_si, true_and, n5]
    rw [hB2]
    simp only [gi_si, true_and, n5]
    rw [hB1]
    simp only [gi_si, true_and, n5]
    rw [hB0]
    simp only [gi_si, true_and, n5]
  have nkL : nk S1 B6 := fun q c n k => nka q c n (by
    rw [hB6] at k
    have k := ik_si.mp k
    rw [hB5] at k
    have k := ik_si.mp k
    rw [hB4] at k
    have k := ik_si.mp k
    rw [hB3] at k
    have k := ik_si.mp k
    rw [hB2] at k
    have k := ik_si.mp k
    rw [hB1] at k
    have k := ik_si.mp k
    rw [hB0] at k
    have k := ik_si.mp k
    exact k)
  have old : ∀ i : Nat, i < 7 * (H.1 7).toNatClampNeg → giC B6 ((grC B6 (x + 7) 2).getD 0) i = giC S1 ((grC S1 (x + 7) 2).getD 0) i := fun i hi => by
    rw [hzL, cc i, if_neg (by omega), if_neg (by omega), if_neg (by omega), if_neg (by omega), if_neg (by omega), if_neg (by omega), if_neg (by omega), hz]
    exact ec i (by omega)
  have e1 := iAdd (x := H.1 7) (y := 1) (by rw [i1]; omega) (by rw [i1]; omega)
  rw [i1] at e1
  have eh : (miH H k p b c d v).1 7 = H.1 7 + 1 := rfl
  have c6 : giC B6 ((grC B6 (x + 7) 2).getD 0) (7 * (H.1 7).toNatClampNeg + 6) = H.1 6 := by
    rw [hzL, cc, if_pos rfl, ← hv6]
    have k1 := w.1.2.1
    have e : Sa.2.2 (x + 1) = S1.2.2 (x + 1) := g.2.2.2.1 _ k1.1 (by omega) (ik_ne k1 (zl_k a.ci a.k1 (Or.inl rfl)).2 (by decide))
    have nz : x + 1 ≠ z := fun y => by
      have kz := (g.1.wf.w2 k0).2.1.2
      rw [← hz, ← y] at kz
      have := kz.2
      have k1a := k1.n g.2.1
      rw [k1a.2] at this
      exact absurd this (by decide)
    rw [hB5, gi_si, if_neg (fun y => nz y.1), hB4, gi_si, if_neg (fun y => nz y.1), hB3, gi_si, if_neg (fun y => nz y.1), hB2, gi_si, if_neg (fun y => nz y.1), hB1, gi_si, if_neg (fun y => nz y.1), hB0, gi_si, if_neg (fun y => nz y.1)]
    unfold giC
    rw [e]
    exact iEq.mpr ((a.ci.tp (x + 1) (noE_n _) k1).1.trans (rr_n r.2.1))
  refine ⟨B6, ca, ?_, G, nkL, r.l7 (H2 := miH H k p b c d v) a.ci a.k1 G nkL ?_ ?_ (fun i j hi hj => ?_) ⟨⟨rfl, rfl, rfl, rfl, rfl⟩, fun q h1 h2 => miH_q H k p b c d v (by omega)⟩ ⟨rfl, rfl, rfl, rfl, rfl⟩ ⟨rfl, rfl, rfl, rfl⟩ ⟨rfl, rfl, rfl, rfl⟩ (Int.le_refl _) (fun i hi => ?_), c6, old⟩
  · unfold b_Y0_enact_39a b_Y0_enact_48a b_Y0_enact_57a b_Y0_enact_66a b_Y0_enact_75a b_Y0_enact_85a b_Y0_enact_95a b_Y0_enact_105a b_Y0_enact_121a
    rw [w.2.1.2.2.2.2.1, Option.getD_some, f]
    simp only [e4a, e1a, Option.getD_some, f0]
    rw [show grC B0 x 4 = some (x + 7) from by rw [hB0, gr_si]; exact e4a]
    simp only [Option.getD_some, f1]
    rw [show grC B1 x 4 = some (x + 7) from by rw [hB1, gr_si, hB0, gr_si]; exact e4a]
    simp only [Option.getD_some, f2]
    rw [show grC B2 x 4 = some (x + 7) from by rw [hB2, gr_si, hB1, gr_si, hB0, gr_si]; exact e4a]
    simp only [Option.getD_some, f3]
    rw [show grC B3 x 4 = some (x + 7) from by rw [hB3, gr_si, hB2, gr_si, hB1, gr_si, hB0, gr_si]; exact e4a]
    simp only [Option.getD_some, f4]
    rw [show grC B4 x 4 = some (x + 7) from by rw [hB4, gr_si, hB3, gr_si, hB2, gr_si, hB1, gr_si, hB0, gr_si]; exact e4a]
    simp only [Option.getD_some, f5]
    rw [show grC B5 x 4 = some (x + 7) from by rw [hB5, gr_si, hB4, gr_si, hB3, gr_si, hB2, gr_si, hB1, gr_si, hB0, gr_si]; exact e4a]
    rw [show grC B5 x 1 = some (x + 1) from by rw [hB5, gr_si, hB4, gr_si, hB3, gr_si, hB2, gr_si, hB1, gr_si, hB0, gr_si]; exact e1a]
    rw [Option.getD_some, Option.getD_some, hv6]
    simp only [Option.getD_some, f6]
  · refine iEq.mpr ?_
    rw [W7.1, eh, e1]
    omega
  · have y := W7.2.2
    rw [t5] at y
    rw [eh, e1]
    omega
  · rw [eh, e1] at hi
    rw [hzL, cc, miH_r]
    by_cases y : i < (H.1 7).toNatClampNeg
    · rw [if_neg (show ¬ 7 * i + j = _ by omega), if_neg (show ¬ 7 * i + j = _ by omega), if_neg (show ¬ 7 * i + j = _ by omega), if_neg (show ¬ 7 * i + j = _ by omega), if_neg (show ¬ 7 * i + j = _ by omega), if_neg (show ¬ 7 * i + j = _ by omega), if_neg (show ¬ 7 * i + j = _ by omega), if_neg (show ¬ 6 * i + j = _ by omega), if_neg (show ¬ 6 * i + j = _ by omega), if_neg (show ¬ 6 * i + j = _ by omega), if_neg (show ¬ 6 * i + j = _ by omega), if_neg (show ¬ 6 * i + j = _ by omega), if_neg (show ¬ 6 * i + j = _ by omega), hz, ec _ (by omega)]
      exact r.2.2.2.1.1.2.2 i j (by omega) hj
    · have ei : i = (H.1 7).toNatClampNeg := by omega
      subst ei
      rcases (show j = 0 ∨ j = 1 ∨ j = 2 ∨ j = 3 ∨ j = 4 ∨ j = 5 by omega) with rfl | rfl | rfl | rfl | rfl | rfl
      · rw [if_neg (show ¬ 7 * (H.1 7).toNatClampNeg + 0 = _ by omega), if_neg (show ¬ 7 * (H.1 7).toNatClampNeg + 0 = _ by omega), if_neg (show ¬ 7 * (H.1 7).toNatClampNeg + 0 = _ by omega), if_neg (show ¬ 7 * (H.1 7).toNatClampNeg + 0 = _ by omega), if_neg (show ¬ 7 * (H.1 7).toNatClampNeg + 0 = _ by omega), if_neg (show ¬ 7 * (H.1 7).toNatClampNeg + 0 = _ by omega), if_pos rfl, if_neg (show ¬ 6 * (H.1 7).toNatClampNeg + 0 = _ by omega), if_neg (show ¬ 6 * (H.1 7).toNatClampNeg + 0 = _ by omega), if_neg (show ¬ 6 * (H.1 7).toNatClampNeg + 0 = _ by omega), if_neg (show ¬ 6 * (H.1 7).toNatClampNeg + 0 = _ by omega), if_neg (show ¬ 6 * (H.1 7).toNatClampNeg + 0 = _ by omega), if_pos (Nat.add_zero _)]
      · rw [if_neg (show ¬ 7 * (H.1 7).toNatClampNeg + 1 = _ by omega), if_neg (show ¬ 7 * (H.1 7).toNatClampNeg + 1 = _ by omega), if_neg (show ¬ 7 * (H.1 7).toNatClampNeg + 1 = _ by omega), if_neg (show ¬ 7 * (H.1 7).toNatClampNeg + 1 = _ by omega), if_neg (show ¬ 7 * (H.1 7).toNatClampNeg + 1 = _ by omega), if_pos rfl, if_neg (show ¬ 6 * (H.1 7).toNatClampNeg + 1 = _ by omega), if_neg (show ¬ 6 * (H.1 7).toNatClampNeg + 1 = _ by omega), if_neg (show ¬ 6 * (H.1 7).toNatClampNeg + 1 = _ by omega), if_neg (show ¬ 6 * (H.1 7).toNatClampNeg + 1 = _ by omega), if_pos rfl]
      · rw [if_neg (show ¬ 7 * (H.1 7).toNatClampNeg + 2 = _ by omega), if_neg (show ¬ 7 * (H.1 7).toNatClampNeg + 2 = _ by omega), if_neg (show ¬ 7 * (H.1 7).toNatClampNeg + 2 = _ by omega), if_neg (show ¬ 7 * (H.1 7).toNatClampNeg + 2 = _ by omega), if_pos rfl, if_neg (show ¬ 6 * (H.1 7).toNatClampNeg + 2 = _ by omega), if_neg (show ¬ 6 * (H.1 7).toNatClampNeg + 2 = _ by omega), if_neg (show ¬ 6 * (H.1 7).toNatClampNeg + 2 = _ by omega), if_pos rfl]
      · rw [if_neg (show ¬ 7 * (H.1 7).toNatClampNeg + 3 = _ by omega), if_neg (show ¬ 7 * (H.1 7).toNatClampNeg + 3 = _ by omega), if_neg (show ¬ 7 * (H.1 7).toNatClampNeg + 3 = _ by omega), if_pos rfl, if_neg (show ¬ 6 * (H.1 7).toNatClampNeg + 3 = _ by omega), if_neg (show ¬ 6 * (H.1 7).toNatClampNeg + 3 = _ by omega), if_pos rfl]
      · rw [if_neg (show ¬ 7 * (H.1 7).toNatClampNeg + 4 = _ by omega), if_neg (show ¬ 7 * (H.1 7).toNatClampNeg + 4 = _ by omega), if_pos rfl, if_neg (show ¬ 6 * (H.1 7).toNatClampNeg + 4 = _ by omega), if_pos rfl]
      · rw [if_neg (show ¬ 7 * (H.1 7).toNatClampNeg + 5 = _ by omega), if_pos rfl, if_pos rfl]
  · rw [eh, e1] at hi
    by_cases y : i = (H.1 7).toNatClampNeg
    · subst y
      rw [upd_eq]
      exact c6
    · rw [upd_ne y, old _ (by omega)]
      exact r.2.2.2.1.2.2.2.2.2.2.2.2 i (by omega)
end
end
section
/-! ===== the deeds: a result told: votes counted, what comes of them ===== -/
section
variable {wF : Prop × (Nat → Int32) × Int32 × (Nat → Int32)} {E : Nat → Prop} {x : Nat} {S S1 S2 S3 : Cst} {T T1 T2 T3 : Nat → List Nat} {F F1 : List Nat} {col c1 c2 c3 : Nat → Nat} {H H2 H3 G : HS} {N N2 M M2 : Int} {D : Nat → Prop} {v : Int32}
/-- nobody has the floor at the end -/
theorem RF.fin (r : RR wF N S1 T1 x (sI G 5 v)) (ci : CI noE S1 T1 [] c1) (kx : iK S1 x 0) (g5 : G.1 5 = -1) : RR wF N (siC S1 (x + 37) 6 (-1)) T1 x G := by
  have y := r.hc ci kx ((hC'.rf x S1).si 6 (-1) (Or.inl rfl)) (sH.I _ (k := 5) (-1) (by decide) (by decide) (by decide) (by decide) (by decide)) ⟨rfl, rfl, rfl, rfl, rfl⟩ ⟨rfl, rfl, rfl⟩ (r.1.f6 (-1))
  have e : sI (sI G 5 v) 5 (-1) = G := by
    have := sI_bk G 5 v
    rw [g5] at this
    exact this
  rw [e] at y
  exact y
theorem goes_5 (G : HS) (v : Int32) : (f_X11_goes (sI G 5 v)).2 = sI (f_X11_goes G).2 5 v := by
  rw [goes_e, goes_e]
  refine Prod.ext (funext fun j => ?_) rfl
  show (if j = 6 then G.1 6 - 1 else if j = 5 then v else G.1 j) = if j = 5 then v else if j = 6 then G.1 6 - 1 else G.1 j
  by_cases z : j = 6
  · rw [if_pos z, if_neg (by omega), if_pos z]
  · rw [if_neg z, if_neg z]
/-- the top goes, the floor apart -/
theorem goF (a : AS x S T col S1 T1 c1) (r : RR wF N S1 T1 x (sI G 5 v)) (h : RA G) (z : ¬ G.1 6 = 0) : ∃ S2 T2, f_Y0_dropTop S1 x (x + 1) = (0, S2) ∧ AS x S T col S2 T2 c1 ∧ RR wF N S2 T2 x (sI (f_X11_goes G).2 5 v) ∧ gF S1 S2 ∧ T2 (x + 1) = (T1 (x + 1)).dropLast ∧ ∀ c, c ≠ x + 1 → c ≠ x → T2 c = T1 c := by
  have y := go_v a r h z
  rw [goes_5] at y
  exact y
/-- votes of those there -/
def tC (S : Cst) (x q : Nat) (w : Int32) : Nat → Nat
  | 0 => 0
  | n + 1 => tC S x q w n + (if giC S (x + 38) n ≠ 0 ∧ giC S (q + 3) n = w then 1 else 0)
theorem tC_le (S : Cst) (x q : Nat) (w : Int32) : ∀ n, tC S x q w n ≤ n := by
  intro n
  induction n with
  | zero => exact Nat.le_refl _
  | succ n ih =>
    rw [tC]
    split <;> omega
theorem tal_l (wf : wfS S1) (kx : iK S1 x 0) {q : Nat} (k : iK S1 q 3) {how w : Int32} (hw : ∀ u : Int32, u - 1 = how ↔ u = w) (h0 : 1 ≤ (giC S1 (x + 37) 0).toInt ∧ (giC S1 (x + 37) 0).toInt ≤ 200) : ∀ (n : Nat) (s b : Int32), 0 ≤ b.toInt → b.toInt ≤ (giC S1 (x + 37) 0).toInt → 200 - b.toInt < n → s.toInt = tC S1 x q w b.toNatClampNeg → (lp_Y2_tally_5 S1 (x + 37) n (some q) how s b).toInt = tC S1 x q w (giC S1 (x + 37) 0).toNatClampNeg := by
  have w1 := wf.w1 (wf.w0 kx).1.1
  have w3 := wf.w3 k
  have e200 : (Int32.ofNat 200).toInt = 200 := by decide
  intro n
  induction n with
  | zero => intro s b h1 h2 h3; omega
  | succ n ih =>
    intro s b h1 h2 h3 hs
    rw [lp_Y2_tally_5]
    unfold st_Y2_tally_5 b_Y2_tally_36
    have kb := iNat h1
    by_cases c : giC S1 (x + 37) 0 ≤ b
    · have := iLe.mp c
      rw [if_pos c]
      have e : b = giC S1 (x + 37) 0 := iEq.mpr (by omega)
      show s.toInt = _
      rw [hs, e]
    · have c' := mt iLe.mpr c
      have e1 := iAdd (x := b) (y := 1) (by rw [i1]; omega) (by rw [i1]; omega)
      rw [i1] at e1
      have kb1 := iNat (x := b + 1) (by omega)
      have en : (b + 1).toNatClampNeg = b.toNatClampNeg + 1 := by omega
      have le := tC_le S1 x q w b.toNatClampNeg
      have a1 := iAdd (x := s) (y := 1) (by rw [i1]; omega) (by rw [i1]; omega)
      rw [i1] at a1
      rw [if_neg c]
      have eth : f_Y2_isThere S1 (x + 37) b = if giC S1 (x + 38) b.toNatClampNeg = 0 then 0 else 1 := by
        unfold f_Y2_isThere b_Y2_isThere_34 b_Y2_isThere_35
        rw [w1.2.1.1, Option.getD_some, w1.1.2.1, if_neg (fun z => by have := iLt.mp z; rw [i0] at this; omega), if_neg c, if_neg (fun z => by have := iLe.mp z; rw [e200] at this; omega)]
      have evo : f_Y4_voteOf S1 q b = giC S1 (q + 3) b.toNatClampNeg - 1 := by
        unfold f_Y4_voteOf b_Y4_voteOf_25
        rw [w3.2.1.2, Option.getD_some, w3.1.2.2, if_neg (fun z => by have := iLt.mp z; rw [i0] at this; omega), if_pos (iLt.mpr (by rw [e200]; omega))]
      rw [eth, Option.getD_some, evo]
      by_cases z1 : giC S1 (x + 38) b.toNatClampNeg = 0
      · rw [if_pos z1, if_pos rfl]
        refine ih s (b + 1) (by omega) (by omega) (by omega) ?_
        rw [en, tC, if_neg (fun y => y.1 z1), hs]
        rfl
      · rw [if_neg z1, if_neg h10]
        by_cases z2 : giC S1 (q + 3) b.toNatClampNeg = w
        · rw [if_pos ((hw _).mpr z2)]
          refine ih (s + 1) (b + 1) (by omega) (by omega) (by omega) ?_
          rw [en, tC, if_pos ⟨z1, z2⟩, a1, hs]
          omega
        · rw [if_neg (fun y => z2 ((hw _).mp y))]
          refine ih s (b + 1) (by omega) (by omega) (by omega) ?_
          rw [en, tC, if_neg (fun y => z2 y.2), hs]
          rfl
theorem tal_v (wf : wfS S1) (kx : iK S1 x 0) {q : Nat} (k : iK S1 q 3) {how w : Int32} (hw : ∀ u : Int32, u - 1 = how ↔ u = w) (h0 : 1 ≤ (giC S1 (x + 37) 0).toInt ∧ (giC S1 (x + 37) 0).toInt ≤ 200) : (f_Y2_tally S1 (x + 37) (some q) how).toInt = tC S1 x q w (giC S1 (x + 37) 0).toNatClampNeg :=
  tal_l wf kx k hw h0 100000 0 0 (by rw [i0]; omega) (by rw [i0]; omega) (by rw [i0]; omega) (by rw [i0, zn0]; rfl)
theorem hw1 (u : Int32) : u - 1 = 1 ↔ u = 2 := ⟨fun h => by have := congrArg (· + 1) h; simp at this; rw [this], fun h => by rw [h]; rfl⟩
theorem hw0 (u : Int32) : u - 1 = 0 ↔ u = 1 := ⟨fun h => by have := congrArg (· + 1) h; simp at this; rw [this], fun h => by rw [h]; rfl⟩
/-- the reference's count, one by one -/
theorem cnt_l (r : hR S1 x H) {q : Nat} {t : Int32} (mu : mR S1 q H t.toNatClampNeg) (ht : 0 ≤ t.toInt ∧ t.toInt < 90) (h0 : 1 ≤ (H.1 0).toInt ∧ (H.1 0).toInt ≤ 200) (sec : ¬ (f_X11_hasSeconder H).1 = 0) (hs2 : (f_X11_hasSeconder H).2 = H) (k : Int32) : ∀ (n : Nat) (y z b : Int32), 0 ≤ b.toInt → b.toInt ≤ (H.1 0).toInt → 200 - b.toInt < n → y.toInt = tC S1 x q 2 b.toNatClampNeg → z.toInt = tC S1 x q 1 b.toNatClampNeg → ∃ Y Z b', lp_X11_told_33 n H t k y z b = b_X11_told_119 H t k Y Z b' ∧ Y.toInt = tC S1 x q 2 (H.1 0).toNatClampNeg ∧ Z.toInt = tC S1 x q 1 (H.1 0).toNatClampNeg := by
  intro n
  induction n with
  | zero => intro y z b h1 h2 h3; omega
  | succ n ih =>
    intro y z b h1 h2 h3 hy hz
    rw [lp_X11_told_33]
    unfold st_X11_told_33 b_X11_told_a46 b_X11_told_85 b_X11_told_110 b_X11_told_113
    have kb := iNat h1
    by_cases c : H.1 0 ≤ b
    · have := iLe.mp c
      rw [if_pos c]
      have e : b = H.1 0 := iEq.mpr (by omega)
      exact ⟨y, z, b, rfl, by rw [hy, e], by rw [hz, e]⟩
    · have c' := mt iLe.mpr c
      have e1 := iAdd (x := b) (y := 1) (by rw [i1]; omega) (by rw [i1]; omega)
      rw [i1] at e1
      have kb1 := iNat (x := b + 1) (by omega)
      have en : (b + 1).toNatClampNeg = b.toNatClampNeg + 1 := by omega
      have l1 := tC_le S1 x q 2 b.toNatClampNeg
      have l2 := tC_le S1 x q 1 b.toNatClampNeg
      have vb := mu.2.2.2.2.1 b.toNatClampNeg (by omega)
      have th := r.2.1 b.toNatClampNeg (by omega) (by omega)
      rw [if_neg c, hs2, if_neg sec, bx_v ht ⟨h1, by omega⟩]
      by_cases z1 : H.2 11 b.toNatClampNeg = 0
      · rw [if_pos z1]
        have z1' : giC S1 (x + 38) b.toNatClampNeg = 0 := th.trans z1
        refine ih y z (b + 1) (by omega) (by omega) (by omega) ?_ ?_
        · rw [en, tC, if_neg (fun f => f.1 z1'), hy]
          rfl
        · rw [en, tC, if_neg (fun f => f.1 z1'), hz]
          rfl
      · rw [if_neg z1]
        have z1' : ¬ giC S1 (x + 38) b.toNatClampNeg = 0 := fun f => z1 (th.symm.trans f)
        have ay := iAdd (x := y) (y := 1) (by rw [i1]; omega) (by rw [i1]; omega)
        have az := iAdd (x := z) (y := 1) (by rw [i1]; omega) (by rw [i1]; omega)
        rw [i1] at ay az
        have y0 : y + 0 = y := Int32.add_zero y
        have z0 : z + 0 = z := Int32.add_zero z
        rcases vb with ⟨g1, g2⟩ | ⟨g1, g2⟩ | ⟨g1, g2⟩
        · rw [g1, if_neg (by decide), if_neg (by decide)]
          show ∃ Y Z b', lp_X11_told_33 n H t k (y + 0) (z + 0) (b + 1) = _ ∧ _
          rw [y0, z0]
          refine ih y z (b + 1) (by omega) (by omega) (by omega) ?_ ?_
          · rw [en, tC, if_neg (fun f => by have := f.2; rw [g2] at this; exact absurd this (by decide)), hy]
            rfl
          · rw [en, tC, if_neg (fun f => by have := f.2; rw [g2] at this; exact absurd this (by decide)), hz]
            rfl
        · rw [g1, if_neg (by decide), if_pos rfl]
          show ∃ Y Z b', lp_X11_told_33 n H t k (y + 0) (z + 1) (b + 1) = _ ∧ _
          rw [y0]
          refine ih y (z + 1) (b + 1) (by omega) (by omega) (by omega) ?_ ?_
          · rw [en, tC, if_neg (fun f => by have := f.2; rw [g2] at this; exact absurd this (by decide)), hy]
            rfl
          · rw [en, tC, if_pos ⟨z1', g2⟩, az, hz]
            omega
        · rw [g1, if_pos rfl, if_neg (by decide)]
          show ∃ Y Z b', lp_X11_told_33 n H t k (y + 1) (z + 0) (b + 1) = _ ∧ _
          rw [z0]
          refine ih (y + 1) z (b + 1) (by omega) (by omega) (by omega) ?_ ?_
          · rw [en, tC, if_pos ⟨z1', g2⟩, ay, hy]
            omega
          · rw [en, tC, if_neg (fun f => by have := f.2; rw [g2] at this; exact absurd this (by decide)), hz]
            rfl
end
end
section
/-! ===== the deeds: a result told: what comes of the votes ===== -/
section
variable {wF : Prop × (Nat → Int32) × Int32 × (Nat → Int32)} {E : Nat → Prop} {x : Nat} {S S1 S2 S3 : Cst} {T T1 T2 T3 : Nat → List Nat} {F F1 : List Nat} {col c1 c2 c3 : Nat → Nat} {H H2 H3 G : HS} {N N2 M M2 : Int} {D : Nat → Prop} {v : Int32}
theorem out_v (a : AS x S T col S1 T1 c1) (r : RR wF N S1 T1 x H) (h : HA H) (z : ¬ H.1 6 = 0) {q : Nat} (mu : mR S1 q H (f_X11_top H).1.toNatClampNeg) {Y Z b : Int32} (hu : H.2 16 (f_X11_top H).1.toNatClampNeg = -1 → Y = 0 ∧ Z = 0) : b_X11_told_119 H (f_X11_top H).1 (H.2 14 (f_X11_top H).1.toNatClampNeg) Y Z b = b_X11_told_184 H (f_X11_top H).1 (H.2 14 (f_X11_top H).1.toNatClampNeg) Y Z (f_Y7_outcomeOf S1 (x + 37) (some q) Y Z) := by
  have w1 := a.w1
  obtain ⟨l, e⟩ := top_L h z
  have uk := (h.1.1.2.2.2.2.1 0 _ l).1
  rw [e] at uk
  have k2 := mu.1.1
  have k4 := mu.1.2.2.1
  have r0 := r.1.1.1
  have r12 := r.1.2.2.1
  unfold b_X11_told_119 f_Y7_outcomeOf b_X11_told_a129 b_X11_told_a152 b_X11_told_142 b_X11_told_143 b_X11_told_a174 b_X11_told_182 b_Y7_outcomeOf_19 b_Y7_outcomeOf_48
  rw [seconder_s, sec_v, Option.getD_some, k2, k4]
  generalize f_X11_top H = tt at *
  generalize H.2 14 tt.1.toNatClampNeg = k at *
  by_cases k9 : k = 9
  · rw [if_pos k9, if_pos k9]
    by_cases s : H.2 16 tt.1.toNatClampNeg = -1
    · obtain ⟨rfl, rfl⟩ := hu s
      rw [if_pos s, if_pos rfl, if_pos (by decide)]
    · rw [if_neg s, if_neg h10]
      by_cases y : Z ≤ Y
      · rw [if_pos y, if_pos y]
      · rw [if_neg y, if_neg y]
  · rw [if_neg k9, if_neg k9]
    by_cases s : H.2 16 tt.1.toNatClampNeg = -1
    · rw [if_pos s, if_pos rfl, if_pos s]
    · rw [if_neg s, if_neg h10, if_neg s]
      have n9 := mt iEq.mpr k9
      have e9' : (9 : Int32).toInt = 9 := by decide
      have eo9 : (Int32.ofNat 9).toInt = 9 := by decide
      rw [e9'] at n9
      have kk := iNat (x := k) (by omega)
      have mj : f_Y2_isMajority S1 (x + 37) k Y Z = (f_X11_carries H (H.2 12 k.toNatClampNeg) Y Z).1 := by
        unfold f_Y2_isMajority b_Y2_isMajority_24 b_Y2_isMajority_42 b_Y2_isMajority_68 b_Y2_isMajority_69 b_Y2_isMajority_85 f_X11_carries b_X11_carries_61 b_X11_carries_42 b_X11_carries_61
        rw [if_neg (fun y => by have := iLt.mp y; rw [i1] at this; omega), w1.2.1.2, Option.getD_some, w1.1.2.2.2, if_pos (iLt.mpr (by rw [eo9]; omega)), show giC S1 (x + 37 + 2) k.toNatClampNeg = H.2 12 k.toNatClampNeg from r12 _ (by omega), r0]
        repeat' split
        all_goals rfl
      rw [mj, carries_s]
      by_cases y : (f_X11_carries H (H.2 12 k.toNatClampNeg) Y Z).1 = 0
      · rw [if_pos y, if_pos y]
      · rw [if_neg y, if_neg y]
theorem c5 {y : Int32} (hy : 0 ≤ y.toInt ∧ y.toInt < 600) {j : Int32} (hj : 0 ≤ j.toInt ∧ j.toInt ≤ 4) : (5 * y).toNatClampNeg = 5 * y.toNatClampNeg ∧ ((5 * y) + j).toNatClampNeg = 5 * y.toNatClampNeg + j.toNatClampNeg := by
  have e5 : (5 : Int32).toInt = 5 := by decide
  have m := iMul (x := 5) (y := y) (n := 5 * y.toInt) (by rw [e5]) (by omega) (by omega)
  have a := iAdd (x := 5 * y) (y := j) (by rw [m]; omega) (by rw [m]; omega)
  rw [m] at a
  have k := iNat (x := (5 * y) + j) (by omega)
  have k0 := iNat (x := 5 * y) (by omega)
  have k1 := iNat hy.1
  have k2 := iNat hj.1
  exact ⟨by omega, by omega⟩
/-- behind the result, in the reference -/
theorem t184 (h8 : 0 ≤ (H.1 8).toInt ∧ (H.1 8).toInt < 600) (t k Y Z o : Int32) : b_X11_told_184 H t k Y Z o = (o, if o = 1 then (f_X11_carried (sI (kpH H k o Y Z) 5 (-1)) t k).2 else if o = 4 then (f_X11_goes (f_X11_goes (sI (kpH H k o Y Z) 5 (-1))).2).2 else (f_X11_goes (sI (kpH H k o Y Z) 5 (-1))).2) := by
  have e1 := (c5 h8 (j := 1) (by decide)).2
  have e2 := (c5 h8 (j := 2) (by decide)).2
  have e3 := (c5 h8 (j := 3) (by decide)).2
  have e4 := (c5 h8 (j := 4) (by decide)).2
  have e0 := (c5 h8 (j := 4) (by decide)).1
  have n1 : (1 : Int32).toNatClampNeg = 1 := by decide
  have n2 : (2 : Int32).toNatClampNeg = 2 := by decide
  have n3 : (3 : Int32).toNatClampNeg = 3 := by decide
  have n4 : (4 : Int32).toNatClampNeg = 4 := by decide
  rw [n1] at e1
  rw [n2] at e2
  rw [n3] at e3
  rw [n4] at e4
  unfold b_X11_told_184 b_X11_told_a272 b_X11_told_a279 b_X11_told_289 b_X11_told_a289
  rw [e0, e1, e2, e3, e4]
  by_cases z1 : o = 1
  · rw [if_pos z1, if_pos z1]
    rfl
  · rw [if_neg z1, if_neg z1]
    by_cases z4 : o = 4
    · rw [if_pos z4, if_pos z4]
      rfl
    · rw [if_neg z4, if_neg z4]
      rfl
theorem told_u (H : HS) (sec : (f_X11_hasSeconder H).1 = 0) (t k : Int32) (h0 : ¬ H.1 0 ≤ 0) : ∀ n, lp_X11_told_33 (n + 1) H t k 0 0 0 = b_X11_told_119 H t k 0 0 0 := by
  intro n
  rw [lp_X11_told_33]
  unfold st_X11_told_33 b_X11_told_a46
  rw [if_neg h0, seconder_s, if_pos sec]
theorem out_k {q : Nat} {Y Z k : Int32} (k2 : giC S1 q 2 = k) : (f_Y7_outcomeOf S1 (x + 37) (some q) Y Z = 1 → k ≠ 9) ∧ (f_Y7_outcomeOf S1 (x + 37) (some q) Y Z = 4 → k = 9) := by
  unfold f_Y7_outcomeOf b_Y7_outcomeOf_19 b_Y7_outcomeOf_48
  rw [Option.getD_some, k2]
  by_cases k9 : k = 9
  · rw [if_pos k9]
    refine ⟨fun e => ?_, fun _ => k9⟩
    exfalso
    by_cases y : Z ≤ Y
    · rw [if_pos y] at e
      exact absurd e (by decide)
    · rw [if_neg y] at e
      exact absurd e (by decide)
  · rw [if_neg k9]
    refine ⟨fun _ => k9, fun e => ?_⟩
    exfalso
    by_cases y : giC S1 q 4 = -1
    · rw [if_pos y] at e
      exact absurd e (by decide)
    · rw [if_neg y] at e
      by_cases w : f_Y2_isMajority S1 (x + 37) k Y Z = 0
      · rw [if_pos w] at e
        exact absurd e (by decide)
      · rw [if_neg w] at e
        exact absurd e (by decide)
/-- the votes, in both; the class's way to the keeping -/
theorem ann_v (a : AS x S T col S1 T1 c1) (r : RR wF N S1 T1 x H) (h : HA H) (h8 : (H.1 8).toInt < 600) (z : ¬ H.1 6 = 0) (qu : ¬ (H.1 1).toInt < (H.1 3).toInt) {q : Nat} (mu : mR S1 q H (f_X11_top H).1.toNatClampNeg) (kq : iK S1 q 3) : ∃ hd Y Z o, f_Y7_announce S1 x (some q) = b_Y7_announce_89a ((f_Y7_keep S1 x (H.2 14 (f_X11_top H).1.toNatClampNeg) o Y Z).2) x (some q) hd Y Z o ∧ f_X11_told H = (o, if o = 1 then (f_X11_carried (sI (kpH H (H.2 14 (f_X11_top H).1.toNatClampNeg) o Y Z) 5 (-1)) (f_X11_top H).1 (H.2 14 (f_X11_top H).1.toNatClampNeg)).2 else if o = 4 then (f_X11_goes (f_X11_goes (sI (kpH H (H.2 14 (f_X11_top H).1.toNatClampNeg) o Y Z) 5 (-1))).2).2 else (f_X11_goes (sI (kpH H (H.2 14 (f_X11_top H).1.toNatClampNeg) o Y Z) 5 (-1))).2) ∧ (o = 1 → H.2 14 (f_X11_top H).1.toNatClampNeg ≠ 9) ∧ (o = 4 → H.2 14 (f_X11_top H).1.toNatClampNeg = 9) := by
  have h0 := h.1.ra.1
  have ti := top_in h.1.ra (pend_pos h.1.ra z)
  have h8' : 0 ≤ (H.1 8).toInt ∧ (H.1 8).toInt < 600 := ⟨h.2.2.1, h8⟩
  have k2 := mu.1.1
  have k4 := mu.1.2.2.1
  have r0 := r.1.1.1
  have hs0 : ¬ H.1 0 ≤ 0 := fun y => by
    have := iLe.mp y
    rw [i0] at this
    omega
  have e1 : f_X11_told H = lp_X11_told_33 100000 H (f_X11_top H).1 (H.2 14 (f_X11_top H).1.toNatClampNeg) 0 0 0 := by
    unfold f_X11_told b_X11_told_a17
    rw [if_pos (iLe.mpr (by omega)), top_s]
  have q1 : f_Y2_hasQuorum S1 (x + 37) = 1 := by
    unfold f_Y2_hasQuorum b_Y2_hasQuorum_16
    rw [r.1.1.2.1, r.1.1.2.2.2.1, if_neg (fun y => qu (iLt.mp y))]
  have e2 : ∀ hd Y Z, b_Y7_announce_61 S1 x (some q) hd Y Z = b_Y7_announce_89a ((f_Y7_keep S1 x (H.2 14 (f_X11_top H).1.toNatClampNeg) (f_Y7_outcomeOf S1 (x + 37) (some q) Y Z) Y Z).2) x (some q) hd Y Z (f_Y7_outcomeOf S1 (x + 37) (some q) Y Z) := fun hd Y Z => by
    unfold b_Y7_announce_61
    rw [Option.getD_some, k2, a.g0, Option.getD_some]
  have e3 : f_Y7_announce S1 x (some q) = if H.2 16 (f_X11_top H).1.toNatClampNeg = -1 then b_Y7_announce_61 S1 x (some q) 0 0 0 else b_Y7_announce_61 S1 x (some q) 1 (f_Y2_tally S1 (x + 37) (some q) 1) (f_Y2_tally S1 (x + 37) (some q) 0) := by
    unfold f_Y7_announce b_Y7_announce_25 b_Y7_announce_43
    rw [a.g0, Option.getD_some, q1, if_neg h10, Option.getD_some, k4]
    by_cases s : H.2 16 (f_X11_top H).1.toNatClampNeg = -1
    · rw [if_pos s, if_pos s, if_pos rfl, if_pos rfl]
    · rw [if_neg s, if_neg s, if_neg h10, if_neg h10]
  have fin : ∀ hd Y Z b, f_Y7_announce S1 x (some q) = b_Y7_announce_61 S1 x (some q) hd Y Z → f_X11_told H = b_X11_told_119 H (f_X11_top H).1 (H.2 14 (f_X11_top H).1.toNatClampNeg) Y Z b → (H.2 16 (f_X11_top H).1.toNatClampNeg = -1 → Y = 0 ∧ Z = 0) → ∃ hd Y Z o, f_Y7_announce S1 x (some q) = b_Y7_announce_89a ((f_Y7_keep S1 x (H.2 14 (f_X11_top H).1.toNatClampNeg) o Y Z).2) x (some q) hd Y Z o ∧ f_X11_told H = (o, if o = 1 then (f_X11_carried (sI (kpH H (H.2 14 (f_X11_top H).1.toNatClampNeg) o Y Z) 5 (-1)) (f_X11_top H).1 (H.2 14 (f_X11_top H).1.toNatClampNeg)).2 else if o = 4 then (f_X11_goes (f_X11_goes (sI (kpH H (H.2 14 (f_X11_top H).1.toNatClampNeg) o Y Z) 5 (-1))).2).2 else (f_X11_goes (sI (kpH H (H.2 14 (f_X11_top H).1.toNatClampNeg) o Y Z) 5 (-1))).2) ∧ (o = 1 → H.2 14 (f_X11_top H).1.toNatClampNeg ≠ 9) ∧ (o = 4 → H.2 14 (f_X11_top H).1.toNatClampNeg = 9) := fun hd Y Z b ea et hu => by
    have ok := out_k (S1 := S1) (x := x) (Y := Y) (Z := Z) k2
    rw [out_v a r h z mu hu, t184 h8'] at et
    exact ⟨hd, Y, Z, f_Y7_outcomeOf S1 (x + 37) (some q) Y Z, by rw [ea, e2], et, ok.1, ok.2⟩
  have sv := sec_v H
  by_cases s : H.2 16 (f_X11_top H).1.toNatClampNeg = -1
  · rw [if_pos s] at e3 sv
    exact fin 0 0 0 0 e3 (e1.trans (told_u H sv _ _ hs0 99999)) (fun _ => ⟨rfl, rfl⟩)
  · rw [if_neg s] at e3 sv
    obtain ⟨Y, Z, b', e, eY, eZ⟩ := cnt_l r.1 mu ti h0 (by rw [sv]; exact h10) (seconder_s H) (H.2 14 (f_X11_top H).1.toNatClampNeg) 100000 0 0 0 (by rw [i0]; omega) (by rw [i0]; omega) (by rw [i0]; omega) (by rw [i0, zn0]; rfl) (by rw [i0, zn0]; rfl)
    have t1 := tal_v a.ci.wf a.k1 kq hw1 (by rw [r0]; exact h0)
    have t0 := tal_v a.ci.wf a.k1 kq hw0 (by rw [r0]; exact h0)
    rw [r0] at t1 t0
    have y1 : f_Y2_tally S1 (x + 37) (some q) 1 = Y := iEq.mpr (t1.trans eY.symm)
    have y0 : f_Y2_tally S1 (x + 37) (some q) 0 = Z := iEq.mpr (t0.trans eZ.symm)
    rw [y1, y0] at e3
    exact fin 1 Y Z b' e3 (e1.trans e) (fun y => absurd y s)
end
end
section
/-! ===== the deeds: what is carried alone: a MAIN, a CLOSE, a RECESS ===== -/
section
variable {wF : Prop × (Nat → Int32) × Int32 × (Nat → Int32)} {E : Nat → Prop} {x : Nat} {S S1 S2 S3 : Cst} {T T1 T2 T3 : Nat → List Nat} {F F1 : List Nat} {col c1 c2 c3 : Nat → Nat} {H H2 H3 G : HS} {N N2 M M2 : Int} {D : Nat → Prop} {v : Int32}
/-- neither motions nor places nor ledgers written -/
theorem RR.fr (r : RR wF N S1 T1 x H) (ci : CI noE S1 T1 [] c1) (kx : iK S1 x 0) (g : gX D S1 S2) (n1 : S2.1 = S1.1) (s : sH H2 H) (hm : ∀ q, iK S1 q 3 → ∀ j, j < 4 → ¬ D (q + j)) (h5 : ∀ d, pl x d → ¬ D d) (nl : ∀ l, l = x + 7 ∨ l = x + 9 → ¬ D l ∧ ¬ D ((grC S1 l 2).getD 0)) (nx : giC S2 x 8 = giC S1 x 8) (hh : hR S2 x H2) (aa : aR wF S2 x H2) (e7 : H2.1 7 = H.1 7 ∧ H2.1 8 = H.1 8 ∧ H2.2 40 = H.2 40 ∧ H2.2 41 = H.2 41) : RR wF N S2 T1 x H2 := by
  have hQ : mQ T1 x S1 S2 := fun _ _ q m => g.mo4 ci.wf (ci.tk _ q m).1 (hm q (ci.tk _ q m).1)
  have st : ∀ d, pl x d → giC S2 d 0 = giC S1 d 0 := fun d o => srt g ci kx o (h5 d o)
  refine ⟨hh, r.2.1.cg s (fun _ _ => rfl) hQ, r.2.2.1.cg r.2.1 s (fun _ _ => rfl) hQ (st _ (Or.inl rfl)) (fun p hp => st _ (Or.inr ⟨p, hp, rfl⟩)), r.2.2.2.1.gx g ci kx nl e7.1 e7.2.1 e7.2.2.1 e7.2.2.2, ⟨aa, r.2.2.2.2.1.2.1.gx g ci.wf hm (fun q k => ik_b k g.1 n1), by rw [s.1.1]; exact r.2.2.2.2.1.2.2.1, by rw [e7.2.2.1]; exact r.2.2.2.2.1.2.2.2⟩, r.2.2.2.2.2.cg r.2.1 s (fun _ _ => rfl) hQ nx⟩
theorem main_w (x1 x2 : Int32) (h1' : 0 ≤ x1.toInt ∧ x1.toInt < 90) : ∀ (n : Nat) (S : HS) (x : Int32), (S.2 19 x1.toNatClampNeg).toInt ≤ 400 → 0 ≤ x.toInt → x.toInt ≤ 400 → 400 - x.toInt < n → ∃ u, (lp_X11_carried_70 n S x1 x2 x).2 = (f_X11_goes (sR S 38 u)).2 ∧ (∀ i : Nat, x.toInt ≤ i → (i : Int) < (S.2 19 x1.toNatClampNeg).toInt → u i = S.2 28 (400 * x1.toNatClampNeg + i)) ∧ ∀ i : Nat, (i : Int) < x.toInt → u i = S.2 38 i := by
  intro n
  induction n with
  | zero => intro S x h4 h1 h2 h3; omega
  | succ n ih =>
    intro S x h4 h1 h2 h3
    rw [lp_X11_carried_70]
    unfold st_X11_carried_70
    by_cases c : S.2 19 x1.toNatClampNeg ≤ x
    · rw [if_pos c]
      have c := iLe.mp c
      refine ⟨S.2 38, ?_, fun i a b => by omega, fun _ _ => rfl⟩
      rw [sR_id]
      rfl
    · rw [if_neg c]
      have c := mt iLe.mpr c
      have e := iAdd (x := x) (y := 1) (by rw [i1]; omega) (by rw [i1]; omega)
      rw [i1] at e
      have k := iNat h1
      have tx := tx_x h1' (s := x) ⟨h1, by omega⟩
      obtain ⟨u, q, q2, q3⟩ := ih (sA S 38 x.toNatClampNeg (S.2 28 ((400 * x1) + x).toNatClampNeg)) (x + 1) h4 (by omega) (by omega) (by omega)
      rw [sR_sA] at q
      have q3 : ∀ i : Nat, (i : Int) < (x + 1).toInt → u i = upd (S.2 38) x.toNatClampNeg (S.2 28 ((400 * x1) + x).toNatClampNeg) i := q3
      refine ⟨u, q, fun i a b => ?_, fun i a => ?_⟩
      · by_cases y : i = x.toNatClampNeg
        · rw [q3 i (by omega), y, upd_eq, tx]
        · exact q2 i (by omega) b
      · rw [q3 i (by omega)]
        exact upd_ne (by omega)
/-- a text is adopted, in both -/
theorem adopt_v (a : AS x S T col S1 T1 c1) (r : RR wF N S1 T1 x H) {q m : Nat} (mu : mR S1 q H m) (kq : iK S1 q 3) (w0 : 0 ≤ (H.2 19 m).toInt) {u : Nat → Int32} (hu : ∀ i : Nat, (i : Int) < (H.2 19 m).toInt → u i = H.2 28 (400 * m + i)) (h98 : (H.1 9).toInt + 1 ≤ (H.1 8).toInt ∧ (H.1 8).toInt ≤ 1000) (e : H2 = sR (sI (sI H 9 (H.1 9 + 1)) 39 (H.2 19 m)) 38 u) : ∃ S2, f_Y9_become S1 (x + 11) (q + 1) = (0, S2) ∧ AS x S T col (siC S2 x 7 (giC S2 x 7 + 1)) T1 c1 ∧ RR wF N (siC S2 x 7 (giC S2 x 7 + 1)) T1 x H2 := by
  have h := a.1
  have w0' := a.w0
  have wq := h.ci.wf.w3 kq
  have k11 : iK S1 (x + 11) 6 := w0'.1.2.2.2.2.2.2
  have k12 : iK S1 (x + 12) 20 := (a.ci.wf.w6 k11).1.1
  obtain ⟨-, S2, f, g, g2, g3, g4, g5⟩ := y_tBecome h k11 (h.cx 11 (by omega)) (h.cx 12 (by omega)) wq.1.1
  have n12 : S2.1 = S1.1 := g3.1.1.symm
  have u2 : QU noE x S T [] col T1 [] c1 S1 S2 := ⟨g, g2.p (fun z _ y e => by
      rcases y with y | y <;> rw [y] at e
      · exact absurd (k11.2.symm.trans e) (by decide)
      · exact absurd (k12.2.symm.trans e) (by decide)) (fun z _ y e => by
      rcases y with y | y <;> rw [y] at e
      · exact absurd (k11.2.symm.trans e) (by decide)
      · exact absurd (k12.2.symm.trans e) (by decide)), g3⟩
  have U := u2.aI 7 (giC S2 x 7 + 1)
  have G : gX (fun z => (z = x + 11 ∨ z = x + 12) ∨ z = x) S1 (siC S2 x 7 (giC S2 x 7 + 1)) := (g2.mo (fun z y => Or.inl y)).tr ((gX.si S2 x 7 _).mo (fun z y => Or.inr y))
  have gx : ∀ k, k ≠ 7 → giC (siC S2 x 7 (giC S2 x 7 + 1)) x k = giC S1 x k := fun k n => by
    rw [gi_si, if_neg (fun y => n y.2)]
    exact g2.2.1 x a.k1.1 (by rw [a.k1.2]; decide) (by omega) k
  have g7 : giC S2 x 7 = H.1 9 := (g2.2.1 x a.k1.1 (by rw [a.k1.2]; decide) (by omega) 7).trans r.2.2.2.2.1.1.1.1
  have p9 := r.2.2.2.2.1.1.2.1
  have e9 := iAdd (x := H.1 9) (y := 1) (by rw [i1]; omega) (by rw [i1]; omega)
  rw [i1] at e9
  have q1 : ∀ j, j ≠ 9 → j ≠ 39 → H2.1 j = H.1 j := fun j y y2 => by
    rw [e]
    show (if j = 39 then _ else if j = 9 then _ else H.1 j) = H.1 j
    rw [if_neg y2, if_neg y]
  have q9 : H2.1 9 = H.1 9 + 1 := by rw [e]; rfl
  have q39 : H2.1 39 = H.2 19 m := by rw [e]; rfl
  have q2 : ∀ k, k ≠ 38 → H2.2 k = H.2 k := fun k y => by rw [e]; exact if_neg y
  have q38 : H2.2 38 = u := by rw [e]; rfl
  refine ⟨S2, f, ⟨U.1, a.2.kp a.ci a.k1 U.2.1 (fun _ _ _ => rfl)⟩, r.fr a.ci a.k1 G n12 ⟨⟨q1 0 (by decide) (by decide), q1 6 (by decide) (by decide), q1 35 (by decide) (by decide), q1 36 (by decide) (by decide), q1 30 (by decide) (by decide)⟩, fun k h1 h2 => q2 k (by omega)⟩ (fun q' k j hj y => ?_) (fun d o y => ?_) (fun l hl => ⟨fun y => ?_, fun y => ?_⟩) (gx 8 (by decide)) (r.1.gx G a.ci a.k1 (fun y => by omega) (fun y => by omega) (fun y => by omega) (fun k hk => q1 k (by omega) (by omega)) ⟨q2 11 (by decide), q2 12 (by decide)⟩) ⟨⟨?_, ?_⟩, ?_, ?_, ?_, fun i hi => ?_⟩ ⟨q1 7 (by decide) (by decide), q1 8 (by decide) (by decide), q2 40 (by decide), q2 41 (by decide)⟩⟩
  · obtain ⟨m0, m3, m7, m9, m11, m12, mp⟩ := mo_x a.ci a.k1 k hj
    rcases y with (y | y) | y
    · exact m11 y
    · exact m12 y
    · exact m0 y
  · have k5 := pl.lt a.ci a.k1 o
    rcases y with (y | y) | y
    · exact ik_ne k5 k11 (by decide) y
    · exact ik_ne k5 k12 (by decide) y
    · exact ik_ne k5 a.k1 (by decide) y
  · rcases hl with rfl | rfl <;> omega
  · have z := (zl_k a.ci a.k1 hl).2
    rcases y with (y | y) | y
    · exact ik_ne z k11 (by decide) y
    · rcases hl with rfl | rfl
      · exact r.2.2.2.1.2.2.2.1 _ k11 y
      · exact r.2.2.2.1.2.2.2.2.1 _ k11 y
    · exact ik_ne z a.k1 (by decide) y
  · rw [gi_si, if_pos ⟨rfl, rfl⟩, g7, q9]
  · rw [gx 9 (by decide), q1 10 (by decide) (by decide)]
    exact r.2.2.2.2.1.1.1.2
  · rw [q9, e9, q1 8 (by decide) (by decide)]
    omega
  · intro y
    rw [q9] at y
    have := congrArg Int32.toInt y
    rw [e9, i0] at this
    omega
  · intro _
    rw [q39, gi_si, if_neg (fun y => by omega), g4]
    exact mu.2.2.2.1.1
  · rw [q39] at hi
    rw [q38, gi_si, if_neg (fun y => by omega), hu i hi]
    have s := mu.2.2.2.1
    have y := g5 i (by rw [s.1]; exact hi)
    exact y.trans (s.2 i hi)
theorem mR.f7 {q m : Nat} (h : mR S1 q H m) (v : Int32) : mR (siC S1 q 7 v) q (sA H 24 m v) m := by
  obtain ⟨⟨a1, a2, a3, a4, a5⟩, ⟨b1, b2⟩, c, ⟨d1, d2⟩, e, ⟨f1, f2⟩, g⟩ := h
  have n : ∀ i, i ≠ 7 → giC (siC S1 q 7 v) q i = giC S1 q i := fun i hi => by rw [gi_si, if_neg (fun z => hi z.2)]
  have o : ∀ j k, 0 < j → giC (siC S1 q 7 v) (q + j) k = giC S1 (q + j) k := fun j k hj => by rw [gi_si, if_neg (fun z => by omega)]
  refine ⟨⟨(n 2 (by decide)).trans a1, (n 3 (by decide)).trans a2, (n 4 (by decide)).trans a3, (n 5 (by decide)).trans a4, (n 6 (by decide)).trans a5⟩, ⟨by rw [gi_si, if_pos ⟨rfl, rfl⟩]; exact (if_pos rfl).symm, (n 11 (by decide)).trans b2⟩, fun z => ⟨(n 8 (by decide)).trans (c z).1, (n 9 (by decide)).trans (c z).2⟩, ⟨(o 1 1 (by omega)).trans d1, fun i hi => (o 2 i (by omega)).trans (d2 i hi)⟩, fun s hs => ?_, ⟨fun s h1 h2 => (o 3 s (by omega)).trans (f1 s h1 h2), ?_⟩, g⟩
  · rw [o 3 s (by omega)]
    exact e s hs
  · rw [n 14 (by decide), vCn_cg (S1 := S1) (fun k => o 3 k (by omega))]
    exact f2
/-- the one below the top -/
theorem below_v (a : AS x S T col S1 T1 c1) (w : wR S1 T1 x H) (h : HI M H) (z : 2 ≤ (H.1 6).toInt) : ∃ mq, f_Y5_at S1 (x + 1) (giC S1 (x + 1) 1 - 2) = some mq ∧ mR S1 mq H (hM H 0 ((H.1 6).toNatClampNeg - 2)) ∧ mq ∈ T1 (x + 1) ∧ (T1 (rP x 0)).getD ((H.1 6).toNatClampNeg - 2) 0 = mq ∧ hL H 0 ((H.1 6).toNatClampNeg - 2) := by
  have e2 : (2 : Int32).toInt = 2 := by decide
  have b := h.ra.2.1
  have k := iNat (x := H.1 6) (by omega)
  have e := iSub (x := H.1 6) (y := 2) (by rw [e2]; omega) (by rw [e2]; omega)
  rw [e2] at e
  have k2 := iNat (x := H.1 6 - 2) (by omega)
  rw [rr_z a w]
  obtain ⟨mq, e1, e3, e4, e5⟩ := (rr_at a w h.ra (H.1 6 - 2)).2 (by omega) (by omega)
  have en : (H.1 6 - 2).toNatClampNeg = (H.1 6).toNatClampNeg - 2 := by omega
  rw [en] at e3 e5
  exact ⟨mq, e1, e3, e4, e5.symm, by omega, by show _ < (H.1 6).toInt; omega⟩
/-- one motion is closed -/
theorem close_v (a : AS x S T col S1 T1 c1) (r : RR wF N S1 T1 x H) (h : HI M H) {g i mq m : Nat} (l : hL H g i) (eq : (T1 (rP x g)).getD i 0 = mq) (em : hM H g i = m) (mu : mR S1 mq H m) (mm : mq ∈ T1 (rP x g)) : AS x S T col (siC S1 mq 7 1) T1 c1 ∧ RR wF N (siC S1 mq 7 1) T1 x (sA H 24 m 1) := by
  have kq := a.m3 mm
  have cq : c1 mq = x := by rw [(a.ci.tk _ mq mm).2]; exact a.1.oc (rP_own l.1).1
  have U := (QU.rf a.1).mI kq cq 7 1 (by decide) (fun _ => bz1)
  have mc := (mC'.rf mq S1).si 7 1 (j := 0) (by omega) rfl
  exact ⟨⟨U.1, a.2.kp a.ci a.k1 U.2.1 (fun _ _ _ => rfl)⟩, r.mo a.ci a.k1 h l eq em mc.1 ⟨gi_o (by decide), gi_o (by decide), gi_o (by decide)⟩ mc.2.1 mc.2.2.1 mc.2.2.2 (qM.A H m 1 (by decide) (by decide) (by decide) (by decide)) (mu.f7 1) ⟨rfl, rfl, rfl, rfl, rfl⟩ ⟨rfl, rfl, rfl, rfl, rfl⟩ ⟨rfl, rfl, rfl, rfl, rfl⟩⟩
/-- nobody is there, in both -/
theorem empty_l {y : Nat} : ∀ (n : Nat) (S1 : Cst) (b : Int32), grC S1 y 1 = some (y + 1) → lnC S1 (y + 1) = 200 → 0 ≤ b.toInt → b.toInt ≤ 200 → 200 - b.toInt < n → ∃ S2, lp_Y2_empty_2 y n S1 b = (0, siC (siC S2 y 2 0) y 6 (-1)) ∧ (∀ s, b.toNatClampNeg ≤ s → s < 200 → giC S2 (y + 1) s = 0) ∧ (∀ s, s < b.toNatClampNeg → giC S2 (y + 1) s = giC S1 (y + 1) s) ∧ (∀ q k, q ≠ y + 1 → giC S2 q k = giC S1 q k) ∧ (∀ q k, grC S2 q k = grC S1 q k) ∧ (∀ q, lnC S2 q = lnC S1 q) ∧ ∀ q c, iK S2 q c → iK S1 q c := by
  have e200 : (Int32.ofNat 200).toInt = 200 := by decide
  intro n
  induction n with
  | zero => intro S1 b g l h1 h2 h3; omega
  | succ n ih =>
    intro S1 b g l h1 h2 h3
    rw [lp_Y2_empty_2]
    unfold st_Y2_empty_2
    rw [g, Option.getD_some, l]
    have k := iNat h1
    by_cases c : Int32.ofNat 200 ≤ b
    · have := iLe.mp c
      rw [e200] at this
      rw [if_pos c]
      exact ⟨S1, rfl, fun s a b => by omega, fun _ _ => rfl, fun _ _ _ => rfl, fun _ _ => rfl, fun _ => rfl, fun _ _ h => h⟩
    · have c' := mt iLe.mpr c
      rw [e200] at c'
      have e := iAdd (x := b) (y := 1) (by rw [i1]; omega) (by rw [i1]; omega)
      rw [i1] at e
      have k2 := iNat (x := b + 1) (by omega)
      rw [if_neg c]
      obtain ⟨S2, f, p1, p2, p3, p4, p5, p6⟩ := ih (siC S1 (y + 1) b.toNatClampNeg (vp_nar .boolean 0)) (b + 1) (by rw [gr_si]; exact g) (by rw [ln_si]; exact l) (by omega) (by omega) (by omega)
      refine ⟨S2, f, fun s a d => ?_, fun s a => ?_, fun q j n => ?_, fun q j => ?_, fun q => ?_, fun q c k => ik_si.mp (p6 q c k)⟩
      · by_cases w : s = b.toNatClampNeg
        · rw [p2 s (by omega), gi_si, if_pos ⟨rfl, w⟩]
          rfl
        · exact p1 s (by omega) d
      · rw [p2 s (by omega), gi_si, if_neg (fun w => by omega)]
      · rw [p3 q j n, gi_si, if_neg (fun w => n w.1)]
      · rw [p4, gr_si]
      · rw [p5, ln_si]
theorem recess_v (a : AS x S T col S1 T1 c1) (r : RR wF N S1 T1 x H) {u : Nat → Int32} (hu : ∀ s : Nat, (s : Int) < (H.1 0).toInt → u s = 0) : ∃ S2, f_Y2_empty S1 (x + 37) = (0, S2) ∧ AS x S T col S2 T1 c1 ∧ RR wF N S2 T1 x (sI (sI (sR H 11 u) 1 0) 5 (-1)) := by
  have w1 := a.w1
  obtain ⟨-, v, S2, f2, U⟩ := y_hempty a.1
  obtain ⟨S3, f, p1, p2, p3, p4, p5, p6⟩ := empty_l (y := x + 37) 100000 S1 0 w1.2.1.1 w1.1.2.1 (by rw [i0]; omega) (by rw [i0]; omega) (by rw [i0]; omega)
  rw [zn0] at p1
  have f : f_Y2_empty S1 (x + 37) = (0, siC (siC S3 (x + 37) 2 0) (x + 37) 6 (-1)) := f
  obtain ⟨-, rfl⟩ := Prod.mk.inj (f2.symm.trans f)
  obtain ⟨⟨q0, q1, q2, q3, q4, q5⟩, q6, q7, q8⟩ := r.1
  have e : ∀ k, giC S3 (x + 37) k = giC S1 (x + 37) k := fun k => p3 _ k (by omega)
  refine ⟨_, f, ⟨U.1, a.2.kp a.ci a.k1 U.2.1 (fun _ _ _ => rfl)⟩, r.hc a.ci a.k1 ⟨fun q k h1 h2 h3 => ?_, fun q k => ?_, fun q => ?_, fun q c k => ?_⟩ ⟨⟨rfl, rfl, rfl, rfl, rfl⟩, fun k h1 h2 => if_neg (by omega)⟩ ⟨rfl, rfl, rfl, rfl, rfl⟩ ⟨rfl, rfl, rfl⟩ ⟨⟨?_, ?_, ?_, ?_, ?_, ?_⟩, fun s h1 h2 => ?_, fun k hk => ?_, q8.1, fun s hs => Or.inl (hu s hs)⟩⟩
  · rw [gi_si, if_neg (fun y => h1 y.1), gi_si, if_neg (fun y => h1 y.1)]
    exact p3 q k (by omega)
  · rw [gr_si, gr_si]
    exact p4 q k
  · rw [ln_si, ln_si]
    exact p5 q
  · exact p6 q c (ik_si.mp (ik_si.mp k))
  · rw [gi_si, if_neg (fun y => absurd y.2 (by decide)), gi_si, if_neg (fun y => absurd y.2 (by decide)), e]
    exact q0
  · rw [gi_si, if_neg (fun y => absurd y.2 (by decide)), gi_si, if_pos ⟨rfl, rfl⟩]
    rfl
  · rw [gi_si, if_neg (fun y => absurd y.2 (by decide)), gi_si, if_neg (fun y => absurd y.2 (by decide)), e]
    exact q2
  · rw [gi_si, if_neg (fun y => absurd y.2 (by decide)), gi_si, if_neg (fun y => absurd y.2 (by decide)), e]
    exact q3
  · rw [gi_si, if_neg (fun y => absurd y.2 (by decide)), gi_si, if_neg (fun y => absurd y.2 (by decide)), e]
    exact q4
  · rw [gi_si, if_pos ⟨rfl, rfl⟩]
    rfl
  · have h2 : (s : Int) < (H.1 0).toInt := h2
    rw [gi_si, if_neg (fun y => by omega), gi_si, if_neg (fun y => by omega)]
    exact (p1 s (Nat.zero_le _) h1).trans (hu s h2).symm
  · rw [gi_si, if_neg (fun y => by omega), gi_si, if_neg (fun y => by omega), p3 _ _ (by omega)]
    exact q7 k hk
theorem adj_w (x1 x2 : Int32) : ∀ (n : Nat) (S : HS) (x : Int32), 0 ≤ x.toInt → x.toInt ≤ 200 → (S.1 0).toInt ≤ 200 → 200 - x.toInt < n → ∃ u, (lp_X11_carried_157 n S x1 x2 x).2 = sI (sR S 11 u) 1 0 ∧ (∀ s : Nat, x.toInt ≤ s → (s : Int) < (S.1 0).toInt → u s = 0) ∧ ∀ s : Nat, (s : Int) < x.toInt → u s = S.2 11 s := by
  intro n
  induction n with
  | zero => intro S x h1 h2 h4 h3; omega
  | succ n ih =>
    intro S x h1 h2 h4 h3
    rw [lp_X11_carried_157]
    unfold st_X11_carried_157
    by_cases c : S.1 0 ≤ x
    · rw [if_pos c]
      have c := iLe.mp c
      refine ⟨S.2 11, ?_, fun s a b => by omega, fun _ _ => rfl⟩
      rw [sR_id]
      rfl
    · rw [if_neg c]
      have c := mt iLe.mpr c
      have e := iAdd (x := x) (y := 1) (by rw [i1]; omega) (by rw [i1]; omega)
      rw [i1] at e
      have k := iNat h1
      obtain ⟨u, q, q2, q3⟩ := ih (sA S 11 x.toNatClampNeg 0) (x + 1) (by omega) (by omega) h4 (by omega)
      rw [sR_sA] at q
      have q3 : ∀ s : Nat, (s : Int) < (x + 1).toInt → u s = upd (S.2 11) x.toNatClampNeg 0 s := q3
      refine ⟨u, q, fun s a b => ?_, fun s a => ?_⟩
      · by_cases y : s = x.toNatClampNeg
        · rw [q3 s (by omega), y, upd_eq]
        · exact q2 s (by omega) b
      · rw [q3 s (by omega)]
        exact upd_ne (by omega)
end
end
section
/-! ===== words in place of a span: the reference, in full ===== -/
section
variable {wF : Prop × (Nat → Int32) × Int32 × (Nat → Int32)} {S : HS}
theorem isP_l {S : HS} (h6 : (S.1 6).toInt ≤ 9) (x1 : Int32) : ∀ (n : Nat) (x : Int32), 0 ≤ x.toInt → x.toInt ≤ 9 → (S.1 6).toInt - x.toInt < n → (∀ i : Nat, x.toInt ≤ i → (i : Int) < (S.1 6).toInt → S.2 31 i ≠ x1) → (lp_X11_isPending_2 (n + 1) S x1 x).1 = 0 := by
  intro n
  induction n with
  | zero =>
    intro x h1 h9 h2 h3
    rw [lp_X11_isPending_2]
    unfold st_X11_isPending_2
    rw [if_pos (iLe.mpr (by omega))]
  | succ n ih =>
    intro x h1 h9 h2 h3
    rw [lp_X11_isPending_2]
    unfold st_X11_isPending_2
    by_cases c : S.1 6 ≤ x
    · rw [if_pos c]
    · rw [if_neg c]
      have c := mt iLe.mpr c
      have e := iAdd (x := x) (y := 1) (by rw [i1]; omega) (by rw [i1]; omega)
      rw [i1] at e
      have k := iNat h1
      rw [if_neg (h3 x.toNatClampNeg (by omega) (by omega))]
      exact ih (x + 1) (by omega) (by omega) (by omega) (fun i a b => h3 i (by omega) b)
theorem isP_iff {S : HS} (h : RA S) (x1 : Int32) : (f_X11_isPending S x1).1 = 0 ↔ ∀ i : Nat, (i : Int) < (S.1 6).toInt → S.2 31 i ≠ x1 :=
  ⟨(isPending_i h x1).2, fun y => isP_l h.2.1.2 x1 99999 0 (by rw [i0]; omega) (by rw [i0]; omega) (by rw [i0]; have := h.2.1; omega) (fun i _ b => y i b)⟩
/-- whether a motion follows -/
def fC (S : HS) (x1 x2 a x9 : Int32) : Prop := S.2 13 x9.toNatClampNeg ≠ 0 ∧ x9 ≠ x2 ∧ S.2 25 x9.toNatClampNeg ≠ 0 ∧ S.2 26 x9.toNatClampNeg = 0 ∧ S.2 23 x9.toNatClampNeg = S.2 22 x1.toNatClampNeg ∧ (∀ i : Nat, (i : Int) < (S.1 6).toInt → S.2 31 i ≠ x9) ∧ a < S.2 21 x9.toNatClampNeg
def cR (S r : HS) (x1 x2 a b x6 x9 : Int32) : Prop :=
  (fC S x1 x2 a x9 → S.2 20 x9.toNatClampNeg < b → r.2 20 x9.toNatClampNeg = S.2 20 x9.toNatClampNeg ∧ r.2 21 x9.toNatClampNeg = S.2 21 x9.toNatClampNeg ∧ r.2 26 x9.toNatClampNeg = 1) ∧
  (fC S x1 x2 a x9 → ¬ S.2 20 x9.toNatClampNeg < b → r.2 20 x9.toNatClampNeg = S.2 20 x9.toNatClampNeg + x6 ∧ r.2 21 x9.toNatClampNeg = S.2 21 x9.toNatClampNeg + x6 ∧ r.2 26 x9.toNatClampNeg = S.2 26 x9.toNatClampNeg) ∧
  (¬ fC S x1 x2 a x9 → r.2 20 x9.toNatClampNeg = S.2 20 x9.toNatClampNeg ∧ r.2 21 x9.toNatClampNeg = S.2 21 x9.toNatClampNeg ∧ r.2 26 x9.toNatClampNeg = S.2 26 x9.toNatClampNeg)
/-- the loop has gone from x on -/
def cV (S r : HS) (x1 x2 a b x6 x : Int32) : Prop := r.1 = S.1 ∧ (∀ k, k ≠ 20 → k ≠ 21 → k ≠ 26 → r.2 k = S.2 k) ∧ (∀ j : Nat, (j : Int) < x.toInt → r.2 20 j = S.2 20 j ∧ r.2 21 j = S.2 21 j ∧ r.2 26 j = S.2 26 j) ∧ ∀ y : Int32, x.toInt ≤ y.toInt → y.toInt < 90 → cR S r x1 x2 a b x6 y
theorem cV.step {S S1 r : HS} {x1 x2 a b x6 x : Int32} (hx : 0 ≤ x.toInt ∧ x.toInt < 90) (h : cV S1 r x1 x2 a b x6 (x + 1)) (e : (x + 1).toInt = x.toInt + 1) (s1 : S1.1 = S.1) (s2 : ∀ k, k ≠ 20 → k ≠ 21 → k ≠ 26 → S1.2 k = S.2 k) (s3 : ∀ j, j ≠ x.toNatClampNeg → S1.2 20 j = S.2 20 j ∧ S1.2 21 j = S.2 21 j ∧ S1.2 26 j = S.2 26 j) (c : cR S S1 x1 x2 a b x6 x) : cV S r x1 x2 a b x6 x := by
  obtain ⟨p1, p2, p3, p4⟩ := h
  have kx := iNat hx.1
  have rx := p3 x.toNatClampNeg (by omega)
  refine ⟨p1.trans s1, fun k a b c => (p2 k a b c).trans (s2 k a b c), fun j hj => ?_, fun y h1 h2 => ?_⟩
  · have y := p3 j (by omega)
    have z := s3 j (by omega)
    exact ⟨y.1.trans z.1, y.2.1.trans z.2.1, y.2.2.trans z.2.2⟩
  · by_cases w : y = x
    · subst w
      obtain ⟨c1, c2, c3⟩ := c
      unfold cR
      rw [rx.1, rx.2.1, rx.2.2]
      exact ⟨c1, c2, c3⟩
    · have ky := iNat (x := y) (by omega)
      have nw := mt iEq.mpr w
      have z := s3 y.toNatClampNeg (by omega)
      have q := p4 y (by omega) h2
      unfold cR fC at q ⊢
      rw [s1, s2 13 (by decide) (by decide) (by decide), s2 25 (by decide) (by decide) (by decide), s2 23 (by decide) (by decide) (by decide), s2 22 (by decide) (by decide) (by decide), s2 31 (by decide) (by decide) (by decide), z.1, z.2.1, z.2.2] at q
      exact q
theorem chg_v {x1 x2 x3 x4 x5 x6 x7 x8 : Int32} : ∀ (n : Nat) (S : HS) (x : Int32), RA S → 0 ≤ x.toInt → x.toInt ≤ 90 → 90 - x.toInt < n → cV S (lp_X11_change_194 n S x1 x2 x3 x4 x5 x6 x7 x8 x).2 x1 x2 x3 x4 x6 x := by
  have e90 : (90 : Int32).toInt = 90 := by decide
  intro n
  induction n with
  | zero => intro S x h a b c; omega
  | succ n ih =>
    intro S x h a b c
    rw [lp_X11_change_194]
    unfold st_X11_change_194 b_X11_change_a259 b_X11_change_326
    by_cases z : 90 ≤ x
    · have z' := iLe.mp z
      rw [e90] at z'
      rw [if_pos z]
      exact ⟨rfl, fun _ _ _ _ => rfl, fun _ _ => ⟨rfl, rfl, rfl⟩, fun y h1 h2 => by omega⟩
    have z' := mt iLe.mpr z
    rw [e90] at z'
    have e := iAdd (x := x) (y := 1) (by rw [i1]; omega) (by rw [i1]; omega)
    rw [i1] at e
    have hx : 0 ≤ x.toInt ∧ x.toInt < 90 := ⟨a, by omega⟩
    rw [if_neg z]
    have no : ∀ p : ¬ fC S x1 x2 x3 x, cV S (lp_X11_change_194 n S x1 x2 x3 x4 x5 x6 x7 x8 (x + 1)).2 x1 x2 x3 x4 x6 x := fun p =>
      cV.step hx (ih S (x + 1) h (by omega) (by omega) (by omega)) e rfl (fun _ _ _ _ => rfl) (fun _ _ => ⟨rfl, rfl, rfl⟩) ⟨fun y => absurd y p, fun y => absurd y p, fun _ => ⟨rfl, rfl, rfl⟩⟩
    by_cases z1 : S.2 13 x.toNatClampNeg = 0
    · rw [if_pos z1]
      exact no (fun y => y.1 z1)
    rw [if_neg z1]
    by_cases z2 : x = x2
    · rw [if_pos z2]
      exact no (fun y => y.2.1 z2)
    rw [if_neg z2]
    by_cases z3 : S.2 25 x.toNatClampNeg = 0
    · rw [if_pos z3]
      exact no (fun y => y.2.2.1 z3)
    rw [if_neg z3]
    by_cases z4 : S.2 26 x.toNatClampNeg = 0
    rotate_left
    · rw [if_neg z4]
      exact no (fun y => z4 y.2.2.2.1)
    rw [if_pos z4]
    by_cases z5 : S.2 23 x.toNatClampNeg = S.2 22 x1.toNatClampNeg
    rotate_left
    · rw [if_neg z5]
      exact no (fun y => z5 y.2.2.2.2.1)
    rw [if_pos z5, (isPending_i h x).1]
    by_cases z6 : (f_X11_isPending S x).1 = 0
    rotate_left
    · rw [if_neg z6]
      exact no (fun y => z6 ((isP_iff h x).mpr y.2.2.2.2.2.1))
    rw [if_pos z6]
    by_cases z7 : x3 < S.2 21 x.toNatClampNeg
    rotate_left
    · rw [if_neg z7]
      exact no (fun y => z7 y.2.2.2.2.2.2)
    rw [if_pos z7]
    have ok : fC S x1 x2 x3 x := ⟨z1, z2, z3, z4, z5, (isP_iff h x).mp z6, z7⟩
    by_cases z8 : S.2 20 x.toNatClampNeg < x4
    · rw [if_pos z8]
      exact cV.step hx (ih (sA S 26 x.toNatClampNeg (vp_nar .boolean 1)) (x + 1) h (by omega) (by omega) (by omega)) e rfl (fun k _ _ c => sA_k c) (fun j nj => ⟨rfl, rfl, upd_ne nj⟩) ⟨fun _ _ => ⟨rfl, rfl, upd_eq⟩, fun _ y => absurd z8 y, fun y => absurd ok y⟩
    · rw [if_neg z8]
      exact cV.step hx (ih (sA (sA S 20 x.toNatClampNeg ((S.2 20 x.toNatClampNeg) + x6)) 21 x.toNatClampNeg ((S.2 21 x.toNatClampNeg) + x6)) (x + 1) h (by omega) (by omega) (by omega)) e rfl (fun k a b _ => (sA_k b).trans (sA_k a)) (fun j nj => ⟨upd_ne nj, upd_ne nj, rfl⟩) ⟨fun _ y => absurd y z8, fun _ _ => ⟨upd_eq, upd_eq, rfl⟩, fun y => absurd ok y⟩
/-! the texts -/
theorem ti_v {x8 x9 x6 : Int32} {t p : Nat} (h8 : x8.toInt = 400 * (t : Int)) (ht : t < 90) (h9 : 0 ≤ x9.toInt ∧ x9.toInt < 400) (h6 : x9.toInt + x6.toInt = p) (hp : p < 400) : ((x8 + x9) + x6).toNatClampNeg = 400 * t + p ∧ (x8 + x9).toNatClampNeg = 400 * t + x9.toNatClampNeg := by
  have a := iAdd (x := x8) (y := x9) (by omega) (by omega)
  have b := iAdd (x := x8 + x9) (y := x6) (by rw [a]; omega) (by rw [a]; omega)
  have k := iNat (x := (x8 + x9) + x6) (by omega)
  have k2 := iNat (x := x8 + x9) (by omega)
  have k9 := iNat h9.1
  exact ⟨by omega, by omega⟩
/-- texts alone are other ones -/
def tO (S S' : HS) : Prop := S'.1 = S.1 ∧ ∀ k, k ≠ 28 → S'.2 k = S.2 k
theorem t142 {x1 x2 x3 x4 x5 x6 x7 x8 : Int32} {t m a : Nat} (h8 : x8.toInt = 400 * (t : Int)) (ht : t < 90) (h2 : 0 ≤ x2.toInt ∧ x2.toInt < 90) (hm : x2.toNatClampNeg = m) (tm : t ≠ m) (h3 : x3.toInt = a) (h35 : (a : Int) + x5.toInt ≤ 400) : ∀ (n : Nat) (S : HS) (x : Int32), 0 ≤ x.toInt → x.toInt ≤ 400 → 400 - x.toInt < n → ∃ S', lp_X11_change_142 n S x1 x2 x3 x4 x5 x6 x7 x8 x = lp_X11_change_194 100000 (sA S' 19 x1.toNatClampNeg (x7 + x6)) x1 x2 x3 x4 x5 x6 x7 x8 0 ∧ tO S S' ∧ (∀ i : Nat, x.toInt ≤ i → (i : Int) < x5.toInt → S'.2 28 (400 * t + (a + i)) = S.2 28 (400 * m + i)) ∧ ∀ p, (∀ i : Nat, x.toInt ≤ i → (i : Int) < x5.toInt → p ≠ 400 * t + (a + i)) → S'.2 28 p = S.2 28 p := by
  intro n
  induction n with
  | zero => intro S x h1 h9 hn; omega
  | succ n ih =>
    intro S x h1 h9 hn
    rw [lp_X11_change_142]
    unfold st_X11_change_142
    by_cases c : x5 ≤ x
    · have c' := iLe.mp c
      rw [if_pos c]
      exact ⟨S, rfl, ⟨rfl, fun _ _ => rfl⟩, fun i a b => by omega, fun _ _ => rfl⟩
    · have c' := mt iLe.mpr c
      have e := iAdd (x := x) (y := 1) (by rw [i1]; omega) (by rw [i1]; omega)
      rw [i1] at e
      have k := iNat h1
      have ix : ((x8 + x3) + x).toNatClampNeg = 400 * t + (a + x.toNatClampNeg) := (ti_v h8 ht (x9 := x3) ⟨by omega, by omega⟩ (x6 := x) (p := a + x.toNatClampNeg) (by omega) (by omega)).1
      have iy := tx_x h2 (s := x) ⟨h1, by omega⟩
      rw [if_neg c, ix, iy, hm]
      obtain ⟨S', q1, q2, q3, q4⟩ := ih (sA S 28 (400 * t + (a + x.toNatClampNeg)) (S.2 28 (400 * m + x.toNatClampNeg))) (x + 1) (by omega) (by omega) (by omega)
      have u : ∀ p, (sA S 28 (400 * t + (a + x.toNatClampNeg)) (S.2 28 (400 * m + x.toNatClampNeg))).2 28 p = upd (S.2 28) (400 * t + (a + x.toNatClampNeg)) (S.2 28 (400 * m + x.toNatClampNeg)) p := fun p => rfl
      refine ⟨S', q1, ⟨q2.1, fun k y => (q2.2 k y).trans (sA_k y)⟩, fun i l1 l2 => ?_, fun p hp => ?_⟩
      · by_cases y : i = x.toNatClampNeg
        · rw [q4 _ (fun i' a' b' w => by omega), u, y, upd_eq]
        · rw [q3 i (by omega) l2, u, upd_ne (by omega)]
      · rw [q4 p (fun i' a' b' => hp i' (by omega) b'), u, upd_ne (hp x.toNatClampNeg (by omega) (by omega))]
theorem t103 {x1 x2 x3 x4 x5 x6 x7 x8 : Int32} {t : Nat} (h8 : x8.toInt = 400 * (t : Int)) (ht : t < 90) (h6 : x6.toInt < 0) (h7 : x7.toInt ≤ 400) : ∀ (n : Nat) (S : HS) (x : Int32), 0 ≤ x.toInt → 0 ≤ x.toInt + x6.toInt → x.toInt ≤ 400 → 400 - x.toInt < n → ∃ S', lp_X11_change_103 n S x1 x2 x3 x4 x5 x6 x7 x8 x = b_X11_change_139 S' x1 x2 x3 x4 x5 x6 x7 x8 ∧ tO S S' ∧ (∀ i p : Nat, x.toInt ≤ i → (i : Int) < x7.toInt → (p : Int) = i + x6.toInt → S'.2 28 (400 * t + p) = S.2 28 (400 * t + i)) ∧ ∀ p, (∀ i p' : Nat, x.toInt ≤ i → (i : Int) < x7.toInt → (p' : Int) = i + x6.toInt → p ≠ 400 * t + p') → S'.2 28 p = S.2 28 p := by
  intro n
  induction n with
  | zero => intro S x h1 h1' h9 hn; omega
  | succ n ih =>
    intro S x h1 h1' h9 hn
    rw [lp_X11_change_103]
    unfold st_X11_change_103
    by_cases c : x7 ≤ x
    · have c' := iLe.mp c
      rw [if_pos c]
      exact ⟨S, rfl, ⟨rfl, fun _ _ => rfl⟩, fun i p a b => by omega, fun _ _ => rfl⟩
    · have c' := mt iLe.mpr c
      have e := iAdd (x := x) (y := 1) (by rw [i1]; omega) (by rw [i1]; omega)
      rw [i1] at e
      have k := iNat h1
      obtain ⟨px, hpx⟩ : ∃ px : Nat, (px : Int) = x.toInt + x6.toInt := ⟨(x.toInt + x6.toInt).toNat, by omega⟩
      obtain ⟨ix, iy⟩ := ti_v h8 ht (x9 := x) ⟨h1, by omega⟩ (x6 := x6) (p := px) hpx.symm (by omega)
      rw [if_neg c, ix, iy]
      obtain ⟨S', q1, q2, q3, q4⟩ := ih (sA S 28 (400 * t + px) (S.2 28 (400 * t + x.toNatClampNeg))) (x + 1) (by omega) (by omega) (by omega) (by omega)
      have u : ∀ p, (sA S 28 (400 * t + px) (S.2 28 (400 * t + x.toNatClampNeg))).2 28 p = upd (S.2 28) (400 * t + px) (S.2 28 (400 * t + x.toNatClampNeg)) p := fun p => rfl
      refine ⟨S', q1, ⟨q2.1, fun k y => (q2.2 k y).trans (sA_k y)⟩, fun i p l1 l2 l3 => ?_, fun p hp => ?_⟩
      · by_cases y : i = x.toNatClampNeg
        · have : p = px := by omega
          subst this
          rw [q4 _ (fun i' p' a' b' c' w => by omega), u, y, upd_eq]
        · rw [q3 i p (by omega) l2 l3, u, upd_ne (by omega)]
      · rw [q4 p (fun i' p' a' b' c' => hp i' p' (by omega) b' c'), u, upd_ne (hp x.toNatClampNeg px (by omega) (by omega) (by omega))]
theorem t58 {x1 x2 x3 x4 x5 x6 x7 x8 : Int32} {t : Nat} (h8 : x8.toInt = 400 * (t : Int)) (ht : t < 90) (h6 : 0 < x6.toInt) (h7 : x7.toInt + x6.toInt ≤ 400) (h4 : 0 ≤ x4.toInt) : ∀ (n : Nat) (S : HS) (x : Int32), -1 ≤ x.toInt → x.toInt < x7.toInt → x.toInt + 1 < n → ∃ S', lp_X11_change_58 n S x1 x2 x3 x4 x5 x6 x7 x8 x = b_X11_change_94 S' x1 x2 x3 x4 x5 x6 x7 x8 ∧ tO S S' ∧ (∀ i p : Nat, x4.toInt ≤ i → (i : Int) ≤ x.toInt → (p : Int) = i + x6.toInt → S'.2 28 (400 * t + p) = S.2 28 (400 * t + i)) ∧ ∀ p, (∀ i p' : Nat, x4.toInt ≤ i → (i : Int) ≤ x.toInt → (p' : Int) = i + x6.toInt → p ≠ 400 * t + p') → S'.2 28 p = S.2 28 p := by
  have em : (-1 : Int32).toInt = -1 := by decide
  intro n
  induction n with
  | zero => intro S x h1 h9 hn; omega
  | succ n ih =>
    intro S x h1 h9 hn
    rw [lp_X11_change_58]
    unfold st_X11_change_58
    by_cases c : x < x4
    · have c' := iLt.mp c
      rw [if_pos c]
      exact ⟨S, rfl, ⟨rfl, fun _ _ => rfl⟩, fun i p a b => by omega, fun _ _ => rfl⟩
    · have c' := mt iLt.mpr c
      have e := iAdd (x := x) (y := -1) (by rw [em]; omega) (by rw [em]; omega)
      rw [em] at e
      have k := iNat (x := x) (by omega)
      obtain ⟨px, hpx⟩ : ∃ px : Nat, (px : Int) = x.toInt + x6.toInt := ⟨(x.toInt + x6.toInt).toNat, by omega⟩
      obtain ⟨ix, iy⟩ := ti_v h8 ht (x9 := x) ⟨by omega, by omega⟩ (x6 := x6) (p := px) hpx.symm (by omega)
      rw [if_neg c, ix, iy]
      obtain ⟨S', q1, q2, q3, q4⟩ := ih (sA S 28 (400 * t + px) (S.2 28 (400 * t + x.toNatClampNeg))) (x + -1) (by omega) (by omega) (by omega)
      have u : ∀ p, (sA S 28 (400 * t + px) (S.2 28 (400 * t + x.toNatClampNeg))).2 28 p = upd (S.2 28) (400 * t + px) (S.2 28 (400 * t + x.toNatClampNeg)) p := fun p => rfl
      refine ⟨S', q1, ⟨q2.1, fun k y => (q2.2 k y).trans (sA_k y)⟩, fun i p l1 l2 l3 => ?_, fun p hp => ?_⟩
      · by_cases y : i = x.toNatClampNeg
        · have : p = px := by omega
          subst this
          rw [q4 _ (fun i' p' a' b' c' w => by omega), u, y, upd_eq]
        · rw [q3 i p l1 (by omega) l3, u, upd_ne (by omega)]
      · rw [q4 p (fun i' p' a' b' c' => hp i' p' a' (by omega) c'), u, upd_ne (hp x.toNatClampNeg px (by omega) (by omega) (by omega))]
end
end
section
/-! ===== words in place of a span: the reference put together; the class's texts ===== -/
section
variable {wF : Prop × (Nat → Int32) × Int32 × (Nat → Int32)} {E : Nat → Prop} {x : Nat} {S1 S2 S3 : Cst} {T T1 T2 T3 : Nat → List Nat} {F F1 : List Nat} {col c1 c2 c3 : Nat → Nat} {Sc : Cst}
theorem tO.e {S S' : HS} (h : tO S S') : S' = sR S 28 (S'.2 28) := by
  refine Prod.ext h.1 (funext fun j => ?_)
  show S'.2 j = if j = 28 then S'.2 28 else S.2 j
  by_cases z : j = 28
  · rw [if_pos z, z]
  · rw [if_neg z, h.2 j z]
theorem tO.tr {S S' S'' : HS} (h : tO S S') (g : tO S' S'') : tO S S'' := ⟨g.1.trans h.1, fun k y => (g.2 k y).trans (h.2 k y)⟩
theorem change_v {S : HS} (h : RA S) {x1 x2 : Int32} {t m a : Nat} (h1 : x1.toInt = t ∧ t < 90) (h2 : x2.toInt = m ∧ m < 90) (tm : t ≠ m) (ha : (S.2 20 m).toInt = a) (hab : (a : Int) ≤ (S.2 21 m).toInt ∧ (S.2 21 m).toInt ≤ (S.2 19 t).toInt) (hw : (S.2 19 t).toInt ≤ 400) (hn : 0 ≤ (S.2 19 m).toInt ∧ (S.2 19 m).toInt ≤ 400) (q : (S.2 19 t).toInt + (S.2 19 m).toInt - ((S.2 21 m).toInt - a) ≤ 400) :
    ∃ S' x6, x6 = S.2 19 m - (S.2 21 m - S.2 20 m) ∧ x6.toInt = (S.2 19 m).toInt - ((S.2 21 m).toInt - a) ∧ tO S S' ∧ cV (sA S' 19 t (S.2 19 t + x6)) (f_X11_change S x1 x2).2 x1 x2 (S.2 20 m) (S.2 21 m) x6 0 ∧
      (∀ i : Nat, i < a → S'.2 28 (400 * t + i) = S.2 28 (400 * t + i)) ∧ (∀ i : Nat, (i : Int) < (S.2 19 m).toInt → S'.2 28 (400 * t + (a + i)) = S.2 28 (400 * m + i)) ∧ (∀ i p : Nat, (S.2 21 m).toInt ≤ i → (i : Int) < (S.2 19 t).toInt → (p : Int) = i + x6.toInt → S'.2 28 (400 * t + p) = S.2 28 (400 * t + i)) ∧ ∀ p, p < 400 * t ∨ 400 * t + 400 ≤ p → S'.2 28 p = S.2 28 p := by
  have e4 : (400 : Int32).toInt = 400 := by decide
  have k1 := iNat (x := x1) (by omega)
  have k2 := iNat (x := x2) (by omega)
  have et : x1.toNatClampNeg = t := by omega
  have em : x2.toNatClampNeg = m := by omega
  have m8 := iMul (x := 400) (y := x1) (n := 400 * (t : Int)) (by rw [e4]; omega) (by omega) (by omega)
  have s1 := iSub (x := S.2 21 m) (y := S.2 20 m) (by omega) (by omega)
  have s2 := iSub (x := S.2 19 m) (y := S.2 21 m - S.2 20 m) (by omega) (by omega)
  rw [s1, ha] at s2
  have s3 := iSub (x := S.2 19 t) (y := 1) (by rw [i1]; omega) (by rw [i1]; omega)
  rw [i1] at s3
  suffices W : ∃ S', tO S S' ∧ cV (sA S' 19 t (S.2 19 t + (S.2 19 m - (S.2 21 m - S.2 20 m)))) (f_X11_change S x1 x2).2 x1 x2 (S.2 20 m) (S.2 21 m) (S.2 19 m - (S.2 21 m - S.2 20 m)) 0 ∧ (∀ i : Nat, i < a → S'.2 28 (400 * t + i) = S.2 28 (400 * t + i)) ∧ (∀ i : Nat, (i : Int) < (S.2 19 m).toInt → S'.2 28 (400 * t + (a + i)) = S.2 28 (400 * m + i)) ∧ (∀ i p : Nat, (S.2 21 m).toInt ≤ i → (i : Int) < (S.2 19 t).toInt → (p : Int) = i + (S.2 19 m - (S.2 21 m - S.2 20 m)).toInt → S'.2 28 (400 * t + p) = S.2 28 (400 * t + i)) ∧ ∀ p, p < 400 * t ∨ 400 * t + 400 ≤ p → S'.2 28 p = S.2 28 p by
    obtain ⟨S', w1, w2, w3⟩ := W
    exact ⟨S', _, rfl, s2, w1, w2, w3⟩
  -- the words put in, and what follows
  have last : ∀ S0 : HS, tO S S0 → ∃ S', tO S0 S' ∧ cV (sA S' 19 t (S.2 19 t + (S.2 19 m - (S.2 21 m - S.2 20 m)))) (b_X11_change_139 S0 x1 x2 (S.2 20 m) (S.2 21 m) (S.2 19 m) (S.2 19 m - (S.2 21 m - S.2 20 m)) (S.2 19 t) (400 * x1)).2 x1 x2 (S.2 20 m) (S.2 21 m) (S.2 19 m - (S.2 21 m - S.2 20 m)) 0 ∧ (∀ i : Nat, (i : Int) < (S.2 19 m).toInt → S'.2 28 (400 * t + (a + i)) = S0.2 28 (400 * m + i)) ∧ ∀ p, (∀ i : Nat, (i : Int) < (S.2 19 m).toInt → p ≠ 400 * t + (a + i)) → S'.2 28 p = S0.2 28 p := fun S0 o => by
    obtain ⟨S', q1, q2, q3, q4⟩ := t142 (x1 := x1) (x2 := x2) (x3 := S.2 20 m) (x4 := S.2 21 m) (x5 := S.2 19 m) (x6 := S.2 19 m - (S.2 21 m - S.2 20 m)) (x7 := S.2 19 t) (x8 := 400 * x1) m8 h1.2 ⟨by omega, by omega⟩ em tm ha (by omega) 100000 S0 0 (by rw [i0]; omega) (by rw [i0]; omega) (by rw [i0]; omega)
    rw [i0] at q3 q4
    rw [et] at q1
    have e : b_X11_change_139 S0 x1 x2 (S.2 20 m) (S.2 21 m) (S.2 19 m) (S.2 19 m - (S.2 21 m - S.2 20 m)) (S.2 19 t) (400 * x1) = _ := q1
    rw [e]
    have hr : RA (sA S' 19 t (S.2 19 t + (S.2 19 m - (S.2 21 m - S.2 20 m)))) := by
      have eS := (o.tr q2).e
      rw [eS]
      exact h
    refine ⟨S', q2, chg_v 100000 _ 0 hr (by rw [i0]; omega) (by rw [i0]; omega) (by rw [i0]; omega), fun i hi => q3 i (by omega) hi, fun p hp => q4 p (fun i _ hi => hp i hi)⟩
  unfold f_X11_change
  rw [em, et]
  by_cases z : (S.2 19 m - (S.2 21 m - S.2 20 m)) ≤ 0
  · have z' := iLe.mp z
    rw [i0] at z'
    rw [if_pos z]
    unfold b_X11_change_94
    by_cases z0 : 0 ≤ (S.2 19 m - (S.2 21 m - S.2 20 m))
    · have z0' := iLe.mp z0
      rw [i0] at z0'
      rw [if_pos z0]
      obtain ⟨S', q2, q3, q4, q5⟩ := last S ⟨rfl, fun _ _ => rfl⟩
      refine ⟨S', q2, q3, fun i hi => q5 _ (fun i' hi' => by omega), q4, fun i p p1 p2 p3 => ?_, fun p hp => q5 _ (fun i' hi' => by omega)⟩
      have : p = i := by omega
      subst this
      exact q5 _ (fun i' hi' => by omega)
    · have z0' := mt iLe.mpr z0
      rw [i0] at z0'
      rw [if_neg z0]
      obtain ⟨S0, p1, p2, p3, p4⟩ := t103 (x1 := x1) (x2 := x2) (x3 := S.2 20 m) (x4 := S.2 21 m) (x5 := S.2 19 m) (x6 := S.2 19 m - (S.2 21 m - S.2 20 m)) (x7 := S.2 19 t) (x8 := 400 * x1) m8 h1.2 (by omega) hw 100000 S (S.2 21 m) (by omega) (by omega) (by omega) (by omega)
      rw [p1]
      obtain ⟨S', q2, q3, q4, q5⟩ := last S0 p2
      refine ⟨S', p2.tr q2, q3, fun i hi => ?_, fun i hi => ?_, fun i p a1 a2 a3 => ?_, fun p hp => ?_⟩
      · rw [q5 _ (fun i' hi' => by omega), p4 _ (fun i' p' b1 b2 b3 => by omega)]
      · rw [q4 i hi, p4 _ (fun i' p' b1 b2 b3 => by omega)]
      · rw [q5 _ (fun i' hi' => by omega), p3 i p a1 a2 a3]
      · rw [q5 _ (fun i' hi' => by omega), p4 _ (fun i' p' b1 b2 b3 => by omega)]
  · have z' := mt iLe.mpr z
    rw [i0] at z'
    rw [if_neg z]
    obtain ⟨S0, p1, p2, p3, p4⟩ := t58 (x1 := x1) (x2 := x2) (x3 := S.2 20 m) (x4 := S.2 21 m) (x5 := S.2 19 m) (x6 := S.2 19 m - (S.2 21 m - S.2 20 m)) (x7 := S.2 19 t) (x8 := 400 * x1) m8 h1.2 (by omega) (by omega) (by omega) 100000 S (S.2 19 t - 1) (by omega) (by omega) (by omega)
    rw [p1]
    unfold b_X11_change_94
    rw [if_pos (iLe.mpr (by rw [i0]; omega))]
    obtain ⟨S', q2, q3, q4, q5⟩ := last S0 p2
    refine ⟨S', p2.tr q2, q3, fun i hi => ?_, fun i hi => ?_, fun i p a1 a2 a3 => ?_, fun p hp => ?_⟩
    · rw [q5 _ (fun i' hi' => by omega), p4 _ (fun i' p' b1 b2 b3 => by omega)]
    · rw [q4 i hi, p4 _ (fun i' p' b1 b2 b3 => by omega)]
    · rw [q5 _ (fun i' hi' => by omega), p3 i p a1 (by omega) a3]
    · rw [q5 _ (fun i' hi' => by omega), p4 _ (fun i' p' b1 b2 b3 => by omega)]
/-- the class's text -/
theorem rep_v (h : Sst E x Sc T F col S1 T1 F1 c1) {t z : Nat} (k : iK S1 t 6) (c : c1 t = x) (c' : c1 (t + 1) = x) (kz : iK S1 z 6) (nz : t ≠ z) {a b : Int32} (ha : 0 ≤ a.toInt ∧ a.toInt ≤ b.toInt ∧ b.toInt ≤ (giC S1 t 1).toInt) (hw : (giC S1 t 1).toInt ≤ 400) (hn : 0 ≤ (giC S1 z 1).toInt ∧ (giC S1 z 1).toInt ≤ 400) (hq : (giC S1 t 1).toInt + (giC S1 z 1).toInt - (b.toInt - a.toInt) ≤ 400) : ∃ S2, f_Y9_replace S1 t z a b = (0, S2) ∧ QU E x Sc T F col T1 F1 c1 S1 S2 ∧ (giC S2 t 1).toInt = (giC S1 t 1).toInt + (giC S1 z 1).toInt - (b.toInt - a.toInt) ∧ (∀ q k, q ≠ t + 1 → (q ≠ t ∨ k ≠ 1) → giC S2 q k = giC S1 q k) ∧ (∀ q k, grC S2 q k = grC S1 q k) ∧ (∀ q, lnC S2 q = lnC S1 q) ∧ (∀ q c, iK S2 q c → iK S1 q c) ∧ (∀ i : Nat, (i : Int) < a.toInt → giC S2 (t + 1) i = giC S1 (t + 1) i) ∧ (∀ i : Nat, (i : Int) < (giC S1 z 1).toInt → giC S2 (t + 1) (a.toNatClampNeg + i) = giC S1 (z + 1) i) ∧ ∀ i p : Nat, b.toInt ≤ i → (i : Int) < (giC S1 t 1).toInt → (p : Int) = i + ((giC S1 z 1).toInt - (b.toInt - a.toInt)) → giC S2 (t + 1) p = giC S1 (t + 1) i := by
  have w := h.ci.wf.w6 k
  have wz := h.ci.wf.w6 kz
  have h4 : (Int32.ofNat 400).toInt = 400 := by decide
  obtain ⟨-, v, S2, f, U⟩ := y_replace h k c c' kz a b
  have e1 := iSub (x := b) (y := a) (by omega) (by omega)
  have e2 := iSub (x := giC S1 t 1) (y := b - a) (by omega) (by omega)
  have e3 := iAdd (x := giC S1 t 1 - (b - a)) (y := giC S1 z 1) (by omega) (by omega)
  have e4 := iAdd (x := a) (y := giC S1 z 1) (by omega) (by omega)
  have e5 := iSub (x := giC S1 t 1) (y := b) (by omega) (by omega)
  have n1 := iNat (x := b) (by omega)
  have n2 := iNat (x := a + giC S1 z 1) (by omega)
  have n3 := iNat (x := giC S1 t 1 - b) (by omega)
  have n4 := iNat (x := a) (by omega)
  have n5 := iNat (x := giC S1 z 1) (by omega)
  have nzt : z ≠ t + 1 := ik_ne kz w.1.1 (by decide)
  have nz1 : z + 1 ≠ t + 1 := by omega
  have ntt : t ≠ t + 1 := by omega
  have z0 : (0 : Int32).toNatClampNeg = 0 := rfl
  obtain ⟨f1, hf1⟩ : ∃ f1, f1 = va_cpy (giC S1 (t + 1)) (giC S1 (t + 1)) b.toNatClampNeg (a + giC S1 z 1).toNatClampNeg (giC S1 t 1 - b).toNatClampNeg := ⟨_, rfl⟩
  obtain ⟨f2, hf2⟩ : ∃ f2, f2 = va_cpy (giC S1 (z + 1)) f1 0 a.toNatClampNeg (giC S1 z 1).toNatClampNeg := ⟨_, rfl⟩
  have g1 : giC (sfC S1 (t + 1) f1) (t + 1) = f1 := funext fun i => by rw [gi_sf, if_pos rfl]
  have g2 : giC (sfC S1 (t + 1) f1) (z + 1) = giC S1 (z + 1) := funext fun i => by rw [gi_sf, if_neg nz1]
  have g3 : giC (sfC S1 (t + 1) f1) z 1 = giC S1 z 1 := by rw [gi_sf, if_neg nzt]
  have e : f_Y9_replace S1 t z a b = (0, siC (sfC (sfC S1 (t + 1) f1) (t + 1) f2) t 1 (giC S1 t 1 - (b - a) + giC S1 z 1)) := by
    have es : f_Y9_sizeWith S1 t a b (giC S1 z 1) = giC S1 t 1 - (b - a) + giC S1 z 1 := rfl
    unfold f_Y9_replace b_Y9_replace_81a
    rw [es, if_neg (fun y => by have := iLt.mp y; rw [i0] at this; omega), if_neg (fun y => by have := iLt.mp y; omega), if_neg (fun y => by have := iLt.mp y; omega), w.2.1, Option.getD_some, w.1.2, if_pos (iLe.mpr (by rw [h4]; omega)), ← hf1]
    simp only [gr_sf, w.2.1, wz.2.1, Option.getD_some]
    rw [g1, g2, g3, z0, ← hf2]
  obtain ⟨-, rfl⟩ := Prod.mk.inj (f.symm.trans e)
  have gt : ∀ i, giC (siC (sfC (sfC S1 (t + 1) f1) (t + 1) f2) t 1 (giC S1 t 1 - (b - a) + giC S1 z 1)) (t + 1) i = f2 i := fun i => by
    rw [gi_si, if_neg (fun y => by omega), gi_sf, if_pos rfl]
  refine ⟨_, e, U, ?_, fun q k h1 h2 => ?_, fun q k => ?_, fun q => ?_, fun q c k => ?_, fun i hi => ?_, fun i hi => ?_, fun i p p1 p2 p3 => ?_⟩
  · rw [gi_si, if_pos ⟨rfl, rfl⟩, e3, e2, e1]
    omega
  · rw [gi_si, if_neg (fun y => h2.elim (fun f => f y.1) (fun f => f y.2)), gi_sf, if_neg h1, gi_sf, if_neg h1]
  · rw [gr_si, gr_sf, gr_sf]
  · rw [ln_si, ln_sf, ln_sf]
  · exact ik_sf.mp (ik_sf.mp (ik_si.mp k))
  · rw [gt, hf2]
    unfold va_cpy
    rw [if_neg (by omega), hf1]
    unfold va_cpy
    rw [if_neg (by omega)]
  · rw [gt, hf2]
    unfold va_cpy
    rw [if_pos (by omega)]
    congr 1
    omega
  · rw [gt, hf2]
    unfold va_cpy
    rw [if_neg (by omega), hf1]
    unfold va_cpy
    rw [if_pos (by omega)]
    congr 1
    omega
end
end
section
/-! ===== the laid ones follow: the class, in full ===== -/
section
variable {wF : Prop × (Nat → Int32) × Int32 × (Nat → Int32)} {x : Nat} {S S1 S2 S3 S4 : Cst} {T T1 T2 T3 : Nat → List Nat} {F F1 : List Nat} {col c1 c2 c3 : Nat → Nat}
/-- the place of a row -/
def plc (x : Nat) : Nat → Nat
  | 0 => x
  | 1 => x + 3
  | p + 2 => x + 13 + 3 * p
theorem plc_o {g : Nat} (h : 1 ≤ g ∧ g < 10) : pl x (plc x g) ∧ rP x g = plc x g + 1 := by
  match g, h with
  | 1, _ => exact ⟨Or.inl rfl, rfl⟩
  | p + 2, h => exact ⟨Or.inr ⟨p, by omega, rfl⟩, rfl⟩
/-- a motion lies alone at a row -/
def lM (S : Cst) (T : Nat → List Nat) (x g q : Nat) : Prop := (1 ≤ g ∧ g < 10) ∧ giC S (plc x g) 0 = 2 ∧ ∃ l, T (rP x g) = q :: l
theorem lM.mem {g q : Nat} (h : lM S1 T1 x g q) : q ∈ T1 (rP x g) := by
  obtain ⟨-, -, l, e⟩ := h
  rw [e]
  exact List.mem_cons_self ..
theorem mo_v (ci : CI noE S1 T1 [] c1) (kx : iK S1 x 0) {g : Nat} (hg : 1 ≤ g ∧ g < 10) : (∃ q, f_Y6_motion S1 (plc x g) = some q ∧ lM S1 T1 x g q) ∨ (f_Y6_motion S1 (plc x g) = none ∧ ∀ q, ¬ lM S1 T1 x g q) := by
  obtain ⟨o, e⟩ := plc_o (x := x) hg
  by_cases z : giC S1 (plc x g) 0 = 2
  · obtain ⟨m1, m2⟩ := mot_s ci kx o (noE_n _) z
    rw [← e] at m1 m2
    cases hT : T1 (rP x g) with
    | nil =>
      refine Or.inr ⟨m1 hT, fun q l => ?_⟩
      obtain ⟨-, -, l', e'⟩ := l
      rw [hT] at e'
      cases e'
    | cons q l => exact Or.inl ⟨q, m2 q l hT, hg, z, l, hT⟩
  · exact Or.inr ⟨mot_n ci kx o z, fun q l => z l.2.1⟩
/-- whether it follows, in the class; what becomes of it -/
def fcC (S : Cst) (mq z : Nat) (a : Int32) : Prop := giC S z 10 ≠ 0 ∧ f_Y4_amends S z ≠ 0 ∧ giC S z 1 = giC S mq 0 ∧ a < giC S z 9
def cC (S S' : Cst) (mq z : Nat) (a b w : Int32) : Prop :=
  (fcC S mq z a → giC S z 8 < b → giC S' z 8 = giC S z 8 ∧ giC S' z 9 = giC S z 9 ∧ giC S' z 11 = 1) ∧
  (fcC S mq z a → ¬ giC S z 8 < b → giC S' z 8 = giC S z 8 + (w - (b - a)) ∧ giC S' z 9 = giC S z 9 + (w - (b - a)) ∧ giC S' z 11 = giC S z 11) ∧
  (¬ fcC S mq z a → giC S' z 8 = giC S z 8 ∧ giC S' z 9 = giC S z 9 ∧ giC S' z 11 = giC S z 11)
theorem cC.l {mq z : Nat} {a b w : Int32} (h : cC S2 S4 mq z a b w) (e : ∀ k, giC S2 z k = giC S1 z k) (em : giC S2 mq 0 = giC S1 mq 0) : cC S1 S4 mq z a b w := by
  unfold cC fcC f_Y4_amends b_Y4_amends_16 b_Y4_amends_21 at h ⊢
  rw [e, e, e, e, e, e, em] at h
  exact h
theorem cC.r {mq z : Nat} {a b w : Int32} (h : cC S1 S2 mq z a b w) (e : ∀ k, giC S4 z k = giC S2 z k) : cC S1 S4 mq z a b w := by
  unfold cC at h ⊢
  rw [e, e, e]
  exact h
def k89 (k : Nat) : Prop := k ≠ 8 ∧ k ≠ 9 ∧ k ≠ 11
theorem aml_s {mq q g : Nat} (a b w i : Int32) (u : QU noE x S T [] col T1 [] c1 S1 S2) (hg : 1 ≤ g ∧ g < 10) : ∃ S3, b_Y7_amend_69a S2 x (some mq) (some q) a b w i (f_Y6_motion S2 (plc x g)) = Sum.inr (S3, some mq, some q, a, b, w, i + 1) ∧ QU noE x S T [] col T1 [] c1 S1 S3 ∧ (∀ z k, k89 k ∨ ¬ lM S2 T1 x g z → giC S3 z k = giC S2 z k) ∧ (∀ z k, grC S3 z k = grC S2 z k) ∧ (∀ z, lnC S3 z = lnC S2 z) ∧ (∀ z c, iK S3 z c → iK S2 z c) ∧ ∀ z, lM S2 T1 x g z → cC S2 S3 mq z a b w := by
  unfold b_Y7_amend_69a b_Y7_amend_114
  have same : ∀ z, (lM S2 T1 x g z → ¬ fcC S2 mq z a) → lM S2 T1 x g z → cC S2 S2 mq z a b w := fun z h l => ⟨fun y => absurd y (h l), fun y => absurd y (h l), fun _ => ⟨rfl, rfl, rfl⟩⟩
  rcases mo_v u.1.ci u.1.k1 hg with ⟨z, e, l⟩ | ⟨e, n⟩
  rotate_left
  · rw [e, if_pos rfl]
    exact ⟨S2, rfl, u, fun _ _ _ => rfl, fun _ _ => rfl, fun _ => rfl, fun _ _ h => h, fun z l => absurd l (n z)⟩
  have one : ∀ z', lM S2 T1 x g z' → z' = z := fun z' l' => by
    obtain ⟨-, -, L, e1⟩ := l
    obtain ⟨-, -, L', e2⟩ := l'
    rw [e1] at e2
    exact (List.cons.inj e2).1.symm
  have no : ¬ fcC S2 mq z a → ∀ z', lM S2 T1 x g z' → cC S2 S2 mq z' a b w := fun h z' l' => same z' (fun _ => by rw [one z' l']; exact h) l'
  rw [e, if_neg (by simp), Option.getD_some, Option.getD_some]
  by_cases y1 : giC S2 z 10 = 0
  · rw [if_pos y1]
    exact ⟨S2, rfl, u, fun _ _ _ => rfl, fun _ _ => rfl, fun _ => rfl, fun _ _ h => h, no (fun f => f.1 y1)⟩
  rw [if_neg y1]
  by_cases y2 : f_Y4_amends S2 z = 0
  · rw [if_pos y2]
    exact ⟨S2, rfl, u, fun _ _ _ => rfl, fun _ _ => rfl, fun _ => rfl, fun _ _ h => h, no (fun f => f.2.1 y2)⟩
  rw [if_neg y2]
  by_cases y3 : giC S2 z 1 = giC S2 mq 0
  rotate_left
  · rw [if_neg y3]
    exact ⟨S2, rfl, u, fun _ _ _ => rfl, fun _ _ => rfl, fun _ => rfl, fun _ _ h => h, no (fun f => y3 f.2.2.1)⟩
  rw [if_pos y3]
  have kz : iK S2 z 3 := (u.1.ci.tk _ z l.mem).1
  have cz : c1 z = x := by rw [(u.1.ci.tk _ z l.mem).2]; exact u.1.oc (rP_own hg.2).1
  unfold f_Y4_follow b_Y4_follow_53
  by_cases y4 : a < giC S2 z 9
  rotate_left
  · rw [if_neg y4]
    exact ⟨S2, rfl, u, fun _ _ _ => rfl, fun _ _ => rfl, fun _ => rfl, fun _ _ h => h, no (fun f => y4 f.2.2.2)⟩
  rw [if_pos y4]
  have ok : fcC S2 mq z a := ⟨y1, y2, y3, y4⟩
  by_cases y5 : giC S2 z 8 < b
  · rw [if_pos y5]
    refine ⟨_, rfl, u.mI kz cz 11 1 (by decide) (fun _ => bz1), fun z' k h => ?_, fun z' k => gr_si .., fun z' => ln_si .., fun z' c h => ik_si.mp h, fun z' l' => ?_⟩
    · rw [gi_si, if_neg (fun f => h.elim (fun k8 => k8.2.2 f.2) (fun n => n (by rw [f.1]; exact l)))]
    · rw [one z' l']
      refine ⟨fun _ _ => ⟨gi_o (by decide), gi_o (by decide), by rw [gi_si, if_pos ⟨rfl, rfl⟩]⟩, fun _ y => absurd y5 y, fun y => absurd ok y⟩
  · rw [if_neg y5]
    refine ⟨_, rfl, (u.mI kz cz 8 _ (by decide) (by omega)).mI (ik_si.mpr kz) cz 9 _ (by decide) (by omega), fun z' k h => ?_, fun z' k => by rw [gr_si, gr_si], fun z' => by rw [ln_si, ln_si], fun z' c h => ik_si.mp (ik_si.mp h), fun z' l' => ?_⟩
    · rw [gi_si, if_neg (fun f => h.elim (fun k8 => k8.2.1 f.2) (fun n => n (by rw [f.1]; exact l))), gi_si, if_neg (fun f => h.elim (fun k8 => k8.1 f.2) (fun n => n (by rw [f.1]; exact l)))]
    · rw [one z' l']
      refine ⟨fun _ y => absurd y y5, fun _ _ => ⟨?_, ?_, ?_⟩, fun y => absurd ok y⟩
      · rw [gi_si, if_neg (fun f => absurd f.2 (by decide)), gi_si, if_pos ⟨rfl, rfl⟩]
      · rw [gi_si, if_pos ⟨rfl, rfl⟩, gi_si, if_neg (fun f => absurd f.2 (by decide))]
      · rw [gi_si, if_neg (fun f => absurd f.2 (by decide)), gi_si, if_neg (fun f => absurd f.2 (by decide))]
theorem aml_v {mq q : Nat} (a b w : Int32) : ∀ (n : Nat) (S2 : Cst) (i : Int32) (gi : Nat), QU noE x S T [] col T1 [] c1 S1 S2 → (gi : Int) = i.toInt + 2 → -1 ≤ i.toInt → i.toInt ≤ 8 → 8 - i.toInt < n → ∃ S3, lp_Y7_amend_37 x n S2 (some mq) (some q) a b w i = (0, S3) ∧ QU noE x S T [] col T1 [] c1 S1 S3 ∧ (∀ z k, k89 k ∨ (∀ g, gi ≤ g → ¬ lM S2 T1 x g z) → giC S3 z k = giC S2 z k) ∧ (∀ z k, grC S3 z k = grC S2 z k) ∧ (∀ z, lnC S3 z = lnC S2 z) ∧ (∀ z c, iK S3 z c → iK S2 z c) ∧ ∀ g z, gi ≤ g → lM S2 T1 x g z → cC S2 S3 mq z a b w := by
  intro n
  induction n with
  | zero => intro S2 i gi u hg h1 h2 h3; omega
  | succ n ih =>
    intro S2 i gi u hg h1 h2 h3
    rw [lp_Y7_amend_37]
    unfold st_Y7_amend_37
    have w0 := u.w0
    by_cases c : 8 ≤ i
    · have c' := iLe.mp c
      rw [e8] at c'
      rw [if_pos c]
      exact ⟨S2, rfl, u, fun _ _ _ => rfl, fun _ _ => rfl, fun _ => rfl, fun _ _ h => h, fun g z hg' l => by have := l.1; omega⟩
    · have c' := mt iLe.mpr c
      rw [e8] at c'
      have e := iAdd (x := i) (y := 1) (by rw [i1]; omega) (by rw [i1]; omega)
      rw [i1] at e
      have hgi : 1 ≤ gi ∧ gi < 10 := by omega
      have nx : ∃ S3, (match b_Y7_amend_69a S2 x (some mq) (some q) a b w i (f_Y6_motion S2 (plc x gi)) with | Sum.inl r => r | Sum.inr q' => lp_Y7_amend_37 x n q'.1 q'.2.1 q'.2.2.1 q'.2.2.2.1 q'.2.2.2.2.1 q'.2.2.2.2.2.1 q'.2.2.2.2.2.2) = (0, S3) ∧ QU noE x S T [] col T1 [] c1 S1 S3 ∧ (∀ z k, k89 k ∨ (∀ g, gi ≤ g → ¬ lM S2 T1 x g z) → giC S3 z k = giC S2 z k) ∧ (∀ z k, grC S3 z k = grC S2 z k) ∧ (∀ z, lnC S3 z = lnC S2 z) ∧ (∀ z c, iK S3 z c → iK S2 z c) ∧ ∀ g z, gi ≤ g → lM S2 T1 x g z → cC S2 S3 mq z a b w := by
        obtain ⟨B, f1, u1, p1, p2, p3, p4, p5⟩ := aml_s (mq := mq) (q := q) a b w i u hgi
        rw [f1]
        obtain ⟨S3, f2, u2, q1, q2, q3, q4, q5⟩ := ih B (i + 1) (gi + 1) u1 (by omega) (by omega) (by omega) (by omega)
        have lm : ∀ g z, lM B T1 x g z ↔ lM S2 T1 x g z := fun g z => by
          unfold lM
          rw [p1 (plc x g) 0 (Or.inl ⟨by decide, by decide, by decide⟩)]
        have dis : ∀ g z, lM S2 T1 x g z → lM S2 T1 x gi z → g = gi := fun g z l l' => rP_inj (x := x) (u.1.ci.td _ _ z l.mem l'.mem)
        refine ⟨S3, f2, u2, fun z k h => ?_, fun z k => (q2 z k).trans (p2 z k), fun z => (q3 z).trans (p3 z), fun z c h => p4 z c (q4 z c h), fun g z hg' l => ?_⟩
        · rw [q1 z k (h.imp id (fun y g hg' l => y g (by omega) ((lm g z).mp l))), p1 z k (h.imp id (fun y => y gi (Nat.le_refl _)))]
        · by_cases y : g = gi
          · subst y
            refine (p5 z l).r (fun k => ?_)
            exact q1 z k (Or.inr (fun g' hg2 l2 => by have := dis g' z ((lm g' z).mp l2) l; omega))
          · have ez : ∀ k, giC B z k = giC S2 z k := fun k => p1 z k (Or.inr (fun l' => y (dis g z l l')))
            exact (q5 g z (by omega) ((lm g z).mpr l)).l ez (p1 mq 0 (Or.inl ⟨by decide, by decide, by decide⟩))
      rw [if_neg c]
      by_cases d : 0 ≤ i
      · have d' := iLe.mp d
        rw [i0] at d'
        have hn := iNat d'
        have dk := dk_ix u.1.ci.wf u.1.k1 (i := i.toNatClampNeg) (by omega)
        have eg : plc x gi = x + 13 + 3 * i.toNatClampNeg := by
          obtain ⟨p, rfl⟩ : ∃ p, gi = p + 2 := ⟨gi - 2, by omega⟩
          show x + 13 + 3 * p = _
          omega
        rw [if_pos d, dk.1, Option.getD_some]
        rw [eg] at nx
        exact nx
      · have d' := mt iLe.mpr d
        rw [i0] at d'
        have eg : plc x gi = x + 3 := by
          have : gi = 1 := by omega
          subst this
          rfl
        rw [if_neg d, w0.2.1.2.2.1, Option.getD_some]
        rw [eg] at nx
        exact nx
/-- the class's change, its text and those that follow -/
theorem amd_v (h : Sst noE x S T [] col S1 T1 [] c1) {mq q : Nat} (km : iK S1 mq 3) (cm : c1 mq = x) (kq : iK S1 q 3) (nq : mq ≠ q) (ha : 0 ≤ (giC S1 q 8).toInt ∧ (giC S1 q 8).toInt ≤ (giC S1 q 9).toInt ∧ (giC S1 q 9).toInt ≤ (giC S1 (mq + 1) 1).toInt) (hw : (giC S1 (mq + 1) 1).toInt ≤ 400) (hn : 0 ≤ (giC S1 (q + 1) 1).toInt ∧ (giC S1 (q + 1) 1).toInt ≤ 400) (hq : (giC S1 (mq + 1) 1).toInt + (giC S1 (q + 1) 1).toInt - ((giC S1 q 9).toInt - (giC S1 q 8).toInt) ≤ 400) : ∃ S2 S3, f_Y7_amend S1 x (some mq) (some q) = (0, S3) ∧ QU noE x S T [] col T1 [] c1 S1 S3 ∧
    ((giC S2 (mq + 1) 1).toInt = (giC S1 (mq + 1) 1).toInt + (giC S1 (q + 1) 1).toInt - ((giC S1 q 9).toInt - (giC S1 q 8).toInt) ∧ (∀ z k, z ≠ mq + 2 → (z ≠ mq + 1 ∨ k ≠ 1) → giC S2 z k = giC S1 z k) ∧ (∀ i : Nat, (i : Int) < (giC S1 q 8).toInt → giC S2 (mq + 2) i = giC S1 (mq + 2) i) ∧ (∀ i : Nat, (i : Int) < (giC S1 (q + 1) 1).toInt → giC S2 (mq + 2) ((giC S1 q 8).toNatClampNeg + i) = giC S1 (q + 2) i) ∧ ∀ i p : Nat, (giC S1 q 9).toInt ≤ i → (i : Int) < (giC S1 (mq + 1) 1).toInt → (p : Int) = i + ((giC S1 (q + 1) 1).toInt - ((giC S1 q 9).toInt - (giC S1 q 8).toInt)) → giC S2 (mq + 2) p = giC S1 (mq + 2) i) ∧
    ((∀ z k, k89 k ∨ (∀ g, ¬ lM S1 T1 x g z) → giC S3 z k = giC S2 z k) ∧ (∀ z k, grC S3 z k = grC S1 z k) ∧ (∀ z, lnC S3 z = lnC S1 z) ∧ (∀ z c, iK S3 z c → iK S1 z c) ∧ ∀ g z, lM S1 T1 x g z → cC S1 S3 mq z (giC S1 q 8) (giC S1 q 9) (giC S1 (q + 1) 1)) := by
  have wm := h.ci.wf.w3 km
  have wq := h.ci.wf.w3 kq
  have u := QU.rf h
  have em : (-1 : Int32).toInt = -1 := by decide
  have nt : mq + 1 ≠ q + 1 := by omega
  obtain ⟨S2, f1, u2, r1, r2, r3, r4, r5, r6, r7, r8⟩ := rep_v h wm.1.1 (u.mc km cm 1 (by omega)) (u.mc km cm 2 (by omega)) wq.1.1 nt (a := giC S1 q 8) (b := giC S1 q 9) ha hw hn hq
  have r2' : ∀ z k, z ≠ mq + 2 → (z ≠ mq + 1 ∨ k ≠ 1) → giC S2 z k = giC S1 z k := fun z k h1 h2 => r2 z k h1 h2
  obtain ⟨S3, f2, u3, q1, q2, q3, q4, q5⟩ := aml_v (mq := mq) (q := q) (giC S1 q 8) (giC S1 q 9) (giC S1 (q + 1) 1) 100000 S2 (-1) 1 u2 (by rw [em]; rfl) (by rw [em]; omega) (by rw [em]; omega) (by rw [em]; omega)
  have m1 : ∀ q', iK S1 q' 3 → ∀ k, giC S2 q' k = giC S1 q' k := fun q' k j => r2' q' j (ik_ne k (h.ci.wf.w6 wm.1.1).1.1 (by decide)) (Or.inl (ik_ne k wm.1.1 (by decide)))
  have lm : ∀ g z, lM S2 T1 x g z ↔ lM S1 T1 x g z := fun g z => by
    unfold lM
    by_cases hg : 1 ≤ g ∧ g < 10
    · have k5 := pl.lt h.ci h.k1 (plc_o (x := x) hg).1
      rw [r2' (plc x g) 0 (ik_ne k5 (h.ci.wf.w6 wm.1.1).1.1 (by decide)) (Or.inr (by decide))]
    · exact ⟨fun y => absurd y.1 hg, fun y => absurd y.1 hg⟩
  refine ⟨S2, S3, ?_, u3, ⟨r1, r2', r6, r7, r8⟩, fun z k hz => q1 z k (hz.imp id (fun y g _ l => y g ((lm g z).mp l))), fun z k => (q2 z k).trans (r3 z k), fun z => (q3 z).trans (r4 z), fun z c k => r5 z c (q4 z c k), fun g z l => ?_⟩
  · unfold f_Y7_amend b_Y7_amend_34a
    simp only [Option.getD_some]
    rw [wm.2.1.1, wq.2.1.1]
    simp only [Option.getD_some]
    rw [f1]
    exact f2
  · have kz : iK S1 z 3 := (h.ci.tk _ z l.mem).1
    exact (q5 g z l.1.1 ((lm g z).mpr l)).l (m1 z kz) (m1 mq km 0)
end
end
