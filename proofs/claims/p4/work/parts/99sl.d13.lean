/-! ===== the deeds: act 13 ===== -/
section
variable {wF : Prop × (Nat → Int32) × Int32 × (Nat → Int32)} {E : Nat → Prop} {x : Nat} {S S1 S2 S3 : Cst} {T T1 T2 T3 : Nat → List Nat} {F F1 : List Nat} {col c1 : Nat → Nat} {H H2 H3 : HS} {N N2 M M2 : Int} {D : Nat → Prop}
theorem ld_64 (hS : Sst noE x S T F col S2 T1 F1 c1) {d : Nat} (i : Int32) (r tp : Option Nat) (f1 : f_Y6_takeFrom S2 d (x + 3) = (0, S3)) : b_Y1_layDown_64 S2 x i (some d) r tp = (i, S3) := by
  have w2 := hS.ci.wf.w0 hS.k1
  unfold b_Y1_layDown_64 b_Y1_layDown_76
  simp only [reduceCtorEq, if_false]
  rw [w2.2.1.2.2.1]
  simp only [Option.getD_some, f1]
/-- the top's name is its subject's, in both -/
theorem top_jn (r : RR wF N S1 T1 x H) (h : HA H) (bN : (H.1 7).toInt ≤ N) (z : ¬ H.1 6 = 0) (k9 : H.2 14 (f_X11_top H).1.toNatClampNeg ≠ 9) : (1 ≤ (giC S1 ((T1 (x + 1)).getD (H.1 6 - 1).toNatClampNeg 0) 0).toInt ∧ (giC S1 ((T1 (x + 1)).getD (H.1 6 - 1).toNatClampNeg 0) 0).toInt ≤ (giC S1 x 8).toInt) ∧ (0 ≤ (H.1 30 - H.2 22 (f_X11_top H).1.toNatClampNeg).toInt ∧ (H.1 30 - H.2 22 (f_X11_top H).1.toNatClampNeg).toInt < N) ∧ (∀ g i, hL H g i → hT H g → (giC S1 ((T1 (x + 1)).getD (H.1 6 - 1).toNatClampNeg 0) 0 = giC S1 ((T1 (rP x g)).getD i 0) 0 ↔ H.2 22 (f_X11_top H).1.toNatClampNeg = H.2 22 (hM H g i))) ∧ ∀ g, hL H g 0 → ¬ hT H g → H.2 22 (f_X11_top H).1.toNatClampNeg ≠ H.2 22 (hM H g 0) := by
  obtain ⟨l, e⟩ := top_L h z
  rw [← e] at k9 ⊢
  obtain ⟨n1, n2, n3, n4⟩ := r.2.2.2.2.2
  have t0 : hT H 0 := trivial
  have a2 := (n2 0 _ l t0).1 k9
  have a3 := (n2 0 _ l t0).2.1
  have ag := h.1.1.2.2.2.2.2.1 0 _ l
  have hU := h.1.1.2.2.2.2.2.2.1
  have a2' := mt iEq.mpr a2
  rw [i0] at a2'
  refine ⟨⟨?_, a3.2⟩, ⟨ag.1, by omega⟩, fun g i lg tg => ⟨fun y => ?_, fun y => ?_⟩, fun g lg tg y => ?_⟩
  · have b := a3.1
    show 1 ≤ (giC S1 ((T1 (rP x 0)).getD (H.1 6 - 1).toNatClampNeg 0) 0).toInt
    omega
  · obtain ⟨e1, e2⟩ := n3 0 _ g i l t0 lg tg a2 y
    rw [← e1, ← e2]
  · obtain ⟨e1, e2⟩ := hU 0 _ g i l lg y
    rw [← e1, ← e2]
    rfl
  · obtain ⟨e1, -⟩ := hU 0 _ g 0 l lg y
    exact tg (by rw [← e1]; trivial)
theorem ds_13 (a : AS x S T col S1 T1 c1) (r : RR wF N S1 T1 x H) (h : HA H) (bN : (H.1 7).toInt ≤ N) (i b c d : Int32) (hi : 0 ≤ i.toInt ∧ i.toInt ≤ 7) (z1 : ¬ H.1 35 = 0) (z0 : H.2 34 i.toNatClampNeg = 0) (hw : wP H → ∃ q, q < 8 ∧ q ≠ i.toNatClampNeg ∧ H.2 34 q = 0) (ab : H.1 36 = 0 → H.2 25 (hM H 1 0) = 0 → (H.2 14 (hM H 1 0) = 2 ∨ H.2 14 (hM H 1 0) = 3) → ¬ H.1 6 = 0 ∧ H.2 14 (f_X11_top H).1.toNatClampNeg ≠ 9) : DS wF (N + 1) x S T col (f_Y1_perform S1 x 13 i b c d) (f_X11_does H 13 i b c d) := by
  have kp := iNat hi.1
  have hp : i.toNatClampNeg < 8 := by omega
  have pv := pa_v a.ci.wf a.k1 hp (i := i) (by omega)
  have z1' := mt iEq.mpr z1
  rw [i0] at z1'
  have n35 := h.1.1.1 1 (by omega)
  have e35 : hN H 1 = (H.1 35).toInt := rfl
  have h36 : H.1 36 = 0 ∨ H.1 36 = 1 := h.1.2.2.2.2.1
  have z0' := congrArg Int32.toInt z0
  rw [i0] at z0'
  have DO2 := (d_13 h.1 (by omega) hi (by omega) hw).1.1
  have e1 : f_Y1_perform S1 x 13 i b c d = f_Y1_layDown S1 x i := by
    unfold f_Y1_perform b_Y1_perform_223a
    rfl
  have e2 : f_X11_does H 13 i b c d = f_X11_lay H i := by
    unfold f_X11_does b_X11_does_a377
    rfl
  rw [e1, e2]
  have m0 : (H.2 32 (0 : Int32).toNatClampNeg).toNatClampNeg = hM H 1 0 := by rw [zn0]; rfl
  obtain ⟨t0, t1⟩ := rr_dr a r.2.1 r.2.2.1 h.1
  -- what is common: the state H' is laid from S'
  have fin : ∀ (S' : Cst) (H' : HS), Sst noE x S T [] col S' T1 [] c1 → RR wF N S' T1 x H' → HC (H.1 7).toInt H' → H'.1 = H.1 → H'.2 34 = H.2 34 → f_X11_lay H i = lp_X11_lay_67 100000 H' i (H.2 32 (0 : Int32).toNatClampNeg) 0 → (∀ S3, f_Y6_takeFrom S' (x + 13 + 3 * i.toNatClampNeg) (x + 3) = (0, S3) → f_Y1_layDown S1 x i = (i, S3)) → DS wF (N + 1) x S T col (f_Y1_layDown S1 x i) (f_X11_lay H i) := fun S' H' hS r' hc' q1 q34 el ec => by
    rw [el] at DO2 ⊢
    obtain ⟨u, el2, u1, u2⟩ := lay_W hi H' (H.2 32 (0 : Int32).toNatClampNeg) (by rw [q1]; exact h36) (by rw [q1]; omega)
    rw [el2] at DO2 ⊢
    rw [← kp] at u2
    obtain ⟨S3, T3, f1, f2, f3⟩ := lay_B hS r' hc' hp (by rw [q34]; exact z0) (by rw [q1]; exact z1) rfl u1 u2 DO2
    rw [ec S3 f1]
    exact ⟨S3, T3, c1, rfl, f2, f3.up (by omega)⟩
  by_cases z2 : H.1 36 = 0
  · obtain ⟨q, eq, mu, lq, hq⟩ := t1 z1 z2
    have hu : q ∈ T1 (x + 4) := by rw [hq]; exact List.mem_singleton.mpr rfl
    have kq := a.m3 hu
    have cq : c1 q = x := by rw [(a.ci.tk _ q hu).2]; exact a.1.cx 4 (by omega)
    have lq : giC S1 q 10 = H.2 25 (hM H 1 0) := lq
    have mu : mR S1 q H (hM H 1 0) := mu
    have o26 := r.2.2.1.2.2.2.1 1 (by omega) (dr_L h z1 z2).1 (dr_L h z1 z2).2
    by_cases z3 : H.2 25 (hM H 1 0) = 0
    · -- laid now
      have lp67 : f_X11_lay H i = lp_X11_lay_67 100000 (sA (if H.2 14 (hM H 1 0) = 2 ∨ H.2 14 (hM H 1 0) = 3 then sA H 23 (hM H 1 0) (H.2 22 (f_X11_top H).1.toNatClampNeg) else H) 25 (hM H 1 0) 1) i (H.2 32 (0 : Int32).toNatClampNeg) 0 := by
        unfold f_X11_lay b_X11_lay_43 b_X11_lay_a56 b_X11_lay_58 b_X11_lay_65
        rw [if_pos z2, m0, if_pos z3, top_s, vb1]
        by_cases k2 : H.2 14 (hM H 1 0) = 2
        · rw [if_pos k2, if_pos (Or.inl k2)]
        · rw [if_neg k2]
          by_cases k3 : H.2 14 (hM H 1 0) = 3
          · rw [if_pos k3, if_pos (Or.inr k3)]
          · rw [if_neg k3, if_neg (fun y => y.elim k2 k3)]
      have cl : ∀ y, (if f_Y4_amends (siC S1 q 10 1) q = 0 then 0 else if f_Y5_top S1 (x + 1) = none then 0 else giC (siC S1 q 10 1) ((f_Y5_top S1 (x + 1)).getD 0) 0) = y → ∀ S3, f_Y6_takeFrom (siC (siC S1 q 10 1) q 1 y) (x + 13 + 3 * i.toNatClampNeg) (x + 3) = (0, S3) → f_Y1_layDown S1 x i = (i, S3) := fun y ey S3 f1 => by
        have U := ((QU.rf a.1).mI kq cq 10 1 (by decide) (fun _ => bz1)).mI (ik_si.mpr kq) cq 1 y (by decide) (by omega)
        have g := ld_64 U.1 i (some q) (f_Y5_top S1 (x + 1)) f1
        unfold f_Y1_layDown b_Y1_layDown_44a b_Y1_layDown_60 b_Y1_layDown_61
        rw [pv, a.g2, a.g1]
        simp only [Option.getD_some]
        rw [eq]
        simp only [reduceCtorEq, if_false, Option.getD_some]
        rw [if_pos (lq.trans z3)]
        by_cases y1 : f_Y4_amends (siC S1 q 10 1) q = 0
        · rw [if_pos y1] at ey ⊢
          rw [ey]
          exact g
        · rw [if_neg y1] at ey ⊢
          by_cases y2 : f_Y5_top S1 (x + 1) = none
          · rw [if_pos y2] at ey ⊢
            rw [ey]
            exact g
          · rw [if_neg y2] at ey ⊢
            rw [ey]
            exact g
      have am : f_Y4_amends (siC S1 q 10 1) q = if H.2 14 (hM H 1 0) = 2 ∨ H.2 14 (hM H 1 0) = 3 then 1 else 0 := by
        have e := mu.1.1
        have g2 : giC (siC S1 q 10 1) q 2 = H.2 14 (hM H 1 0) := (gi_o (by decide)).trans e
        unfold f_Y4_amends b_Y4_amends_16 b_Y4_amends_21
        rw [g2]
        by_cases k2 : H.2 14 (hM H 1 0) = 2
        · rw [if_pos k2, if_pos (Or.inl k2)]
        · rw [if_neg k2]
          by_cases k3 : H.2 14 (hM H 1 0) = 3
          · rw [if_pos k3, if_pos (Or.inr k3)]
          · rw [if_neg k3, if_neg (fun y => y.elim k2 k3)]
      by_cases k23 : H.2 14 (hM H 1 0) = 2 ∨ H.2 14 (hM H 1 0) = 3
      · obtain ⟨p6, k9⟩ := ab z2 z3 k23
        obtain ⟨t, et, mt_, ht, ht2⟩ := (rr_top a r.2.1 h.1.ra).2 p6
        have J := top_jn r h bN p6 k9
        rw [← ht2] at J
        have nt : t ≠ q := fun e => by
          have e1 : x + 1 = x + 4 := a.ci.td _ _ q (by rw [← e]; exact ht) hu
          omega
        obtain ⟨r', hc'⟩ := r.la a h z1 z2 hq (giC S1 t 0) (H.2 22 (f_X11_top H).1.toNatClampNeg) (fun _ => J)
        rw [if_pos k23] at lp67
        have U := ((QU.rf a.1).mI kq cq 10 1 (by decide) (fun _ => bz1)).mI (ik_si.mpr kq) cq 1 (giC S1 t 0) (by decide) (by omega)
        refine fin _ _ U.1 r' hc' rfl rfl lp67 (cl (giC S1 t 0) ?_)
        rw [am, if_pos k23, if_neg (by decide), et, if_neg (by simp), Option.getD_some, gi_si, if_neg (fun e => nt e.1)]
      · obtain ⟨r', hc'⟩ := r.la a h z1 z2 hq 0 (H.2 23 (hM H 1 0)) (fun y => absurd y k23)
        rw [sA_id H 23 (hM H 1 0) rfl] at r' hc'
        rw [if_neg k23] at lp67
        have U := ((QU.rf a.1).mI kq cq 10 1 (by decide) (fun _ => bz1)).mI (ik_si.mpr kq) cq 1 0 (by decide) (by omega)
        refine fin _ _ U.1 r' hc' rfl rfl lp67 (cl 0 ?_)
        rw [am, if_neg k23, if_pos rfl]
    · -- laid before
      have b1 : H.2 25 (hM H 1 0) = 1 := by
        rw [← lq] at z3 ⊢
        exact ((a.ci.wf.w3 kq).2.2.1.2.1).resolve_left z3
      have lp67 : f_X11_lay H i = lp_X11_lay_67 100000 H i (H.2 32 (0 : Int32).toNatClampNeg) 0 := by
        unfold f_X11_lay b_X11_lay_58 b_X11_lay_65
        rw [if_pos z2, m0, if_neg z3, vb1, sA_id H 25 (hM H 1 0) b1]
      refine fin S1 H a.1 r h.1.1 rfl rfl lp67 (fun S3 f1 => ?_)
      have g := ld_64 a.1 i (some q) (f_Y5_top S1 (x + 1)) f1
      unfold f_Y1_layDown
      rw [pv, a.g2, a.g1]
      simp only [Option.getD_some]
      rw [eq]
      simp only [reduceCtorEq, if_false, Option.getD_some]
      rw [if_neg (fun y => z3 (lq.symm.trans y))]
      exact g
  · have em := t0 (Or.inr z2)
    have lp67 : f_X11_lay H i = lp_X11_lay_67 100000 H i (H.2 32 (0 : Int32).toNatClampNeg) 0 := by
      unfold f_X11_lay b_X11_lay_65
      rw [if_neg z2]
    refine fin S1 H a.1 r h.1.1 rfl rfl lp67 (fun S3 f1 => ?_)
    have g := ld_64 a.1 i none (f_Y5_top S1 (x + 1)) f1
    unfold f_Y1_layDown
    rw [pv, a.g2, a.g1]
    simp only [Option.getD_some]
    rw [em]
    simp only [if_true]
    exact g
end
