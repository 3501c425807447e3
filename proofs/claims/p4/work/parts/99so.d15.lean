/-! ===== the deeds: act 15 ===== -/
section
variable {wF : Prop × (Nat → Int32) × Int32 × (Nat → Int32)} {E : Nat → Prop} {x : Nat} {S S1 S2 S3 : Cst} {T T1 T2 T3 : Nat → List Nat} {F F1 : List Nat} {col c1 : Nat → Nat} {H H2 H3 : HS} {N N2 M M2 : Int} {D : Nat → Prop}
/-- the class's end of it: the draft poured upon the pending ones -/
theorem br_v (hS : Sst noE x S T [] col S2 T1 [] c1) (i : Int32) (rr : Option Nat) {v : Int32} (hl : (T1 (x + 1)).length + (T1 (x + 4)).length ≤ 9) (hv : v.toInt = (T1 (x + 1)).length + (T1 (x + 4)).length) : ∃ S3 T3, b_Y1_bringUp_40 S2 x i rr = (v, siC (siC S3 (x + 3) 0 0) (x + 37) 6 (-1)) ∧ Sst noE x S T [] col S3 T3 [] c1 ∧ gF S2 S3 ∧ T3 (x + 4) = [] ∧ T3 (x + 1) = T1 (x + 1) ++ T1 (x + 4) ∧ ∀ c, c ≠ x + 4 → c ≠ x + 1 → T3 c = T1 c := by
  have o3 : pl x (x + 3) := Or.inl rfl
  have w2 := hS.ci.wf.w0 hS.k1
  have w5 := hS.ci.wf.w5 (o3.lt hS.ci hS.k1)
  obtain ⟨-, S3, T3, f1, f2, f3, f4, f5, f6⟩ := y_pour noE_n hS (P := x + 4) (Q := x + 1) (Or.inr (Or.inr (Or.inl rfl))) (by omega) (Or.inr (Or.inl rfl)) (by omega) (by omega) hl
  have w3 := f2.ci.wf.w0 f2.k1
  refine ⟨S3, T3, ?_, f2, f3, f4, f5, f6⟩
  have sz : giC S3 (x + 1) 1 = v := by
    refine iEq.mpr ?_
    rw [(f2.ci.tp (x + 1) (noE_n _) w3.1.2.1).1, f5, hv, List.length_append]
    omega
  unfold b_Y1_bringUp_40 b_Y1_bringUp_54a
  rw [w2.2.1.2.2.1, w2.2.1.2.1]
  simp only [Option.getD_some]
  rw [w5.2, Option.getD_some, f1]
  simp only [gr_si, w3.2.1.2.2.1, w3.2.1.1, w3.2.1.2.1, Option.getD_some]
  rw [gi_si, if_neg (fun y => by omega), gi_si, if_neg (fun y => by omega), sz]
theorem ds_15 (a : AS x S T col S1 T1 c1) (r : RR wF N S1 T1 x H) (h : HA H) (bN : 0 ≤ N ∧ N ≤ 1000000) (i b c d : Int32) (z1 : ¬ H.1 35 = 0) (t1 : H.1 36 ≠ 0 → H.1 6 = 0) (t0 : H.1 36 = 0 → mV H (hM H 1 0) (f_X11_top H).1.toNatClampNeg) (o26 : H.1 36 = 0 → H.2 26 (hM H 1 0) = 0) : DS wF (N + 1) x S T col (f_Y1_perform S1 x 15 i b c d) (f_X11_does H 15 i b c d) := by
  have o3 : pl x (x + 3) := Or.inl rfl
  have z1' := mt iEq.mpr z1
  rw [i0] at z1'
  have n35 := h.1.1.1 1 (by omega)
  have n6 := h.1.1.1 0 (by omega)
  have e35 : hN H 1 = (H.1 35).toInt := rfl
  have e6 : hN H 0 = (H.1 6).toInt := rfl
  have k6 := iNat (x := H.1 6) (by omega)
  have L1 : hL H 1 0 := ⟨by omega, by omega⟩
  have DO2 := (d_15 h.1 (by omega) i t1 t0).2
  have rn := rr_n r.2.1
  have rd := rr_d r.2.1
  have h9 : (H.1 6).toInt + (H.1 35).toInt ≤ 9 := by
    by_cases z2 : H.1 36 = 0
    · have := (t0 z2).1
      have := n35.2.2 (fun t => t z2)
      omega
    · have := congrArg Int32.toInt (t1 z2)
      rw [i0] at this
      omega
  have a6 := iAdd (x := H.1 6) (y := H.1 35) (by omega) (by omega)
  have e1 : f_Y1_perform S1 x 15 i b c d = f_Y1_bringUp S1 x i := by
    unfold f_Y1_perform b_Y1_perform_235a
    rfl
  have e2 : f_X11_does H 15 i b c d = f_X11_move H i := by
    unfold f_X11_does b_X11_does_a389
    rfl
  rw [e1, e2]
  have m0 : (H.2 32 (0 : Int32).toNatClampNeg).toNatClampNeg = hM H 1 0 := by rw [zn0]; rfl
  obtain ⟨s0, s1⟩ := rr_dr a r.2.1 r.2.2.1 h.1
  -- what is common: H' is moved from, the class's rows are poured
  have fin : ∀ (S' : Cst) (H' : HS) (rr : Option Nat) (gs is : Nat) (q : Nat), Sst noE x S T [] col S' T1 [] c1 → f_Y1_bringUp S1 x i = b_Y1_bringUp_40 S' x i rr → f_X11_move H i = lp_X11_move_77 100000 H' i 0 → H'.1 = H.1 → (∀ k, k ≠ 15 → k ≠ 23 → H'.2 k = H.2 k) →
      (∀ S4 T4 H4, S4.1 = S'.1 → Sst noE x S T [] col S4 T4 [] c1 → gX (fun z => z = x + 3) S' S4 → (∀ k, k ≠ 6 → k ≠ 35 → H4.1 k = H.1 k) → H4.1 35 = 0 → (∀ k, k ≠ 31 → H4.2 k = H'.2 k) → HC ((H.1 7).toInt + 1) H4 → hN H4 1 = 0 → hN H4 0 = hN H 0 + hN H 1 → (∀ p, hN H4 (p + 2) = hN H (p + 2)) → (∀ i : Nat, (i : Int) < hN H 1 → hM H4 0 ((H.1 6).toNatClampNeg + i) = hM H 1 i) → (∀ i : Nat, i < (H.1 6).toNatClampNeg → hM H4 0 i = hM H 0 i) → (∀ p i, hM H4 (p + 2) i = hM H (p + 2) i) → (∀ g, (hT H4 g ↔ hT H g)) → giC S4 (x + 3) 0 = 0 → T4 (rP x 1) = [] → T4 (rP x 0) = T1 (rP x 0) ++ T1 (rP x 1) → (∀ p, p < 8 → T4 (rP x (p + 2)) = T1 (rP x (p + 2))) → RR wF (N + 1) S4 T4 x H4) →
      DS wF (N + 1) x S T col (f_Y1_bringUp S1 x i) (f_X11_move H i) := fun S' H' rr gs is q hS ec el q1 q2 key => by
    rw [el] at DO2 ⊢
    obtain ⟨u, el2, u1, u2⟩ := move_W (x1 := i) H' (by rw [q1]; omega) (by rw [q1]; omega) (by rw [q1]; exact h9)
    rw [el2] at DO2 ⊢
    obtain ⟨S3, T3, f1, f2, f3, f4, f5, f6⟩ := br_v hS i rr (v := H.1 6 + H.1 35) (by omega) (by omega)
    rw [ec, f1]
    have I4 : HI ((H.1 7).toInt + 1) (sI (sI (sR H' 31 u) 6 (H'.1 6 + H'.1 35)) 35 0) := by
      have y := hi_5 DO2.1 ((sI (sI (sR H' 31 u) 6 (H'.1 6 + H'.1 35)) 35 0).1 5)
      dsimp only at y
      rw [sI_bk] at y
      exact y
    obtain ⟨r1, r2, r3, r4, r5, r6, r7⟩ := moveRows (k := (H.1 6).toNatClampNeg) (rfl : sI (sI (sR H' 31 u) 6 (H'.1 6 + H'.1 35)) 35 0 = _) (by rw [q1]; omega) (by rw [q1]; omega) (by rw [q1]; exact h9) (by rw [q1]; exact k6) (fun i hi => by have y := u1 i hi; rw [q1] at y; exact y) u2
    have hN' : ∀ g, hN H' g = hN H g := fun g => by
      match g with
      | 0 => show (H'.1 6).toInt = _; rw [q1]; rfl
      | 1 => show (H'.1 35).toInt = _; rw [q1]; rfl
      | p + 2 => show (H'.2 34 p).toInt = _; rw [q2 34 (by decide) (by decide)]; rfl
    have hM' : ∀ g i, hM H' g i = hM H g i := fun g i => by
      unfold hM
      match g with
      | 0 => show (H'.2 31 i).toNatClampNeg = _; rw [q2 31 (by decide) (by decide)]; rfl
      | 1 => show (H'.2 32 i).toNatClampNeg = _; rw [q2 32 (by decide) (by decide)]; rfl
      | p + 2 => show (H'.2 33 (9 * p + i)).toNatClampNeg = _; rw [q2 33 (by decide) (by decide)]; rfl
    have hT' : ∀ g, hT H' g ↔ hT H g := fun g => by
      match g with
      | 0 => exact Iff.rfl
      | 1 => show H'.1 36 ≠ 0 ↔ H.1 36 ≠ 0; rw [q1]
      | p + 2 => show H'.2 37 p ≠ 0 ↔ H.2 37 p ≠ 0; rw [q2 37 (by decide) (by decide)]
    have w3 := f2.ci.wf.w0 f2.k1
    have R4 := key (siC S3 (x + 3) 0 0) T3 (sI (sI (sR H' 31 u) 6 (H'.1 6 + H'.1 35)) 35 0) f3.2.2.2 (f2.sort o3 0) ((f3.x (D := fun z => z = x + 3)).tr (gX.si S3 (x + 3) 0 0)) (fun k y y2 => by
        show (if k = 35 then _ else if k = 6 then _ else H'.1 k) = H.1 k
        rw [if_neg y2, if_neg y, q1]) rfl (fun k y => if_neg y) I4.1 r1 (by rw [r2, hN', hN']) (fun p => by rw [r3, hN']) (fun i hi => by rw [r4 i (by rw [hN']; exact hi), hM']) (fun i hi => by rw [r5 i hi, hM']) (fun p i => by rw [r6, hM']) (fun g => (r7 g).trans (hT' g)) (by rw [gi_si, if_pos ⟨rfl, rfl⟩]) f4 f5 (fun p hp => f6 _ (fun y => by have := rP_inj (x := x) (g := p + 2) (g' := 1) y; omega) (fun y => by have := rP_inj (x := x) (g := p + 2) (g' := 0) y; omega))
    have h2 := f2.sort o3 0
    refine ⟨_, T3, c1, ?_, ((QU.rf h2).hI 6 (-1) (by omega)).1, R4.hc h2.ci h2.k1 ((hC'.rf x _).si 6 (-1) (Or.inl rfl)) (sH.I _ _ (by decide) (by decide) (by decide) (by decide) (by decide)) ⟨rfl, rfl, rfl, rfl, rfl⟩ ⟨rfl, rfl, rfl⟩ (R4.1.f6 (-1))⟩
    rw [q1]
  -- rows of what stood
  have lt1 : ∀ i, i < (T1 (x + 1)).length ↔ (i : Int) < hN H 0 := fun i => by omega
  by_cases z2 : H.1 36 = 0
  · obtain ⟨q, eq, mu, lq, hq⟩ := s1 z1 z2
    have hu : q ∈ T1 (x + 4) := by rw [hq]; exact List.mem_singleton.mpr rfl
    have kq := a.m3 hu
    have cq : c1 q = x := by rw [(a.ci.tk _ q hu).2]; exact a.1.cx 4 (by omega)
    have mu : mR S1 q H (hM H 1 0) := mu
    have nT : ¬ hT H 1 := fun t => t z2
    have one : hN H 1 = 1 := by have := n35.2.2 nT; omega
    have eq0 : (T1 (rP x 1)).getD 0 0 = q := by show (T1 (x + 4)).getD 0 0 = q; rw [hq]; rfl
    obtain ⟨rN, e8⟩ := r.nm a.ci a.k1 bN.2
    have U1 := (QU.rf a.1).aI 8 (giC S1 x 8 + 1)
    have n88 : giC (siC S1 x 8 (giC S1 x 8 + 1)) x 8 = giC S1 x 8 + 1 := by rw [gi_si, if_pos ⟨rfl, rfl⟩]
    have U := ((U1.mI (ik_si.mpr kq) cq 0 (giC S1 x 8 + 1) (by decide) (by omega)).mI (ik_si.mpr (ik_si.mpr kq)) cq 3 i (by decide) (by omega)).mI (ik_si.mpr (ik_si.mpr (ik_si.mpr kq))) cq 10 0 (by decide) (fun _ => bz0)
    have nx := mo_x a.ci a.k1 kq (j := 0) (by omega)
    have ec : f_Y1_bringUp S1 x i = b_Y1_bringUp_40 (siC (siC (siC (siC S1 x 8 (giC S1 x 8 + 1)) q 0 (giC S1 x 8 + 1)) q 3 i) q 10 0) x i (some q) := by
      unfold f_Y1_bringUp
      rw [a.g2, Option.getD_some, eq, if_neg (by simp), Option.getD_some, n88]
    -- the reference
    obtain ⟨H', el, q1, q2, q2m, q15⟩ : ∃ H', f_X11_move H i = lp_X11_move_77 100000 H' i 0 ∧ H'.1 = H.1 ∧ (∀ k, k ≠ 15 → k ≠ 23 → H'.2 k = H.2 k) ∧ (∀ k m', m' ≠ hM H 1 0 → H'.2 k m' = H.2 k m') ∧ H'.2 15 (hM H 1 0) = i := by
      have A : ∀ (W : HS), W.1 = H.1 → (∀ k, k ≠ 23 → W.2 k = H.2 k) → (∀ k m', m' ≠ hM H 1 0 → W.2 k m' = H.2 k m') → f_X11_move H i = lp_X11_move_77 100000 (sA W 15 (hM H 1 0) i) i 0 → ∃ H', f_X11_move H i = lp_X11_move_77 100000 H' i 0 ∧ H'.1 = H.1 ∧ (∀ k, k ≠ 15 → k ≠ 23 → H'.2 k = H.2 k) ∧ (∀ k m', m' ≠ hM H 1 0 → H'.2 k m' = H.2 k m') ∧ H'.2 15 (hM H 1 0) = i := fun W w1 w2 w3 e => by
        refine ⟨_, e, w1, fun k y y2 => ?_, fun k m' n => ?_, if_pos rfl⟩
        · show (if k = 15 then _ else W.2 k) = H.2 k
          rw [if_neg y]
          exact w2 k y2
        · show (if k = 15 then upd (W.2 15) (hM H 1 0) i else W.2 k) m' = H.2 k m'
          by_cases y : k = 15
          · rw [if_pos y, upd_ne n, y]
            exact w3 15 m' n
          · rw [if_neg y]
            exact w3 k m' n
      have A0 : f_X11_move H i = lp_X11_move_77 100000 (sA H 15 (hM H 1 0) i) i 0 → ∃ H', f_X11_move H i = lp_X11_move_77 100000 H' i 0 ∧ H'.1 = H.1 ∧ (∀ k, k ≠ 15 → k ≠ 23 → H'.2 k = H.2 k) ∧ (∀ k m', m' ≠ hM H 1 0 → H'.2 k m' = H.2 k m') ∧ H'.2 15 (hM H 1 0) = i := A H rfl (fun _ _ => rfl) (fun _ _ _ => rfl)
      have A1 : f_X11_move H i = lp_X11_move_77 100000 (sA (sA H 23 (hM H 1 0) (H.2 22 (f_X11_top H).1.toNatClampNeg)) 15 (hM H 1 0) i) i 0 → ∃ H', f_X11_move H i = lp_X11_move_77 100000 H' i 0 ∧ H'.1 = H.1 ∧ (∀ k, k ≠ 15 → k ≠ 23 → H'.2 k = H.2 k) ∧ (∀ k m', m' ≠ hM H 1 0 → H'.2 k m' = H.2 k m') ∧ H'.2 15 (hM H 1 0) = i := A (sA H 23 (hM H 1 0) (H.2 22 (f_X11_top H).1.toNatClampNeg)) rfl (fun k y => if_neg y) (fun k m' n => by
        show (if k = 23 then upd (H.2 23) (hM H 1 0) (H.2 22 (f_X11_top H).1.toNatClampNeg) else H.2 k) m' = H.2 k m'
        by_cases y : k = 23
        · rw [if_pos y, upd_ne n, y]
        · rw [if_neg y])
      have E0 : (f_X11_move H i = lp_X11_move_77 100000 (sA H 15 (hM H 1 0) i) i 0) ∨ (f_X11_move H i = lp_X11_move_77 100000 (sA (sA H 23 (hM H 1 0) (H.2 22 (f_X11_top H).1.toNatClampNeg)) 15 (hM H 1 0) i) i 0) := by
        unfold f_X11_move b_X11_move_34 b_X11_move_39 b_X11_move_a66 b_X11_move_68 b_X11_move_75
        rw [if_pos z2, m0, top_s]
        have n1 : ¬ (1 : Int32) = 0 := h10
        by_cases k2 : H.2 14 (hM H 1 0) = 2
        · rw [if_pos k2, if_neg n1]
          by_cases y : H.2 25 (hM H 1 0) = 0
          · rw [if_pos y]
            exact Or.inr rfl
          · rw [if_neg y]
            exact Or.inl rfl
        · rw [if_neg k2]
          by_cases k3 : H.2 14 (hM H 1 0) = 3
          · rw [if_pos k3, if_neg n1]
            by_cases y : H.2 25 (hM H 1 0) = 0
            · rw [if_pos y]
              exact Or.inr rfl
            · rw [if_neg y]
              exact Or.inl rfl
          · rw [if_neg k3, if_pos rfl]
            exact Or.inl rfl
      exact E0.elim A0 A1
    refine fin _ H' (some q) 0 0 q U.1 ec el q1 q2 (fun S4 T4 H4 n4 f2 f3 p1 p35 p2 hc2 r1 r2 r3 r4 r5 r6 r7 s4 eT1 eT0 eTp => ?_)
    generalize hB : siC S1 x 8 (giC S1 x 8 + 1) = SB at *
    have U1' := U1
    have gB : gX (D5 x q) SB (siC (siC (siC SB q 0 (giC S1 x 8 + 1)) q 3 i) q 10 0) := ((gX.si SB q 0 _).tr ((gX.si _ q 3 i).tr (gX.si _ q 10 0))).mo (fun z e => Or.inl (by rw [e]; exact ⟨Nat.le_refl _, Nat.le_add_right _ _⟩))
    have G : gX (D5 x q) SB S4 := gB.tr (f3.mo (fun z y => Or.inr (Or.inl y)))
    have kB : iK SB q 3 := kq.e U1.2.2
    have kC : iK (siC (siC (siC SB q 0 (giC S1 x 8 + 1)) q 3 i) q 10 0) q 3 := ik_si.mpr (ik_si.mpr (ik_si.mpr kB))
    have k4 : iK S4 q 3 := kC.n f3.1
    have cq4 : ∀ j, j < 4 → ∀ k, giC S4 (q + j) k = giC (siC (siC (siC SB q 0 (giC S1 x 8 + 1)) q 3 i) q 10 0) (q + j) k := f3.mo4 U.1.ci.wf kC (fun j hj y => (mo_x f2.ci f2.k1 k4 hj).2.1 y)
    have cB : ∀ z k, z ≠ x ∨ k ≠ 8 → giC SB z k = giC S1 z k := fun z k y => by
      rw [← hB, gi_si, if_neg (fun w => y.elim (fun f => f w.1) (fun f => f w.2))]
    have c4 : ∀ k, k ≠ 0 → k ≠ 3 → k ≠ 10 → giC S4 q k = giC S1 q k := fun k y0 y3 y10 => by
      refine (cq4 0 (by omega) k).trans ?_
      show giC (siC (siC (siC SB q 0 (giC S1 x 8 + 1)) q 3 i) q 10 0) q k = _
      rw [gi_si, if_neg (fun y => y10 y.2), gi_si, if_neg (fun y => y3 y.2), gi_si, if_neg (fun y => y0 y.2)]
      exact cB _ _ (Or.inl nx.1)
    have c4j : ∀ j, 0 < j → j < 4 → ∀ k, giC S4 (q + j) k = giC S1 (q + j) k := fun j hj hj' k => by
      rw [cq4 j hj' k, gi_si, if_neg (fun y => by omega), gi_si, if_neg (fun y => by omega), gi_si, if_neg (fun y => by omega)]
      exact cB _ _ (Or.inl (mo_x a.ci a.k1 kq hj').1)
    have c43 : giC S4 q 3 = i := by
      refine (cq4 0 (by omega) 3).trans ?_
      show giC (siC (siC (siC SB q 0 (giC S1 x 8 + 1)) q 3 i) q 10 0) q 3 = _
      rw [gi_si, if_neg (fun y => absurd y.2 (by decide)), gi_si, if_pos ⟨rfl, rfl⟩]
    have c40 : giC S4 q 0 = giC S1 x 8 + 1 := by
      refine (cq4 0 (by omega) 0).trans ?_
      show giC (siC (siC (siC SB q 0 (giC S1 x 8 + 1)) q 3 i) q 10 0) q 0 = _
      rw [gi_si, if_neg (fun y => absurd y.2 (by decide)), gi_si, if_neg (fun y => absurd y.2 (by decide)), gi_si, if_pos ⟨rfl, rfl⟩]
    have m4 : mR S4 q H4 (hM H 1 0) := mu.mx (p1 0 (by decide) (by decide)) (fun k y0 _ y3 y10 => c4 k y0 y3 y10) c4j (by rw [c43, p2 15 (by decide), q15]) (fun k h1 h2 y15 _ y23 _ => by rw [p2 k (by omega), q2 k y15 y23]) (fun i _ => by rw [p2 28 (by decide), q2 28 (by decide) (by decide)]) (fun i _ => by rw [p2 29 (by decide), q2 29 (by decide) (by decide)])
    obtain ⟨⟨K1, K2, K3, K4⟩, K8, Kc⟩ := frD (H2 := H4) rN U1.1.ci U1.1.k1 G f2.ci.wf (Or.inl k4) (fun z k => Or.inr (ik_si.mp (ik_si.mp (ik_si.mp (ik_b k f3.1 n4))))) (fun _ => m4.2.2.2.2.2.1.2) (fun k h1 h2 => p1 k h2 (by omega)) (p1 39 (by decide) (by decide)) ⟨by rw [p2 11 (by decide), q2 11 (by decide) (by decide)], by rw [p2 12 (by decide), q2 12 (by decide) (by decide)], by rw [p2 38 (by decide), q2 38 (by decide) (by decide)], by rw [p2 40 (by decide), q2 40 (by decide) (by decide)], by rw [p2 41 (by decide), q2 41 (by decide) (by decide)]⟩
    have n88 : giC SB x 8 = giC S1 x 8 + 1 := n88
    have e48 : giC S4 x 8 = giC S1 x 8 + 1 := (K8 8).trans n88
    have nm : ∀ g i, hL H g i → ¬ (g = 1 ∧ i = 0) → (T1 (rP x g)).getD i 0 ≠ q ∧ hM H g i ≠ hM H 1 0 := fun g i l n => by
      refine ⟨fun e => ?_, fun e => n (h.1.1.d l L1 e)⟩
      have u := q_uniq a.ci (r.2.1.mem l) (r.2.1.mem L1) (e.trans eq0.symm)
      exact n ⟨rP_inj u.1, u.2⟩
    have cs : ∀ g i, hL H g i → ¬ (g = 1 ∧ i = 0) → ∀ j, j < 4 → ∀ k, giC S4 ((T1 (rP x g)).getD i 0 + j) k = giC S1 ((T1 (rP x g)).getD i 0 + j) k := fun g i l n j hj k => by
      have kz := a.m3 (gD_mem (r.2.1.mem l))
      rw [Kc _ (kz.e U1.2.2) (nm g i l n).1 j hj k]
      exact cB _ _ (Or.inl (mo_x a.ci a.k1 kz hj).1)
    have st : ∀ p, p < 8 → giC S4 (x + 13 + 3 * p) 0 = giC S1 (x + 13 + 3 * p) 0 := fun p hp => by
      have o : pl x (x + 13 + 3 * p) := Or.inr ⟨p, hp, rfl⟩
      have nd := ik_ne (pl.lt a.ci a.k1 o) kq (by decide)
      rw [srt f3 U.1.ci U.1.k1 o (by omega), gi_si, if_neg (fun y => nd y.1), gi_si, if_neg (fun y => nd y.1), gi_si, if_neg (fun y => nd y.1)]
      exact cB _ _ (Or.inl (by omega))
    have n4' := r.2.2.2.2.2.2.2.2
    have hM0 : hM H4 0 (H.1 6).toNatClampNeg = hM H 1 0 := r4 0 (by omega)
    have eq4 : (T4 (rP x 0)).getD (H.1 6).toNatClampNeg 0 = q := by
      rw [eT0]
      show (T1 (x + 1) ++ T1 (x + 4)).getD _ 0 = q
      rw [hq]
      exact gD_end (by omega)
    refine r.ex (gs := 0) (is := (H.1 6).toNatClampNeg) h.1.1 hc2 K1 K2 K3 K4 (p1 0 (by decide) (by decide)) (fun g hg => ?_) ⟨fun _ => s4, fun y => absurd p35 y⟩ (fun p hp => ?_) ⟨by rw [e48]; omega, by rw [e48]; have := r.2.2.2.2.2.1.2; omega⟩ (fun s h1 h2 => by rw [p1 30 (by decide) (by decide)]; omega) (fun g i' l n => ?_) (fun _ => ?_) (fun _ t => absurd ((r7 0).mpr trivial) t) (fun _ _ => ⟨?_, fun _ => ?_, Or.inr ?_⟩) (fun _ j l t d k => ?_) (fun _ t => absurd ((r7 0).mpr trivial) t)
    · match g with
      | 0 =>
        rw [eT0, List.length_append, r2]
        have l0 := (r.2.1 0 (by omega)).1
        have l1 := (r.2.1 1 (by omega)).1
        omega
      | 1 =>
        rw [eT1, r1]
        rfl
      | p + 2 =>
        rw [eTp p (by omega), r3]
        exact (r.2.1 (p + 2) hg).1
    · rw [st p hp, p2 34 (by decide), q2 34 (by decide) (by decide), p2 37 (by decide), q2 37 (by decide) (by decide), p2 27 (by decide), q2 27 (by decide) (by decide), r6]
      exact r.2.2.1.2.1 p hp
    · have fin2 : hL H g i' → ¬ (g = 1 ∧ i' = 0) → hM H4 g i' = hM H g i' → (T4 (rP x g)).getD i' 0 = (T1 (rP x g)).getD i' 0 → ∃ g'' i'', oM S1 S4 T1 T4 x H H4 g i' g'' i'' := fun l' n' em et => by
        have y := (nm g i' l' n').2
        exact ⟨g, i', l', em, r7 g, fun _ => id, et, cs g i' l' n', fun k h1 h2 => by rw [p2 k (by omega)]; exact q2m k _ y, fun _ => by rw [p2 27 (by decide)]; exact q2m 27 _ y, fun n _ => by rw [p2 28 (by decide), q2 28 (by decide) (by decide)], fun n _ => by rw [p2 29 (by decide), q2 29 (by decide) (by decide)]⟩
      match g, l, n, fin2 with
      | 0, l, n, fin2 =>
        have l2 := l.2
        rw [r2, one] at l2
        have lt : i' < (H.1 6).toNatClampNeg := by
          have : i' ≠ (H.1 6).toNatClampNeg := fun y => n ⟨rfl, y⟩
          omega
        refine fin2 ⟨by omega, by omega⟩ (fun y => absurd y.1 (by decide)) (r5 i' lt) ?_
        rw [eT0]
        show (T1 (x + 1) ++ T1 (x + 4)).getD i' 0 = _
        rw [hq]
        exact gD_app (by omega)
      | 1, l, n, fin2 =>
        have l2 := l.2
        rw [r1] at l2
        omega
      | p + 2, l, n, fin2 =>
        have l2 := l.2
        rw [r3] at l2
        exact fin2 ⟨l.1, l2⟩ (fun y => by omega) (r6 p i') (by rw [eTp p (by have := l.1; omega)])
    · rw [eq4, hM0]
      exact m4
    · rw [hM0, p2 26 (by decide), q2 26 (by decide) (by decide)]
      exact o26 z2
    · rw [eq4, c40]
      intro y
      have := congrArg Int32.toInt y
      have b8 := r.2.2.2.2.2.1.1
      rw [e8, i0] at this
      omega
    · rw [eq4, c40, e48]
      omega
    · rw [hM0, p2 22 (by decide), q2 22 (by decide) (by decide)]
      exact (n4' j l t d k).2.2.2 1 L1 nT
  · have em := s0 (Or.inr z2)
    have ec : f_Y1_bringUp S1 x i = b_Y1_bringUp_40 S1 x i none := by
      unfold f_Y1_bringUp
      rw [a.g2, Option.getD_some, em, if_pos rfl]
    have el : f_X11_move H i = lp_X11_move_77 100000 H i 0 := by
      unfold f_X11_move b_X11_move_75
      rw [if_neg z2]
    have z6 := t1 z2
    have z6' := congrArg Int32.toInt z6
    rw [i0] at z6'
    refine fin S1 H none 10 0 0 a.1 ec el rfl (fun _ _ _ => rfl) (fun S4 T4 H4 n4 f2 f3 p1 p35 p2 hc2 r1 r2 r3 r4 r5 r6 r7 s4 eT1 eT0 eTp => ?_)
    have G : gX (D5 x S4.1) S1 S4 := f3.mo (fun z y => Or.inr (Or.inl y))
    obtain ⟨⟨K1, K2, K3, K4⟩, K8, Kc⟩ := frD (H2 := H4) r a.ci a.k1 G f2.ci.wf (Or.inr (Nat.le_refl _)) (fun z k => Or.inr (ik_b k f3.1 n4)) (fun k => absurd k.1 (Nat.lt_irrefl _)) (fun k h1 h2 => p1 k h2 (by omega)) (p1 39 (by decide) (by decide)) ⟨p2 11 (by decide), p2 12 (by decide), p2 38 (by decide), p2 40 (by decide), p2 41 (by decide)⟩
    have l00 : T1 (rP x 0) = [] := by
      have l := (r.2.1 0 (by omega)).1
      exact List.length_eq_zero_iff.mp (by omega)
    have k00 : (H.1 6).toNatClampNeg = 0 := by omega
    refine (r.ex (gs := 10) (is := 0) (N2 := N) h.1.1 hc2 K1 K2 K3 K4 (p1 0 (by decide) (by decide)) (fun g hg => ?_) ⟨fun _ => s4, fun y => absurd p35 y⟩ (fun p hp => ?_) ⟨by rw [K8]; exact Int.le_refl _, by rw [K8]; exact r.2.2.2.2.2.1.2⟩ (fun s h1 h2 => by rw [p1 30 (by decide) (by decide)]; omega) (fun g i' l n => ?_) (fun l => absurd l.1 (by omega)) (fun l => absurd l.1 (by omega)) (fun l => absurd l.1 (by omega)) (fun l => absurd l.1 (by omega)) (fun l => absurd l.1 (by omega))).up (by omega)
    · match g with
      | 0 =>
        rw [eT0, List.length_append, r2]
        have l0 := (r.2.1 0 (by omega)).1
        have l1 := (r.2.1 1 (by omega)).1
        omega
      | 1 =>
        rw [eT1, r1]
        rfl
      | p + 2 =>
        rw [eTp p (by omega), r3]
        exact (r.2.1 (p + 2) hg).1
    · have o : pl x (x + 13 + 3 * p) := Or.inr ⟨p, hp, rfl⟩
      rw [srt f3 a.ci a.k1 o (by omega), p2 34 (by decide), p2 37 (by decide), p2 27 (by decide), r6]
      exact r.2.2.1.2.1 p hp
    · have fin2 : ∀ g', hL H g' i' → hM H4 g i' = hM H g' i' → (hT H4 g ↔ hT H g') → (¬ hT H g' → 2 ≤ g' → 2 ≤ g) → (T4 (rP x g)).getD i' 0 = (T1 (rP x g')).getD i' 0 → ∃ g'' i'', oM S1 S4 T1 T4 x H H4 g i' g'' i'' := fun g' l' em tt g2 et => by
        have k := a.m3 (gD_mem (r.2.1.mem l'))
        exact ⟨g', i', l', em, tt, g2, et, Kc _ k (fun y => by have := k.1; have := G.1.1.1; omega), fun k h1 h2 => by rw [p2 k (by omega)], fun _ => by rw [p2 27 (by decide)], fun n _ => by rw [p2 28 (by decide)], fun n _ => by rw [p2 29 (by decide)]⟩
      match g, l, fin2 with
      | 0, l, fin2 =>
        have l2 := l.2
        rw [r2] at l2
        have e := r4 i' (by omega)
        rw [k00, Nat.zero_add] at e
        refine fin2 1 ⟨by omega, by omega⟩ e ⟨fun _ => z2, fun _ => (r7 0).mpr trivial⟩ (fun t => absurd z2 t) ?_
        rw [eT0, l00]
        rfl
      | 1, l, fin2 =>
        have l2 := l.2
        rw [r1] at l2
        omega
      | p + 2, l, fin2 =>
        have l2 := l.2
        rw [r3] at l2
        exact fin2 (p + 2) ⟨l.1, l2⟩ (r6 p i') (r7 _) (fun _ => id) (by rw [eTp p (by have := l.1; omega)])
end
