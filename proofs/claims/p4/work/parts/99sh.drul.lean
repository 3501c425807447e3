/-! ===== the deeds: a ruling ===== -/
section
variable {wF : Prop × (Nat → Int32) × Int32 × (Nat → Int32)} {E : Nat → Prop} {x : Nat} {S S1 S2 S3 : Cst} {T T1 T2 : Nat → List Nat} {F F1 : List Nat} {col c1 : Nat → Nat} {H H2 H3 : HS} {N N2 M M2 : Int} {D : Nat → Prop}
theorem gD_app {l : List Nat} {q i : Nat} (h : i < l.length) : (l ++ [q]).getD i 0 = l.getD i 0 := by
  rw [List.getD_eq_getElem?_getD, List.getD_eq_getElem?_getD, List.getElem?_append_left h]
theorem gD_end {l : List Nat} {q i : Nat} (h : i = l.length) : (l ++ [q]).getD i 0 = q := by
  rw [List.getD_eq_getElem?_getD, List.getElem?_append_right (by omega), h, Nat.sub_self]
  rfl
theorem ds_19 (a : AS x S T col S1 T1 c1) (r : RR wF N S1 T1 x H) (h : HA H) (bN : 0 ≤ N ∧ N ≤ 1000000) (i b c d : Int32) (hp6 : 1 ≤ (H.1 6).toInt ∧ (H.1 6).toInt ≤ 8) : DS wF (N + 1) x S T col (f_Y1_perform S1 x 19 i b c d) (f_X11_does H 19 i b c d) := by
  have w0 := a.w0
  -- the class
  have b1 := mT_b a.ci a.k1
  have b2 := l1_b a.ci a.k1
  have b3 := l4_b a.ci a.k1
  have ln := rr_n r.2.1
  have hl : (T1 (x + 1)).length < 9 := by omega
  obtain ⟨S3, T3, q, c3, g1, g2, g3, g4, g5, g6, g7, g8, g9⟩ := newMot_v a.1 (fun z => by rw [z] at b1; simp only [List.length_nil] at b1 ⊢; omega) 9 r.2.2.2.2.1.2.1
  have w3 := g2.ci.wf.w0 g2.k1
  have u := (QU.rf g2).mI g8 (g2.fc q (List.mem_cons_self ..)) 3 (giC S3 (x + 37) 3) (by omega) (by omega)
  have w4 := u.w0
  have hT3 : T3 (x + 1) = T1 (x + 1) := g6 _ (by omega)
  obtain ⟨-, S5, r2, r3, r4, -⟩ := y_put u.1 (P := x + 1) (noE_n _) (Or.inr (Or.inl rfl)) (by omega) (by rw [hT3]; exact hl)
  have e1 : f_Y1_perform S1 x 19 i b c d = (9, S5) := by
    unfold f_Y1_perform b_Y1_perform_280a f_Y1_putRuling b_Y1_putRuling_6a b_Y1_putRuling_26a
    rw [if_neg (by decide), if_neg (by decide), if_neg (by decide), if_neg (by decide), if_neg (by decide), if_neg (by decide), if_neg (by decide), if_neg (by decide), if_neg (by decide), if_neg (by decide), if_neg (by decide), if_neg (by decide), if_neg (by decide), if_neg (by decide), if_neg (by decide), if_neg (by decide), if_neg (by decide), if_neg (by decide), if_pos rfl, g1]
    simp only [Option.getD_some]
    rw [w3.2.1.1, Option.getD_some, w4.2.1.2.1, Option.getD_some, r2]
  have k3 : iK (siC S3 q 3 (giC S3 (x + 37) 3)) q 3 := ik_si.mpr g8
  have kq : iK S5 q 3 := k3.n r4.1
  have n35 : S5.1 = S3.1 := r4.2.2.2
  have gq : gX (dM q) S3 (siC S3 q 3 (giC S3 (x + 37) 3)) := (gX.si S3 q 3 (giC S3 (x + 37) 3)).mo (fun z y => by rw [y]; exact ⟨Nat.le_refl _, Nat.le_add_right _ _⟩)
  have G : gX (D5 x q) S1 S5 := (g3.mo (fun z y => Or.inl y)).tr ((gq.mo (fun z y => Or.inl y)).tr (r4.x (D := D5 x q)))
  have cq : ∀ j, j < 4 → ∀ i, giC S5 (q + j) i = giC (siC S3 q 3 (giC S3 (x + 37) 3)) (q + j) i := (r4.x (D := fun _ => False)).mo4 u.1.ci.wf k3 (fun j hj y => y)
  have cq3 : ∀ i, i ≠ 3 → giC S5 q i = giC S3 q i := fun i n => by
    exact (cq 0 (by omega) i).trans (gi_o n)
  have cqj : ∀ j i, 0 < j → j < 4 → giC S5 (q + j) i = giC S3 (q + j) i := fun j i h1 h2 => by
    rw [cq j h2 i, gi_si, if_neg (fun y => by omega)]
  have chr : giC S3 (x + 37) 3 = H.1 2 := by
    have k37 := a.w0.1.1
    rw [g3.2.1 _ k37.1 (by rw [k37.2]; decide) (dM_h r3.ci r3.k1 kq).1]
    exact r.1.1.2.2.1
  have cq33 : giC S5 q 3 = H.1 2 := by
    refine (cq 0 (by omega) 3).trans ?_
    show giC (siC S3 q 3 (giC S3 (x + 37) 3)) q 3 = _
    rw [gi_si, if_pos ⟨rfl, rfl⟩]
    exact chr
  obtain ⟨⟨m0, m1, m2, -, m4, m5, m6⟩, ⟨m7, m8, m9, m10, m11⟩, mv, m14⟩ := g4
  have tx : giC S5 (q + 1) 1 = 0 := (cqj 1 1 (by omega) (by omega)).trans g5
  have mv' : ∀ s, s < 200 → giC S5 (q + 3) s = 0 := fun s hs => (cqj 3 s (by omega) (by omega)).trans (mv s hs)
  have m14' : (giC S5 q 14).toInt = 0 := by rw [cq3 14 (by decide)]; exact m14
  -- the reference
  have DO2 := (d_19 h.1 h.2.1.1 (by have := h.2.1.2; omega) hp6.1 hp6.2 19 i b c d).2
  obtain ⟨z, u', z1, z2, z3, z4, z5⟩ := newSlot_v 9 (slot_free h.1.1 0 (by omega) (by show (H.1 6).toInt ≤ 8; omega))
  have z3 : f_X11_newSlot H 9 = (z, nwH H 9 z u') := z3
  have zz := nwH_z H 9 z u'
  have zo := fun {m : Nat} (y : m ≠ z.toNatClampNeg) {j : Nat} h1 h2 => nwH_o H 9 z u' y (j := j) h1 h2
  have z130 : (nwH H 9 z u').1 30 = H.1 30 + 1 := rfl
  have zi := fun {j : Nat} (y : j ≠ 30) => nwH_1 H 9 z u' (j := j) y
  have zq : ∀ j, j ≠ 13 → j ≤ 12 ∨ j = 28 ∨ 30 ≤ j → (nwH H 9 z u').2 j = H.2 j := fun j y y2 => by
    show (if j = 16 then _ else if j = 29 then _ else if j = 24 then _ else if j = 18 then _ else if j = 17 then _ else if j = 22 then _ else if j = 27 then _ else if j = 26 then _ else if j = 25 then _ else if j = 23 then _ else if j = 21 then _ else if j = 20 then _ else if j = 19 then _ else if j = 15 then _ else if j = 14 then _ else if j = 13 then _ else H.2 j) = H.2 j
    repeat rw [if_neg (by omega)]
  have z29 : (nwH H 9 z u').2 29 = u' := rfl
  have e2 : f_X11_does H 19 i b c d = (9, sI (sA (sA (nwH H 9 z u') 15 z.toNatClampNeg ((nwH H 9 z u').1 2)) 31 ((nwH H 9 z u').1 6).toNatClampNeg z) 6 ((nwH H 9 z u').1 6 + 1)) := by
    have e : f_X11_does H 19 i b c d = b_X11_does_a443 (f_X11_newSlot H 9).2 19 i b c d (f_X11_newSlot H 9).1 := rfl
    rw [e, z3]
    rfl
  have e3 : (b_X11_does_a443 (f_X11_newSlot H 9).2 19 i b c d (f_X11_newSlot H 9).1).2 = sI (sA (sA (nwH H 9 z u') 15 z.toNatClampNeg ((nwH H 9 z u').1 2)) 31 ((nwH H 9 z u').1 6).toNatClampNeg z) 6 ((nwH H 9 z u').1 6 + 1) := by
    rw [z3]
    rfl
  rw [e3] at DO2
  rw [e1, e2]
  have k2 : (nwH H 9 z u').1 2 = H.1 2 := zi (by decide)
  have k6 : (nwH H 9 z u').1 6 = H.1 6 := zi (by decide)
  rw [k2, k6] at DO2 ⊢
  clear e1 e2 e3 z3
  generalize nwH H 9 z u' = K at *
  obtain ⟨H5, hH5⟩ : ∃ H5, H5 = sI (sA (sA K 15 z.toNatClampNeg (H.1 2)) 31 (H.1 6).toNatClampNeg z) 6 (H.1 6 + 1) := ⟨_, rfl⟩
  rw [← hH5] at DO2 ⊢
  have p6 := iAdd (x := H.1 6) (y := 1) (by rw [i1]; omega) (by rw [i1]; omega)
  rw [i1] at p6
  have n6 := iNat (x := H.1 6) (by omega)
  have q1 : ∀ j, j ≠ 30 → j ≠ 6 → H5.1 j = H.1 j := fun j y y2 => by
    rw [hH5]
    show (if j = 6 then _ else K.1 j) = H.1 j
    rw [if_neg y2]
    exact zi y
  have q6 : (H5.1 6).toInt = (H.1 6).toInt + 1 := by rw [hH5]; exact p6
  have q30 : H5.1 30 = H.1 30 + 1 := by rw [hH5]; exact z130
  have q2 : ∀ j, j ≠ 15 → j ≠ 31 → H5.2 j = K.2 j := fun j y y2 => by
    rw [hH5]
    show (if j = 31 then _ else if j = 15 then _ else K.2 j) = K.2 j
    rw [if_neg y2, if_neg y]
  have q15 : H5.2 15 z.toNatClampNeg = H.1 2 := by rw [hH5]; exact if_pos rfl
  have q15o : ∀ m, m ≠ z.toNatClampNeg → H5.2 15 m = K.2 15 m := fun m y => by rw [hH5]; exact if_neg y
  have q31 : H5.2 31 (H.1 6).toNatClampNeg = z := by rw [hH5]; exact if_pos rfl
  have q31o : ∀ m, m ≠ (H.1 6).toNatClampNeg → H5.2 31 m = H.2 31 m := fun m y => by
    rw [hH5]
    exact (if_neg y).trans (congrFun (zq 31 (by decide) (Or.inr (Or.inr (by decide)))) m)
  clear hH5
  have q3 : ∀ j, j ≠ 13 → j ≠ 31 → j ≤ 12 ∨ j = 28 ∨ 30 ≤ j → H5.2 j = H.2 j := fun j y y1 y2 => (q2 j (by omega) y1).trans (zq j y y2)
  have hN5 : ∀ g, g ≠ 0 → hN H5 g = hN H g := fun g n => by
    match g, n with
    | 1, _ => show (H5.1 35).toInt = _; rw [q1 35 (by decide) (by decide)]; rfl
    | p + 2, _ => show (H5.2 34 p).toInt = _; rw [q3 34 (by decide) (by decide) (by omega)]; rfl
  have hM5 : ∀ g i, g ≠ 0 → hM H5 g i = hM H g i := fun g i n => by
    unfold hM
    match g, n with
    | 1, _ => show (H5.2 32 i).toNatClampNeg = _; rw [q3 32 (by decide) (by decide) (by omega)]; rfl
    | p + 2, _ => show (H5.2 33 (9 * p + i)).toNatClampNeg = _; rw [q3 33 (by decide) (by decide) (by omega)]; rfl
  have hT5 : ∀ g, (hT H5 g ↔ hT H g) := fun g => by
    match g with
    | 0 => exact Iff.rfl
    | 1 => show H5.1 36 ≠ 0 ↔ H.1 36 ≠ 0; rw [q1 36 (by decide) (by decide)]
    | p + 2 => show H5.2 37 p ≠ 0 ↔ H.2 37 p ≠ 0; rw [q3 37 (by decide) (by decide) (by omega)]
  have hN0 : hN H5 0 = (H.1 6).toInt + 1 := q6
  have hM0 : hM H5 0 (H.1 6).toNatClampNeg = z.toNatClampNeg := by show (H5.2 31 (H.1 6).toNatClampNeg).toNatClampNeg = _; rw [q31]
  have hM0o : ∀ i, i ≠ (H.1 6).toNatClampNeg → hM H5 0 i = hM H 0 i := fun i y => by show (H5.2 31 i).toNatClampNeg = _; rw [q31o i y]; rfl
  have nz : ∀ g i, hL H g i → hM H g i ≠ z.toNatClampNeg := fun g i l y => by
    have us := (h.1.1.2.1 g i l).2.2
    rw [y] at us
    exact us z2
  have eT : ∀ g, g < 10 → g ≠ 0 → tU T3 (x + 1) (T3 (x + 1) ++ [q]) (rP x g) = T1 (rP x g) := fun g hg n => by
    have ne : rP x g ≠ x + 1 := fun y => n (rP_inj (x := x) (g := g) (g' := 0) y)
    rw [tU_ne _ _ ne, g6 _ (rP_own hg).2]
  have eT0 : tU T3 (x + 1) (T3 (x + 1) ++ [q]) (rP x 0) = T1 (x + 1) ++ [q] := by
    show tU T3 (x + 1) (T3 (x + 1) ++ [q]) (x + 1) = T1 (x + 1) ++ [q]
    rw [tU_at, hT3]
  obtain ⟨⟨K1, K2, K3, K4⟩, K8, Kc⟩ := frD (H2 := H5) r a.ci a.k1 G r3.ci.wf (Or.inl kq) (fun z k => g7 z (ik_si.mp (ik_b k r4.1 n35))) (fun _ => by rw [m14', vCn_0s 200 mv']; rfl) (fun k h1 h2 => q1 k (by omega) h2) (q1 39 (by decide) (by decide)) ⟨q3 11 (by decide) (by decide) (by omega), q3 12 (by decide) (by decide) (by omega), q3 38 (by decide) (by decide) (by omega), q3 40 (by decide) (by decide) (by omega), q3 41 (by decide) (by decide) (by omega)⟩
  have st : ∀ d, pl x d → giC S5 d 0 = giC S1 d 0 := fun d o => by
    have k2 := o.lt a.ci a.k1
    have k5 := o.lt r3.ci r3.k1
    have nq : ¬ dM q d := by
      rcases o with rfl | ⟨p, hp, rfl⟩
      · exact (dM_x r3.ci r3.k1 kq).2.1
      · exact (dM_x r3.ci r3.k1 kq).2.2.2.2.2.2 p hp
    have g35 : gX (dM q) S1 S5 := g3.tr (gq.tr r4.x)
    exact g35.2.1 d k2.1 (by rw [k2.2]; decide) nq 0
  have nq1 : ∀ g i, hL H g i → (T1 (rP x g)).getD i 0 ≠ q := fun g i l w => by
    have m : (T1 (rP x g)).getD i 0 ∈ T1 (rP x g) := gD_mem (r.2.1.mem l)
    rw [w] at m
    exact g9 _ (rP_own l.1).2 m
  refine ⟨S5, _, c3, rfl, r3, r.ex (gs := 0) (is := (H.1 6).toNatClampNeg) h.1.1 DO2.1.1 K1 K2 K3 K4 (q1 0 (by decide) (by decide)) (fun g hg => ?_) ⟨fun y => ?_, fun y => ?_⟩ (fun p hp => ⟨fun y => ?_, fun y => ?_⟩) ⟨?_, ?_⟩ (fun s h1 h2 => ?_) (fun g i l n => ?_) (fun _ => ?_) (fun _ t => absurd trivial t) (fun _ _ => ⟨?_, fun y => absurd ?_ y, Or.inl ?_⟩) (fun _ j l t d k => ?_) (fun _ t => absurd trivial t)⟩
  · by_cases y : g = 0
    · rw [y, eT0, hN0, List.length_append]
      show ((T1 (x + 1)).length + 1 : Nat) = (H.1 6).toInt + 1
      omega
    · rw [eT g hg y, hN5 g y]
      exact (r.2.1 g hg).1
  · rw [q1 35 (by decide) (by decide)] at y
    rw [st _ (Or.inl rfl)]
    exact r.2.2.1.1.1 y
  · rw [q1 35 (by decide) (by decide)] at y
    rw [st _ (Or.inl rfl), q1 36 (by decide) (by decide)]
    exact r.2.2.1.1.2 y
  · rw [q3 34 (by decide) (by decide) (by omega)] at y
    rw [st _ (Or.inr ⟨p, hp, rfl⟩)]
    exact (r.2.2.1.2.1 p hp).1 y
  · rw [q3 34 (by decide) (by decide) (by omega)] at y
    rw [st _ (Or.inr ⟨p, hp, rfl⟩), q3 37 (by decide) (by decide) (by omega), hM5 _ _ (by omega), q2 27 (by decide) (by decide), (r.2.2.1.2.1 p hp).2 y]
    have y' := mt iEq.mpr y
    rw [i0] at y'
    have b := (h.1.1.1 (p + 2) (by omega)).1
    have l : hL H (p + 2) 0 := ⟨by omega, by show ((0 : Nat) : Int) < (H.2 34 p).toInt; have : hN H (p + 2) = (H.2 34 p).toInt := rfl; omega⟩
    rw [zo (nz _ _ l) (by omega) (by omega)]
  · rw [K8]
    exact Int.le_refl _
  · rw [K8]
    have := r.2.2.2.2.2.1.2
    omega
  · rw [q30, ageS ⟨h1, h2⟩ bN.2]
    omega
  · have l' : hL H g i ∧ hM H5 g i = hM H g i ∧ (tU T3 (x + 1) (T3 (x + 1) ++ [q]) (rP x g)).getD i 0 = (T1 (rP x g)).getD i 0 := by
      by_cases y : g = 0
      · subst y
        have l2 := l.2
        rw [hN0] at l2
        have ne : i ≠ (H.1 6).toNatClampNeg := fun w => n ⟨rfl, w⟩
        refine ⟨⟨by omega, by show (i : Int) < (H.1 6).toInt; omega⟩, hM0o i ne, ?_⟩
        rw [eT0]
        exact gD_app (by omega)
      · exact ⟨⟨l.1, by rw [← hN5 g y]; exact l.2⟩, hM5 g i y, by rw [eT g l.1 y]⟩
    obtain ⟨l', em, et⟩ := l'
    have kz := a.m3 (gD_mem (r.2.1.mem l'))
    have nz' := nz g i l'
    refine ⟨g, i, l', em, hT5 g, fun _ => id, et, Kc _ kz (nq1 g i l'), fun k h1 h2 => ?_, fun _ => ?_, fun n' hn => ?_, fun n' hn => ?_⟩
    · by_cases y : k = 15
      · rw [y, q15o _ nz']
        exact zo nz' (by omega) (by omega)
      · rw [q2 k y (by omega)]
        exact zo nz' h1 (by omega)
    · rw [q2 27 (by decide) (by decide)]
      exact zo nz' (by omega) (by omega)
    · rw [q3 28 (by decide) (by decide) (by omega)]
    · rw [q2 29 (by decide) (by decide), z29]
      exact z5 _ _ nz' hn
  · rw [eT0, gD_end (by omega), hM0]
    have o := fun j (y : j ≠ 15) (y2 : j ≠ 31) => congrFun (q2 j y y2) z.toNatClampNeg
    refine mR_new (k := 9) (w := H.1 2) ⟨(cq3 2 (by decide)).trans m2, cq33, (cq3 4 (by decide)).trans m4, (cq3 5 (by decide)).trans m5, (cq3 6 (by decide)).trans m6⟩ ⟨(cq3 7 (by decide)).trans m7, (cq3 8 (by decide)).trans m8, (cq3 9 (by decide)).trans m9, (cq3 11 (by decide)).trans m11⟩ mv' m14' tx ⟨(o 14 (by decide) (by decide)).trans zz.1.1, q15, (o 16 (by decide) (by decide)).trans zz.1.2.2.1, (o 17 (by decide) (by decide)).trans zz.1.2.2.2.1, (o 18 (by decide) (by decide)).trans zz.1.2.2.2.2⟩ ⟨(o 19 (by decide) (by decide)).trans zz.2.1.1, (o 20 (by decide) (by decide)).trans zz.2.1.2.1, (o 21 (by decide) (by decide)).trans zz.2.1.2.2.1, (o 24 (by decide) (by decide)).trans zz.2.2.1, (o 26 (by decide) (by decide)).trans zz.2.2.2.2.1⟩ (fun s hs => ?_)
    rw [q2 29 (by decide) (by decide), z29]
    exact z4 s hs
  · rw [hM0, q2 26 (by decide) (by decide)]
    exact zz.2.2.2.2.1
  · rw [hM0, q2 14 (by decide) (by decide)]
    exact zz.1.1
  · rw [eT0, gD_end (by omega)]
    exact (cq3 0 (by decide)).trans m0
  · rw [hM0, q2 22 (by decide) (by decide), zz.2.1.2.2.2.1]
    have ag := (r.2.2.2.2.2.2.2.2 j l t d k).2.1
    exact ageN ag bN.2
end
