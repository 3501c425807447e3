/-! ===== the deeds: a new draft, a ruling, adjourning ===== -/
section
variable {wF : Prop × (Nat → Int32) × Int32 × (Nat → Int32)} {E : Nat → Prop} {x : Nat} {S S1 S2 S3 : Cst} {T T1 T2 : Nat → List Nat} {F F1 : List Nat} {col c1 : Nat → Nat} {H H2 H3 : HS} {N N2 M M2 : Int} {D : Nat → Prop}
theorem ds_10 (a : AS x S T col S1 T1 c1) (r : RR wF N S1 T1 x H) (h : HA H) (bN : 0 ≤ N ∧ N ≤ 1000000) (i b c d : Int32) (hi : 1 ≤ i.toInt ∧ i.toInt ≤ 8) : DS wF (N + 1) x S T col (f_Y1_perform S1 x 10 i b c d) (f_X11_does H 10 i b c d) := by
  have o3 : pl x (x + 3) := Or.inl rfl
  have w0 := a.w0
  -- the class
  obtain ⟨-, S2, T2, f1, f2, f3, f4, f5, f6⟩ := y_discard a.1 o3 (noE_n _)
  have n12 := n1_discard a.1 o3 (noE_n _) f1
  have b1 := mT_b f2.ci f2.k1
  have b2 := l1_b f2.ci f2.k1
  have b3 : (T2 (x + 4)).length = 0 := by rw [f5]; rfl
  have sv2 : sV S2 := r.2.2.2.2.1.2.1.gx f3 a.ci.wf (fun q k j hj y => (mo_x a.ci a.k1 k hj).2.1 y) (fun q k => ik_b k f3.1 n12)
  obtain ⟨S3, T3, q, c3, g1, g2, g3, g4, g5, g6, g7, g8, g9⟩ := newMot_v f2 (fun z => by rw [z] at b1; simp only [List.length_nil] at b1 ⊢; omega) i sv2
  have hT3 : T3 (x + 3 + 1) = [] := by rw [g6 _ (by omega)]; exact f5
  obtain ⟨-, S4, r2, r3, r4, r5⟩ := y_hold g2 2 o3 (noE_n _) (by rw [hT3]; decide)
  have n34 := n1_hold g2 2 o3 (noE_n _) (by rw [hT3]; decide) r2
  have w2 := f2.ci.wf.w0 f2.k1
  have e1 : f_Y1_perform S1 x 10 i b c d = (i, S4) := by
    unfold f_Y1_perform b_Y1_perform_199a f_Y1_begin b_Y1_begin_8a b_Y1_begin_18a b_Y1_begin_21a
    rw [if_neg (by decide), if_neg (by decide), if_neg (by decide), if_neg (by decide), if_neg (by decide), if_neg (by decide), if_neg (by decide), if_neg (by decide), if_neg (by decide), if_pos rfl, a.g2, Option.getD_some, f1, g1, w2.2.1.2.2.1]
    simp only [Option.getD_some, r2]
  have kq : iK S4 q 3 := g8.n r4.1
  have G : gX (D5 x q) S1 S4 := (f3.mo (fun z y => Or.inr (Or.inl y))).tr ((g3.mo (fun z y => Or.inl y)).tr (r4.mo (fun z y => Or.inr (Or.inl y))))
  have cq : ∀ j, j < 4 → ∀ i, giC S4 (q + j) i = giC S3 (q + j) i := r4.mo4 g2.ci.wf g8 (fun j hj y => (mo_x r3.ci r3.k1 kq hj).2.1 y)
  have nm := g4.cg cq
  have tx : giC S4 (q + 1) 1 = 0 := (cq 1 (by omega) 1).trans g5
  -- the reference
  obtain ⟨uD, d1, d2, d3⟩ := dropDraft_e h.1.1
  have hD := dropDraft_i h.1
  have DO2 := (d_10 h.1 h.2.1.1 (by have := h.2.1.2; omega) hi 10 b c d).2
  rw [d1] at hD DO2
  have n0 : hN (sI (sR H 13 uD) 35 0) 1 = 0 := rfl
  obtain ⟨z, u, z1, z2, z3, z4, z5⟩ := newSlot_v i (slot_free hD.1.1 1 (by omega) (by rw [n0]; omega))
  have z3 : f_X11_newSlot (sI (sR H 13 uD) 35 0) i = (z, nwH (sI (sR H 13 uD) 35 0) i z u) := z3
  have z2 : uD z.toNatClampNeg = 0 := z2
  have e2 : f_X11_does H 10 i b c d = (i, sI (sI (sA (nwH (sI (sR H 13 uD) 35 0) i z u) 32 0 z) 35 1) 36 0) := by
    have e : f_X11_does H 10 i b c d = b_X11_does_a287 (f_X11_dropDraft H).2 10 i b c d := rfl
    rw [e, d1]
    unfold b_X11_does_a287 b_X11_does_a297
    rw [z3, zn0]
  have e3 : (b_X11_does_a287 (sI (sR H 13 uD) 35 0) 10 i b c d).2 = sI (sI (sA (nwH (sI (sR H 13 uD) 35 0) i z u) 32 0 z) 35 1) 36 0 := by
    unfold b_X11_does_a287 b_X11_does_a297
    rw [z3, zn0]
  rw [e3] at DO2
  rw [e1, e2]
  have zz := nwH_z (sI (sR H 13 uD) 35 0) i z u
  have zo := fun {m : Nat} (y : m ≠ z.toNatClampNeg) {j : Nat} h1 h2 => nwH_o (sI (sR H 13 uD) 35 0) i z u y (j := j) h1 h2
  have z130 : (nwH (sI (sR H 13 uD) 35 0) i z u).1 30 = H.1 30 + 1 := rfl
  have zi := fun {j : Nat} (y : j ≠ 30) => nwH_1 (sI (sR H 13 uD) 35 0) i z u (j := j) y
  have z31 : (nwH (sI (sR H 13 uD) 35 0) i z u).2 31 = H.2 31 := rfl
  have z33 : (nwH (sI (sR H 13 uD) 35 0) i z u).2 33 = H.2 33 := rfl
  have z34 : (nwH (sI (sR H 13 uD) 35 0) i z u).2 34 = H.2 34 := rfl
  have z37 : (nwH (sI (sR H 13 uD) 35 0) i z u).2 37 = H.2 37 := rfl
  have z28 : (nwH (sI (sR H 13 uD) 35 0) i z u).2 28 = H.2 28 := rfl
  have z29 : (nwH (sI (sR H 13 uD) 35 0) i z u).2 29 = u := rfl
  have zr : (nwH (sI (sR H 13 uD) 35 0) i z u).2 11 = H.2 11 ∧ (nwH (sI (sR H 13 uD) 35 0) i z u).2 12 = H.2 12 ∧ (nwH (sI (sR H 13 uD) 35 0) i z u).2 38 = H.2 38 ∧ (nwH (sI (sR H 13 uD) 35 0) i z u).2 40 = H.2 40 ∧ (nwH (sI (sR H 13 uD) 35 0) i z u).2 41 = H.2 41 := ⟨rfl, rfl, rfl, rfl, rfl⟩
  have z5 : ∀ m i, m ≠ z.toNatClampNeg → i < 200 → u (200 * m + i) = H.2 29 (200 * m + i) := z5
  have zo2 : ∀ m, m ≠ z.toNatClampNeg → ∀ j, 14 ≤ j → j ≤ 27 → (nwH (sI (sR H 13 uD) 35 0) i z u).2 j m = H.2 j m := fun m y j h1 h2 => by
    rw [zo y h1 h2]
    show (if j = 13 then uD else H.2 j) m = H.2 j m
    rw [if_neg (by omega)]
  have zi2 : ∀ j, j ≠ 30 → j ≠ 35 → (nwH (sI (sR H 13 uD) 35 0) i z u).1 j = H.1 j := fun j y y2 => by
    rw [zi y]
    exact if_neg y2
  clear zi
  generalize nwH (sI (sR H 13 uD) 35 0) i z u = K at *
  obtain ⟨H4, hH4⟩ : ∃ H4, H4 = sI (sI (sA K 32 0 z) 35 1) 36 0 := ⟨_, rfl⟩
  rw [← hH4] at DO2 ⊢
  have q1 : ∀ j, j ≠ 30 → j ≠ 35 → j ≠ 36 → H4.1 j = H.1 j := fun j y y2 y3 => by
    rw [hH4]
    show (if j = 36 then 0 else if j = 35 then 1 else K.1 j) = H.1 j
    rw [if_neg y3, if_neg y2]
    exact zi2 j y y2
  have q35 : H4.1 35 = 1 := by rw [hH4]; rfl
  have q36 : H4.1 36 = 0 := by rw [hH4]; rfl
  have q30 : H4.1 30 = H.1 30 + 1 := by rw [hH4]; exact z130
  have q2 : ∀ j, j ≠ 32 → H4.2 j = K.2 j := fun j y => by rw [hH4]; exact if_neg y
  have q32 : H4.2 32 0 = z := by rw [hH4]; rfl
  clear hH4
  have hN4 : ∀ g, g ≠ 1 → hN H4 g = hN H g := fun g n => by
    match g, n with
    | 0, _ => show (H4.1 6).toInt = _; rw [q1 6 (by decide) (by decide) (by decide)]; rfl
    | p + 2, _ => show (H4.2 34 p).toInt = _; rw [q2 34 (by decide), z34]; rfl
  have hM4 : ∀ g i, g ≠ 1 → hM H4 g i = hM H g i := fun g i n => by
    unfold hM
    match g, n with
    | 0, _ => show (H4.2 31 i).toNatClampNeg = _; rw [q2 31 (by decide), z31]; rfl
    | p + 2, _ => show (H4.2 33 (9 * p + i)).toNatClampNeg = _; rw [q2 33 (by decide), z33]; rfl
  have hT4 : ∀ g, g ≠ 1 → (hT H4 g ↔ hT H g) := fun g n => by
    match g, n with
    | 0, _ => exact Iff.rfl
    | p + 2, _ => show H4.2 37 p ≠ 0 ↔ H.2 37 p ≠ 0; rw [q2 37 (by decide), z37]
  have hN1 : hN H4 1 = 1 := by show (H4.1 35).toInt = 1; rw [q35]; rfl
  have hM1 : hM H4 1 0 = z.toNatClampNeg := by show (H4.2 32 0).toNatClampNeg = _; rw [q32]
  have nz : ∀ g i, g ≠ 1 → hL H g i → hM H g i ≠ z.toNatClampNeg := fun g i n l y => by
    have us := (h.1.1.2.1 g i l).2.2
    have e := d3 (hM H g i) (fun i' l' w => n (h.1.1.d l' l w).1.symm)
    rw [y, z2] at e
    rw [y] at us
    exact us e.symm
  have eT : ∀ g, g < 10 → g ≠ 1 → tU T3 (x + 3 + 1) (T3 (x + 3 + 1) ++ [q]) (rP x g) = T1 (rP x g) := fun g hg n => by
    have ne : rP x g ≠ x + 3 + 1 := fun y => n (rP_inj (x := x) (g := g) (g' := 1) y)
    rw [tU_ne _ _ ne, g6 _ (rP_own hg).2, f6 _ ne (rP_own hg).2]
  have eT1 : tU T3 (x + 3 + 1) (T3 (x + 3 + 1) ++ [q]) (rP x 1) = [q] := by
    show tU T3 (x + 3 + 1) (T3 (x + 3 + 1) ++ [q]) (x + 3 + 1) = [q]
    rw [tU_at, hT3]
    rfl
  obtain ⟨⟨K1, K2, K3, K4⟩, K8, Kc⟩ := frD (H2 := H4) r a.ci a.k1 G r3.ci.wf (Or.inl kq) (fun z k => (g7 z (ik_b k r4.1 n34)).imp id (fun k2 => ik_b k2 f3.1 n12)) (fun _ => by rw [nm.2.2.2, vCn_0s 200 nm.2.2.1]; rfl) (fun k h1 h2 => q1 k (by omega) (by omega) (by omega)) (q1 39 (by decide) (by decide) (by decide)) ⟨(q2 11 (by decide)).trans zr.1, (q2 12 (by decide)).trans zr.2.1, (q2 38 (by decide)).trans zr.2.2.1, (q2 40 (by decide)).trans zr.2.2.2.1, (q2 41 (by decide)).trans zr.2.2.2.2⟩
  have st : ∀ p, p < 8 → giC S4 (x + 13 + 3 * p) 0 = giC S1 (x + 13 + 3 * p) 0 := fun p hp => by
    have o : pl x (x + 13 + 3 * p) := Or.inr ⟨p, hp, rfl⟩
    have k2 := o.lt f2.ci f2.k1
    have k3 := o.lt g2.ci g2.k1
    have nq : ¬ dM q (x + 13 + 3 * p) := (dM_x r3.ci r3.k1 kq).2.2.2.2.2.2 p hp
    rw [r4.2.1 _ k3.1 (by rw [k3.2]; decide) (by omega), g3.2.1 _ k2.1 (by rw [k2.2]; decide) nq]
    exact srt f3 a.ci a.k1 o (by omega)
  have nq1 : ∀ g i, hL H g i → (T1 (rP x g)).getD i 0 ≠ q ∨ g = 1 := fun g i l => by
    by_cases y : g = 1
    · exact Or.inr y
    · have m : (T1 (rP x g)).getD i 0 ∈ T1 (rP x g) := gD_mem (r.2.1.mem l)
      left
      intro w
      rw [w] at m
      rw [← f6 _ (fun v => y (rP_inj (x := x) (g := g) (g' := 1) v)) (rP_own l.1).2] at m
      exact g9 _ (rP_own l.1).2 m
  refine ⟨S4, _, c3, rfl, r3, r.ex (gs := 1) (is := 0) h.1.1 DO2.1.1 K1 K2 K3 K4 (q1 0 (by decide) (by decide) (by decide)) (fun g hg => ?_) ⟨fun y => ?_, fun _ => ?_⟩ (fun p hp => ⟨fun y => ?_, fun y => ?_⟩) ⟨?_, ?_⟩ (fun s h1 h2 => ?_) (fun g i l n => ?_) (fun _ => ?_) (fun _ _ => ⟨?_, fun _ => ?_, fun y => ?_⟩) (fun _ t => ?_) (fun _ j l t d k => ?_) (fun _ _ y => ?_)⟩
  · by_cases y : g = 1
    · rw [y, eT1, hN1]
      rfl
    · rw [eT g hg y, hN4 g y]
      exact (r.2.1 g hg).1
  · rw [q35] at y
    exact absurd y (by decide)
  · rw [q36, if_pos rfl]
    exact r5
  · rw [q2 34 (by decide), z34] at y
    rw [st p hp]
    exact (r.2.2.1.2.1 p hp).1 y
  · rw [q2 34 (by decide), z34] at y
    rw [st p hp, q2 37 (by decide), z37, hM4 _ _ (by omega), q2 27 (by decide), (r.2.2.1.2.1 p hp).2 y]
    have y' := mt iEq.mpr y
    rw [i0] at y'
    have b := (h.1.1.1 (p + 2) (by omega)).1
    have l : hL H (p + 2) 0 := ⟨by omega, by show ((0 : Nat) : Int) < (H.2 34 p).toInt; have : hN H (p + 2) = (H.2 34 p).toInt := rfl; omega⟩
    rw [zo2 _ (nz _ _ (by omega) l) 27 (by omega) (by omega)]
  · rw [K8]
    exact Int.le_refl _
  · rw [K8]
    have := r.2.2.2.2.2.1.2
    omega
  · rw [q30, ageS ⟨h1, h2⟩ bN.2]
    omega
  · by_cases y : g = 1
    · exfalso
      have l2 := l.2
      rw [y, hN1] at l2
      exact n ⟨y, by omega⟩
    · have l' : hL H g i := ⟨l.1, by rw [← hN4 g y]; exact l.2⟩
      have nq := (nq1 g i l').resolve_right y
      have kz := a.m3 (gD_mem (r.2.1.mem l'))
      have nz' := nz g i y l'
      refine ⟨g, i, l', hM4 g i y, hT4 g y, fun _ => id, by rw [eT g l.1 y], Kc _ kz nq, fun k h1 h2 => ?_, fun _ => ?_, fun n' hn => ?_, fun n' hn => ?_⟩
      · rw [q2 k (by omega)]
        exact zo2 _ nz' k h1 (by omega)
      · rw [q2 27 (by decide)]
        exact zo2 _ nz' 27 (by omega) (by omega)
      · rw [q2 28 (by decide), z28]
      · rw [q2 29 (by decide), z29]
        exact z5 _ _ nz' hn
  · rw [eT1, hM1]
    show mR S4 q H4 z.toNatClampNeg
    have o := fun j (y : j ≠ 32) => congrFun (q2 j y) z.toNatClampNeg
    refine mR_new ⟨nm.1.2.2.1, nm.1.2.2.2.1, nm.1.2.2.2.2.1, nm.1.2.2.2.2.2.1, nm.1.2.2.2.2.2.2⟩ ⟨nm.2.1.1, nm.2.1.2.1, nm.2.1.2.2.1, nm.2.1.2.2.2.2⟩ nm.2.2.1 nm.2.2.2 tx ⟨(o 14 (by decide)).trans zz.1.1, (o 15 (by decide)).trans zz.1.2.1, (o 16 (by decide)).trans zz.1.2.2.1, (o 17 (by decide)).trans zz.1.2.2.2.1, (o 18 (by decide)).trans zz.1.2.2.2.2⟩ ⟨(o 19 (by decide)).trans zz.2.1.1, (o 20 (by decide)).trans zz.2.1.2.1, (o 21 (by decide)).trans zz.2.1.2.2.1, (o 24 (by decide)).trans zz.2.2.1, (o 26 (by decide)).trans zz.2.2.2.2.1⟩ (fun s hs => ?_)
    rw [q2 29 (by decide), z29]
    exact z4 s hs
  · rw [eT1, hM1, q2 25 (by decide), zz.2.2.2.1]
    exact nm.2.1.2.2.2.1
  · rw [hM1, q2 26 (by decide)]
    exact zz.2.2.2.2.1
  · rw [hM1, q2 27 (by decide)] at y
    exact absurd zz.2.2.2.2.2 y
  · exact absurd q36 t
  · rw [hM1, q2 22 (by decide), zz.2.1.2.2.2.1]
    have ag := (r.2.2.2.2.2.2.2.2 j l t d k).2.1
    exact ageN ag bN.2
  · rw [hM1, q2 25 (by decide)] at y
    exact absurd zz.2.2.2.1 y
end
