/-! ===== the deeds: a draft laid ===== -/
section
variable {wF : Prop × (Nat → Int32) × Int32 × (Nat → Int32)} {E : Nat → Prop} {x : Nat} {S S1 S2 S3 : Cst} {T T1 T2 T3 : Nat → List Nat} {F F1 : List Nat} {col c1 : Nat → Nat} {H H2 H3 : HS} {N N2 M M2 : Int} {D : Nat → Prop}
theorem mR.la {q m : Nat} (h : mR S1 q H m) (v y w v' : Int32) : mR (siC (siC S1 q 10 v) q 1 y) q (sA (sA H 23 m w) 25 m v') m := by
  obtain ⟨⟨a1, a2, a3, a4, a5⟩, ⟨b1, b2⟩, c, ⟨d1, d2⟩, e, ⟨f1, f2⟩, g⟩ := h
  have n : ∀ i, i ≠ 10 → i ≠ 1 → giC (siC (siC S1 q 10 v) q 1 y) q i = giC S1 q i := fun i h8 h9 => by rw [gi_si, if_neg (fun z => h9 z.2), gi_si, if_neg (fun z => h8 z.2)]
  have o : ∀ j k, 0 < j → giC (siC (siC S1 q 10 v) q 1 y) (q + j) k = giC S1 (q + j) k := fun j k hj => by rw [gi_si, if_neg (fun z => by omega), gi_si, if_neg (fun z => by omega)]
  refine ⟨⟨(n 2 (by decide) (by decide)).trans a1, (n 3 (by decide) (by decide)).trans a2, (n 4 (by decide) (by decide)).trans a3, (n 5 (by decide) (by decide)).trans a4, (n 6 (by decide) (by decide)).trans a5⟩, ⟨(n 7 (by decide) (by decide)).trans b1, (n 11 (by decide) (by decide)).trans b2⟩, fun z => ⟨(n 8 (by decide) (by decide)).trans (c z).1, (n 9 (by decide) (by decide)).trans (c z).2⟩, ⟨(o 1 1 (by omega)).trans d1, fun i hi => (o 2 i (by omega)).trans (d2 i hi)⟩, fun s hs => ?_, ⟨fun s h1 h2 => (o 3 s (by omega)).trans (f1 s h1 h2), ?_⟩, g⟩
  · rw [o 3 s (by omega)]
    exact e s hs
  · rw [n 14 (by decide) (by decide), vCn_cg (S1 := S1) (fun k => o 3 k (by omega))]
    exact f2
/-- the draft is laid, where it is -/
theorem RR.la (a : AS x S T col S1 T1 c1) (r : RR wF N S1 T1 x H) (h : HA H) (z1 : ¬ H.1 35 = 0) (z2 : H.1 36 = 0) {q : Nat} (hq : T1 (x + 4) = [q]) (y w : Int32) (jn : (H.2 14 (hM H 1 0) = 2 ∨ H.2 14 (hM H 1 0) = 3) → (1 ≤ y.toInt ∧ y.toInt ≤ (giC S1 x 8).toInt) ∧ (0 ≤ (H.1 30 - w).toInt ∧ (H.1 30 - w).toInt < N) ∧ (∀ g i, hL H g i → hT H g → (y = giC S1 ((T1 (rP x g)).getD i 0) 0 ↔ w = H.2 22 (hM H g i))) ∧ ∀ g, hL H g 0 → ¬ hT H g → w ≠ H.2 22 (hM H g 0)) : RR wF N (siC (siC S1 q 10 1) q 1 y) T1 x (sA (sA H 23 (hM H 1 0) w) 25 (hM H 1 0) 1) ∧ HC (H.1 7).toInt (sA (sA H 23 (hM H 1 0) w) 25 (hM H 1 0) 1) := by
  have hu : q ∈ T1 (x + 4) := by rw [hq]; exact List.mem_singleton.mpr rfl
  have kq := a.m3 hu
  have cq : c1 q = x := by rw [(a.ci.tk _ q hu).2]; exact a.1.cx 4 (by omega)
  have U := ((QU.rf a.1).mI kq cq 10 1 (by decide) (fun _ => bz1)).mI (ik_si.mpr kq) cq 1 y (by decide) (by omega)
  have L1 := (dr_L h z1 z2).1
  have nT := (dr_L h z1 z2).2
  have eq0 : (T1 (rP x 1)).getD 0 0 = q := by show (T1 (x + 4)).getD 0 0 = q; rw [hq]; rfl
  have mq : mR S1 q H (hM H 1 0) := by
    have := (r.2.1 1 (by omega)).2 0 (r.2.1.mem L1)
    rw [eq0] at this
    exact this
  have m2 := mq.la 1 y w 1
  generalize hm : hM H 1 0 = m at *
  have q2 : ∀ k, k ≠ 23 → k ≠ 25 → (sA (sA H 23 m w) 25 m 1).2 k = H.2 k := fun k y y2 => by
    show (if k = 25 then _ else if k = 23 then _ else H.2 k) = H.2 k
    rw [if_neg y2, if_neg y]
  have q2m : ∀ k m', m' ≠ m → (sA (sA H 23 m w) 25 m 1).2 k m' = H.2 k m' := fun k m' n => by
    show (if k = 25 then upd (if 25 = 23 then upd (H.2 23) m w else H.2 25) m 1 else if k = 23 then upd (H.2 23) m w else H.2 k) m' = H.2 k m'
    by_cases e1 : k = 25
    · rw [if_pos e1, e1]
      exact if_neg n
    · rw [if_neg e1]
      by_cases e2 : k = 23
      · rw [if_pos e2, e2]
        exact if_neg n
      · rw [if_neg e2]
  have q25 : (sA (sA H 23 m w) 25 m 1).2 25 m = 1 := if_pos rfl
  have q23 : (sA (sA H 23 m w) 25 m 1).2 23 m = w := if_pos rfl
  have q1 : (sA (sA H 23 m w) 25 m 1).1 = H.1 := rfl
  have eN : ∀ g, hN (sA (sA H 23 m w) 25 m 1) g = hN H g := fun g => by
    match g with
    | 0 => rfl
    | 1 => rfl
    | p + 2 => rfl
  have eM : ∀ g i, hM (sA (sA H 23 m w) 25 m 1) g i = hM H g i := fun g i => by
    match g with
    | 0 => rfl
    | 1 => rfl
    | p + 2 => rfl
  have eT : ∀ g, hT (sA (sA H 23 m w) 25 m 1) g ↔ hT H g := fun g => by
    match g with
    | 0 => exact Iff.rfl
    | 1 => exact Iff.rfl
    | p + 2 => exact Iff.rfl
  have eC : ∀ g i, hC (sA (sA H 23 m w) 25 m 1) g i = hC H g i := fun g i => by
    match g with
    | 0 => rfl
    | 1 => rfl
    | p + 2 => rfl
  generalize sA (sA H 23 m w) 25 m 1 = H2 at *
  have one : hN H 1 = 1 := by
    have b := (h.1.1.1 1 (by omega)).2.2 nT
    have := L1.2
    omega
  have uw := h.1.1.2.2.2.2.1 1 0 L1
  rw [hm] at uw
  have hc2 : HC (H.1 7).toInt H2 := h.1.1.slot 1 m (Int.le_refl _) (by omega) one hm (by rw [q1]) (q2 13 (by decide) (by decide)) (q2 14 (by decide) (by decide)) (q2 22 (by decide) (by decide)) (fun x' _ n => ⟨q2m _ _ n, q2m _ _ n, q2m _ _ n, q2m _ _ n⟩) (by unfold uW at uw ⊢; rw [q2 14 (by decide) (by decide), q2 19 (by decide) (by decide), q2 20 (by decide) (by decide), q2 21 (by decide) (by decide)]; exact uw) (fun g _ => ⟨eN g, eT g⟩) (fun g i _ => eC g i)
  refine ⟨?_, hc2⟩
  have G : gX (D5 x q) S1 (siC (siC S1 q 10 1) q 1 y) := ((gX.si S1 q 10 1).tr (gX.si _ q 1 y)).mo (fun z e => Or.inl (by rw [e]; exact ⟨Nat.le_refl _, Nat.le_add_right _ _⟩))
  obtain ⟨⟨K1, K2, K3, K4⟩, K8, Kc⟩ := frD (H2 := H2) r a.ci a.k1 G U.1.ci.wf (Or.inl (ik_si.mpr (ik_si.mpr kq))) (fun z k => Or.inr (ik_si.mp (ik_si.mp k))) (fun _ => m2.2.2.2.2.2.1.2) (fun k _ _ => by rw [q1]) (by rw [q1]) ⟨q2 11 (by decide) (by decide), q2 12 (by decide) (by decide), q2 38 (by decide) (by decide), q2 40 (by decide) (by decide), q2 41 (by decide) (by decide)⟩
  have st : ∀ d, pl x d → giC (siC (siC S1 q 10 1) q 1 y) d 0 = giC S1 d 0 := fun d o => by
    have k5 := pl.lt a.ci a.k1 o
    have n := ik_ne k5 kq (by decide)
    rw [gi_si, if_neg (fun e => n e.1), gi_si, if_neg (fun e => n e.1)]
  have n4 := r.2.2.2.2.2.2.2.2
  refine r.ex (gs := 1) (is := 0) h.1.1 hc2 K1 K2 K3 K4 (by rw [q1]) (fun g hg => by rw [eN]; exact (r.2.1 g hg).1) ?_ (fun p hp => ?_) ⟨by rw [K8]; exact Int.le_refl _, by rw [K8]; exact r.2.2.2.2.2.1.2⟩ (fun s h1 h2 => by rw [q1]; omega) (fun g i l n => ?_) (fun _ => ?_) (fun _ _ => ⟨?_, fun e => ?_, fun e => ?_⟩) (fun _ t => absurd ((eT 1).mp t) nT) (fun _ j l t d k => ?_) (fun _ _ _ k => ?_)
  · rw [st _ (Or.inl rfl), q1]
    exact r.2.2.1.1
  · rw [st _ (Or.inr ⟨p, hp, rfl⟩), q2 34 (by decide) (by decide), q2 37 (by decide) (by decide), q2 27 (by decide) (by decide), eM]
    exact r.2.2.1.2.1 p hp
  · have l' : hL H g i := ⟨l.1, by rw [← eN]; exact l.2⟩
    have k := a.m3 (gD_mem (r.2.1.mem l'))
    have nq : (T1 (rP x g)).getD i 0 ≠ q := fun e => by
      have u := q_uniq a.ci (r.2.1.mem l') (r.2.1.mem L1) (e.trans eq0.symm)
      exact n ⟨rP_inj u.1, u.2⟩
    have nm : hM H g i ≠ m := fun e => n (h.1.1.d l' L1 (e.trans hm.symm))
    exact ⟨g, i, l', eM g i, eT g, fun _ => id, rfl, Kc _ k nq, fun k _ _ => q2m _ _ nm, fun _ => q2m _ _ nm, fun n _ => by rw [q2 28 (by decide) (by decide)], fun n _ => by rw [q2 29 (by decide) (by decide)]⟩
  · rw [eq0, eM, hm]
    exact m2
  · rw [eq0, eM, hm, q25, gi_si, if_neg (fun e => absurd e.2 (by decide)), gi_si, if_pos ⟨rfl, rfl⟩]
  · rw [eM, hm, q25] at e
    exact absurd e (by decide)
  · rw [eM, q2 27 (by decide) (by decide)] at e
    have := (r.2.2.1.2.2.2.2 1 (by omega) L1 nT e).1
    omega
  · rw [eM, q2 22 (by decide) (by decide)]
    exact (n4 j l t d k).2.2.2 1 L1 nT
  · rw [eM, hm, q2 14 (by decide) (by decide)] at k
    obtain ⟨j1, j2, j3, j4⟩ := jn k
    unfold jN
    rw [eM, hm, q23, eq0, K8, q1, gi_si, if_pos ⟨rfl, rfl⟩]
    refine ⟨j1, j2, fun g i l t => ?_, fun g l t => ?_⟩
    · have l' : hL H g i := ⟨l.1, by rw [← eN]; exact l.2⟩
      have nq : (T1 (rP x g)).getD i 0 ≠ q := fun e => by
        have u := q_uniq a.ci (r.2.1.mem l') (r.2.1.mem L1) (e.trans eq0.symm)
        have := rP_inj u.1
        subst this
        exact nT ((eT 1).mp t)
      have kz := a.m3 (gD_mem (r.2.1.mem l'))
      have e0 : giC (siC (siC S1 q 10 1) q 1 y) ((T1 (rP x g)).getD i 0) 0 = giC S1 ((T1 (rP x g)).getD i 0) 0 := Kc _ kz nq 0 (by omega) 0
      rw [eM, q2 22 (by decide) (by decide), e0]
      exact j3 g i l' ((eT g).mp t)
    · rw [eM, q2 22 (by decide) (by decide)]
      exact j4 g ⟨l.1, by rw [← eN]; exact l.2⟩ (mt (eT g).mpr t)
end
