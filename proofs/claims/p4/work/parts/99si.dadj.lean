/-! ===== the deeds: adjourning ===== -/
section
variable {wF : Prop × (Nat → Int32) × Int32 × (Nat → Int32)} {E : Nat → Prop} {x : Nat} {S S1 S2 S3 : Cst} {T T1 T2 : Nat → List Nat} {F F1 : List Nat} {col c1 : Nat → Nat} {H H2 H3 : HS} {N N2 M M2 : Int} {D : Nat → Prop}
theorem sI_bk (S : HS) (k : Nat) (v : Int32) : sI (sI S k v) k (S.1 k) = S := by
  refine Prod.ext (funext fun j => ?_) rfl
  show (if j = k then S.1 k else if j = k then v else S.1 j) = S.1 j
  by_cases z : j = k
  · rw [if_pos z, z]
  · rw [if_neg z, if_neg z]
theorem dropD_v {S : HS} (h : 0 ≤ (S.1 35).toInt ∧ (S.1 35).toInt ≤ 9) : ∃ u, (f_X11_dropDraft S).2 = sI (sR S 13 u) 35 0 := by
  obtain ⟨u, e, -⟩ := dropDraft_l 100000 S 0 (by rw [i0]; omega) (by rw [i0]; omega) h.2 (by rw [i0]; omega)
  exact ⟨u, e⟩
theorem adj22 (x1 x2 x3 x4 x5 x6 : Int32) : ∀ (n : Nat) (S : HS), 0 ≤ (S.1 6).toInt → (S.1 6).toInt ≤ 9 → (S.1 6).toInt < n → ∃ S', lp_X11_does_491 n S x1 x2 x3 x4 x5 x6 = (x6, sI (f_X11_dropDraft S').2 5 (-1)) ∧ S'.1 6 = 0 ∧ (∀ j, j ≠ 6 → S'.1 j = S.1 j) ∧ ∀ k, k ≠ 13 → S'.2 k = S.2 k := by
  intro n
  induction n with
  | zero => intro S h1 h9 h2; omega
  | succ n ih =>
    intro S h1 h9 h2
    rw [lp_X11_does_491]
    unfold st_X11_does_491 b_X11_does_a502 b_X11_does_a509
    by_cases c : S.1 6 ≤ 0
    · rw [if_pos c]
      have c := iLe.mp c
      rw [i0] at c
      exact ⟨S, rfl, iEq.mpr (by rw [i0]; omega), fun _ _ => rfl, fun _ _ => rfl⟩
    · rw [if_neg c]
      have c := mt iLe.mpr c
      rw [i0] at c
      have e6 := iSub (x := S.1 6) (y := 1) (by rw [i1]; omega) (by rw [i1]; omega)
      rw [i1] at e6
      have ge := goes_e S
      generalize (f_X11_goes S).2 = G at ge ⊢
      have g6 : G.1 6 = S.1 6 - 1 := by rw [ge]; rfl
      obtain ⟨S', e, a, b, d⟩ := ih G (by rw [g6]; omega) (by rw [g6]; omega) (by rw [g6]; omega)
      refine ⟨S', e, a, fun j y => ?_, fun k y => ?_⟩
      · rw [b j y, ge]
        exact if_neg y
      · rw [d k y, ge]
        exact if_neg y
theorem ds_22 (a : AS x S T col S1 T1 c1) (r : RR wF N S1 T1 x H) (h : HA H) (bN : 0 ≤ N ∧ N ≤ 1000000) (i b c d : Int32) : DS wF (N + 1) x S T col (f_Y1_perform S1 x 22 i b c d) (f_X11_does H 22 i b c d) := by
  have o3 : pl x (x + 3) := Or.inl rfl
  have w0 := a.w0
  obtain ⟨-, S2, T2, f1, f2, f3, f4, f5⟩ := y_release a.1 (noE_n _) (show own x (x + 1) from Or.inr (Or.inl rfl)) (by omega)
  have w2 := f2.ci.wf.w0 f2.k1
  obtain ⟨-, S3, T3, g1, g2, g3, g4, g5, g6⟩ := y_discard f2 o3 (noE_n _)
  have n23 := n1_discard f2 o3 (noE_n _) g1
  have w3 := g2.ci.wf.w0 g2.k1
  have e1 : f_Y1_perform S1 x 22 i b c d = (H.1 6, siC S3 (x + 37) 6 (-1)) := by
    unfold f_Y1_perform b_Y1_perform_301a f_Y1_endSitting b_Y1_endSitting_16a b_Y1_endSitting_24a
    rw [if_neg (by decide), if_neg (by decide), if_neg (by decide), if_neg (by decide), if_neg (by decide), if_neg (by decide), if_neg (by decide), if_neg (by decide), if_neg (by decide), if_neg (by decide), if_neg (by decide), if_neg (by decide), if_neg (by decide), if_neg (by decide), if_neg (by decide), if_neg (by decide), if_neg (by decide), if_neg (by decide), if_neg (by decide), if_neg (by decide), if_neg (by decide), if_pos rfl, w0.2.1.2.1, Option.getD_some, f1]
    simp only
    rw [w2.2.1.2.2.1, Option.getD_some, g1]
    simp only
    rw [w3.2.1.1, Option.getD_some, rr_z a r.2.1]
  -- the reference
  have b6 := h.1.ra.2.1
  have n6 := h.1.1.1 0 (by omega)
  have n35 := h.1.1.1 1 (by omega)
  have e6 : hN H 0 = (H.1 6).toInt := rfl
  have e35 : hN H 1 = (H.1 35).toInt := rfl
  obtain ⟨S', e, s6, s1, s2⟩ := adj22 22 i b c d (H.1 6) 100000 H (by omega) (by omega) (by omega)
  have DO2 := (d_22 22 i b c d (H.1 6) 100000 H h.1 (by omega)).2
  rw [e] at DO2
  have e2 : f_X11_does H 22 i b c d = (H.1 6, sI (f_X11_dropDraft S').2 5 (-1)) := by
    unfold f_X11_does
    rw [if_neg (by decide), if_neg (by decide), if_neg (by decide), if_neg (by decide), if_neg (by decide), if_neg (by decide), if_neg (by decide), if_neg (by decide), if_neg (by decide), if_neg (by decide), if_neg (by decide), if_neg (by decide), if_neg (by decide), if_neg (by decide), if_neg (by decide), if_neg (by decide), if_neg (by decide), if_neg (by decide), if_neg (by decide), if_neg (by decide), if_neg (by decide)]
    exact e
  have s35 : S'.1 35 = H.1 35 := s1 35 (by decide)
  obtain ⟨uD, d1⟩ := dropD_v (S := S') (by rw [s35]; omega)
  rw [e1, e2]
  rw [d1] at DO2 ⊢
  have I4 : HI ((H.1 7).toInt + 1) (sI (sR S' 13 uD) 35 0) := by
    have y := hi_5 DO2.1 ((sI (sR S' 13 uD) 35 0).1 5)
    dsimp only at y
    rw [sI_bk] at y
    exact y
  clear DO2 e e1 e2 d1
  obtain ⟨H4, hH4⟩ : ∃ H4, H4 = sI (sR S' 13 uD) 35 0 := ⟨_, rfl⟩
  rw [← hH4] at I4 ⊢
  have q1 : ∀ j, j ≠ 6 → j ≠ 35 → H4.1 j = H.1 j := fun j y y2 => by
    rw [hH4]
    exact (if_neg y2).trans (s1 j y)
  have q6 : H4.1 6 = 0 := by rw [hH4]; exact s6
  have q35 : H4.1 35 = 0 := by rw [hH4]; rfl
  have q2 : ∀ k, k ≠ 13 → H4.2 k = H.2 k := fun k y => by
    rw [hH4]
    exact (if_neg y).trans (s2 k y)
  clear hH4
  have N0 : hN H4 0 = 0 := by show (H4.1 6).toInt = 0; rw [q6]; rfl
  have N1 : hN H4 1 = 0 := by show (H4.1 35).toInt = 0; rw [q35]; rfl
  have Np : ∀ p, hN H4 (p + 2) = hN H (p + 2) := fun p => by show (H4.2 34 p).toInt = _; rw [q2 34 (by decide)]; rfl
  have Mp : ∀ p i, hM H4 (p + 2) i = hM H (p + 2) i := fun p i => by unfold hM; show (H4.2 33 (9 * p + i)).toNatClampNeg = _; rw [q2 33 (by decide)]; rfl
  have Tp : ∀ p, hT H4 (p + 2) ↔ hT H (p + 2) := fun p => by show H4.2 37 p ≠ 0 ↔ H.2 37 p ≠ 0; rw [q2 37 (by decide)]
  have G : gX (D5 x S3.1) S1 S3 := (f3.x (D := D5 x S3.1)).tr (g3.mo (fun z y => Or.inr (Or.inl y)))
  have eT : ∀ p, p < 8 → T3 (rP x (p + 2)) = T1 (rP x (p + 2)) := fun p hp => by
    have o := rP_own (x := x) (g := p + 2) (by omega)
    have ne : rP x (p + 2) ≠ x + 3 + 1 := fun y => by have := rP_inj (x := x) (g := p + 2) (g' := 1) y; omega
    have ne0 : rP x (p + 2) ≠ x + 1 := fun y => by have := rP_inj (x := x) (g := p + 2) (g' := 0) y; omega
    rw [g6 _ ne o.2, f5 _ ne0 o.2]
  obtain ⟨⟨K1, K2, K3, K4⟩, K8, Kc⟩ := frD (H2 := H4) r a.ci a.k1 G g2.ci.wf (Or.inr (Nat.le_refl _)) (fun z k => Or.inr (f3.ik (ik_b k g3.1 n23))) (fun k => absurd k.1 (Nat.lt_irrefl _)) (fun k h1 h2 => q1 k h2 (by omega)) (q1 39 (by decide) (by decide)) ⟨q2 11 (by decide), q2 12 (by decide), q2 38 (by decide), q2 40 (by decide), q2 41 (by decide)⟩
  have st : ∀ p, p < 8 → giC S3 (x + 13 + 3 * p) 0 = giC S1 (x + 13 + 3 * p) 0 := fun p hp => by
    have o : pl x (x + 13 + 3 * p) := Or.inr ⟨p, hp, rfl⟩
    have k2 := o.lt f2.ci f2.k1
    rw [g3.2.1 _ k2.1 (by rw [k2.2]; decide) (by omega)]
    exact srt (f3.x (D := fun _ => False)) a.ci a.k1 o not_false
  have R4 : RR wF (N + 1) S3 T3 x H4 := by
    refine r.ex (gs := 10) (is := 0) h.1.1 I4.1 K1 K2 K3 K4 (q1 0 (by decide) (by decide)) (fun g hg => ?_) ⟨fun y => g4, fun y => absurd q35 y⟩ (fun p hp => ?_) ⟨?_, ?_⟩ (fun s h1 h2 => ?_) (fun g i l n => ?_) (fun l => absurd l.1 (by omega)) (fun l => absurd l.1 (by omega)) (fun l => absurd l.1 (by omega)) (fun l => absurd l.1 (by omega)) (fun l => absurd l.1 (by omega))
    · match g with
      | 0 =>
        have e0 : T3 (x + 1) = [] := by rw [g6 _ (by omega) (by omega)]; exact f4
        show ((T3 (x + 1)).length : Int) = _
        rw [e0, N0]
        rfl
      | 1 =>
        show ((T3 (x + 3 + 1)).length : Int) = _
        rw [g5, N1]
        rfl
      | p + 2 =>
        rw [eT p (by omega), Np]
        exact (r.2.1 _ hg).1
    · rw [st p hp, q2 34 (by decide), q2 37 (by decide), q2 27 (by decide), Mp]
      exact r.2.2.1.2.1 p hp
    · rw [K8]
      exact Int.le_refl _
    · rw [K8]
      have := r.2.2.2.2.2.1.2
      omega
    · rw [q1 30 (by decide) (by decide)]
      omega
    · match g, l with
      | 0, l =>
        have := l.2
        rw [N0] at this
        omega
      | 1, l =>
        have := l.2
        rw [N1] at this
        omega
      | p + 2, l =>
        have l' : hL H (p + 2) i := ⟨l.1, by rw [← Np]; exact l.2⟩
        have k := a.m3 (gD_mem (r.2.1.mem l'))
        exact ⟨p + 2, i, l', Mp p i, Tp p, fun _ => id, by rw [eT p (by have := l.1; omega)], Kc _ k (fun y => by have := k.1; have := G.1.1.1; omega), fun k h1 h2 => by rw [q2 k (by omega)], fun _ => by rw [q2 27 (by decide)], fun n _ => by rw [q2 28 (by decide)], fun n _ => by rw [q2 29 (by decide)]⟩
  exact ⟨_, T3, c1, rfl, ((QU.rf g2).hI 6 (-1) (by omega)).1, R4.hc g2.ci g2.k1 ((hC'.rf x S3).si 6 (-1) (Or.inl rfl)) (sH.I _ _ (by decide) (by decide) (by decide) (by decide) (by decide)) ⟨rfl, rfl, rfl, rfl, rfl⟩ ⟨rfl, rfl, rfl⟩ (R4.1.f6 (-1))⟩
end
