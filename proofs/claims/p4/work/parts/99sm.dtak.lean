/-! ===== the deeds: taking ===== -/
section
variable {wF : Prop × (Nat → Int32) × Int32 × (Nat → Int32)} {E : Nat → Prop} {x : Nat} {S S1 S2 S3 : Cst} {T T1 T2 T3 : Nat → List Nat} {F F1 : List Nat} {col c1 : Nat → Nat} {H H2 H3 : HS} {N N2 M M2 : Int} {D : Nat → Prop}
theorem take_w {x1 : Int32} (hx : 0 ≤ x1.toInt ∧ x1.toInt ≤ 7) : ∀ (n : Nat) (S : HS) (x : Int32), (S.2 34 x1.toNatClampNeg).toInt ≤ 9 → 0 ≤ x.toInt → x.toInt ≤ (S.2 34 x1.toNatClampNeg).toInt → (S.2 34 x1.toNatClampNeg).toInt - x.toInt < n →
    ∃ u, lp_X11_take_2 n S x1 x = (if S.2 37 x1.toNatClampNeg = 0 then S.2 14 (u 0).toNatClampNeg else 7, sR (sA (sI (sI (sR S 32 u) 35 (S.2 34 x1.toNatClampNeg)) 36 (S.2 37 x1.toNatClampNeg)) 34 x1.toNatClampNeg 0) 27 (upd (S.2 27) (u 0).toNatClampNeg 0)) ∧ (∀ i : Nat, x.toInt ≤ i → (i : Int) < (S.2 34 x1.toNatClampNeg).toInt → u i = S.2 33 (9 * x1.toNatClampNeg + i)) ∧ (∀ j : Nat, (j : Int) < x.toInt → u j = S.2 32 j) := by
  intro n
  induction n with
  | zero => intro S x h9 h1 h2 h3; omega
  | succ n ih =>
    intro S x h9 h1 h2 h3
    rw [lp_X11_take_2]
    unfold st_X11_take_2
    by_cases c : S.2 34 x1.toNatClampNeg ≤ x
    · rw [if_pos c]
      have c := iLe.mp c
      refine ⟨S.2 32, ?_, fun i a b => by omega, fun j _ => rfl⟩
      rw [sR_id]
      show (if S.2 37 x1.toNatClampNeg = 0 then _ else _) = _
      by_cases z : S.2 37 x1.toNatClampNeg = 0
      · rw [if_pos z, if_pos z, zn0]
        rfl
      · rw [if_neg z, if_neg z, zn0]
        rfl
    · rw [if_neg c]
      have c := mt iLe.mpr c
      have e := iAdd (x := x) (y := 1) (by rw [i1]; omega) (by rw [i1]; omega)
      rw [i1] at e
      have k := iNat h1
      have cc := c9 hx h1 (by omega)
      obtain ⟨u, q1, q2, q3⟩ := ih (sA S 32 x.toNatClampNeg (S.2 33 (9 * x1.toNatClampNeg + x.toNatClampNeg))) (x + 1) h9 (by omega) (by show _ ≤ (S.2 34 x1.toNatClampNeg).toInt; omega) (by show (S.2 34 x1.toNatClampNeg).toInt - _ < _; omega)
      rw [sR_sA] at q1
      refine ⟨u, ?_, fun i a b => ?_, fun j z => ?_⟩
      · rw [cc]
        exact q1
      · by_cases y : i = x.toNatClampNeg
        · subst y
          rw [q3 x.toNatClampNeg (by omega)]
          exact upd_eq
        · exact q2 i (by omega) b
      · rw [q3 j (by omega)]
        exact upd_ne (by omega)
theorem take_W {x1 : Int32} (hx : 0 ≤ x1.toInt ∧ x1.toInt ≤ 7) (S : HS) (h9 : 0 ≤ (S.2 34 x1.toNatClampNeg).toInt ∧ (S.2 34 x1.toNatClampNeg).toInt ≤ 9) : ∃ u, f_X11_take S x1 = (if S.2 37 x1.toNatClampNeg = 0 then S.2 14 (u 0).toNatClampNeg else 7, sR (sA (sI (sI (sR S 32 u) 35 (S.2 34 x1.toNatClampNeg)) 36 (S.2 37 x1.toNatClampNeg)) 34 x1.toNatClampNeg 0) 27 (upd (S.2 27) (u 0).toNatClampNeg 0)) ∧ ∀ i : Nat, (i : Int) < (S.2 34 x1.toNatClampNeg).toInt → u i = S.2 33 (9 * x1.toNatClampNeg + i) := by
  obtain ⟨u, q1, q2, -⟩ := take_w hx 100000 S 0 h9.2 (by rw [i0]; omega) (by rw [i0]; omega) (by rw [i0]; omega)
  rw [i0] at q2
  exact ⟨u, q1, fun i hi => q2 i (by omega) hi⟩
theorem ds_14 (a : AS x S T col S1 T1 c1) (r : RR wF N S1 T1 x H) (h : HA H) (i b c d : Int32) (hi : 0 ≤ i.toInt ∧ i.toInt ≤ 7) (z1 : H.1 35 = 0) (z0 : ¬ H.2 34 i.toNatClampNeg = 0) : DS wF (N + 1) x S T col (f_Y1_perform S1 x 14 i b c d) (f_X11_does H 14 i b c d) := by
  have kp := iNat hi.1
  have hp : i.toNatClampNeg < 8 := by omega
  have pv := pa_v a.ci.wf a.k1 hp (i := i) (by omega)
  have z1' := congrArg Int32.toInt z1
  rw [i0] at z1'
  have z0' := mt iEq.mpr z0
  rw [i0] at z0'
  have np := h.1.1.1 (i.toNatClampNeg + 2) (by omega)
  have e34 : hN H (i.toNatClampNeg + 2) = (H.2 34 i.toNatClampNeg).toInt := rfl
  have DO2 := (d_14 h.1 (by omega) hi z0).2.1.1
  obtain ⟨u, eu, u1⟩ := take_W hi H (by omega)
  rw [eu] at DO2
  have e2 : f_X11_does H 14 i b c d = f_X11_take H i := by
    unfold f_X11_does b_X11_does_a383
    rfl
  rw [e2, eu]
  clear e2 eu
  generalize hpd : i.toNatClampNeg = p at *
  have u0 := u1 0 (by omega)
  have m0 : (u 0).toNatClampNeg = hM H (p + 2) 0 := by rw [u0]; rfl
  rw [m0] at DO2 ⊢
  have L0 : hL H (p + 2) 0 := ⟨by omega, by omega⟩
  -- the class
  have o3 : pl x (x + 3) := Or.inl rfl
  have o : pl x (x + 13 + 3 * p) := Or.inr ⟨p, hp, rfl⟩
  have e4 : T1 (x + 3 + 1) = [] := by
    have l := r.2.1 1 (by omega)
    have e0 : hN H 1 = (H.1 35).toInt := rfl
    rw [e0, z1, i0] at l
    exact List.length_eq_zero_iff.mp (by have := l.1; show (T1 (x + 4)).length = 0; have e : rP x 1 = x + 4 := rfl; rw [e] at this; omega)
  obtain ⟨-, S3, T3, f1, f2, f3, f4, f5, f6, f7, f8⟩ := y_takeFrom noE_n a.1 o3 o (by omega) e4
  have n13 := n1_take noE_n a.1 o3 o (by omega) e4 f1
  have w3 := f2.ci.wf.w0 f2.k1
  obtain ⟨S4, hS4⟩ : ∃ S4, S4 = if giC S1 (x + 13 + 3 * p) 0 = 1 then siC S3 (x + 3) 0 2 else S3 := ⟨_, rfl⟩
  have f24 : Sst noE x S T [] col S4 T3 [] c1 := by
    rw [hS4]
    split
    · exact f2.sort o3 2
    · exact f2
  have f34 : gX (fun z => z = x + 3) S3 S4 := by
    rw [hS4]
    split
    · exact gX.si S3 (x + 3) 0 2
    · exact (gF.rf S3).x
  have n34 : S4.1 = S3.1 := by
    rw [hS4]
    split <;> rfl
  have so := (r.2.2.1.2.1 p hp).2 z0
  have s4 : giC S4 (x + 3) 0 = if H.2 37 p = 0 then 2 else 3 := by
    rw [hS4, so]
    by_cases y : H.2 37 p = 0
    · rw [if_pos y, if_pos y]
      by_cases w : H.2 27 (hM H (p + 2) 0) = 0
      · rw [if_pos w, if_neg (by decide), f4, so, if_pos y, if_pos w]
      · rw [if_neg w, if_pos rfl, gi_si, if_pos ⟨rfl, rfl⟩]
    · rw [if_neg y, if_neg y, if_neg (by decide), f4, so, if_neg y]
  have e1 : f_Y1_perform S1 x 14 i b c d = (f_Y6_kind S4 (x + 3), S4) := by
    have e : f_Y1_perform S1 x 14 i b c d = f_Y1_takeUp S1 x i := by
      unfold f_Y1_perform b_Y1_perform_229a
      rfl
    rw [e]
    unfold f_Y1_takeUp b_Y1_takeUp_18 b_Y1_takeUp_37
    rw [pv, a.g2]
    simp only [reduceCtorEq, if_false, Option.getD_some, f1]
    rw [w3.2.1.2.2.1, Option.getD_some, f4, hS4]
    by_cases y : giC S1 (x + 13 + 3 * p) 0 = 1
    · rw [if_pos y, if_pos y, gr_si, w3.2.1.2.2.1]
      rfl
    · rw [if_neg y, if_neg y]
  rw [e1]
  clear e1 hS4
  -- the rows
  obtain ⟨H2, hH2⟩ : ∃ H2, H2 = sR (sA (sI (sI (sR H 32 u) 35 (H.2 34 p)) 36 (H.2 37 p)) 34 p 0) 27 (upd (H.2 27) (hM H (p + 2) 0) 0) := ⟨_, rfl⟩
  have DO2 : HC ((H.1 7).toInt + 1) (sR (sA (sI (sI (sR H 32 u) 35 (H.2 34 p)) 36 (H.2 37 p)) 34 p 0) 27 (upd (H.2 27) (hM H (p + 2) 0) 0)) := DO2
  rw [← hH2] at DO2 ⊢
  have q1 : ∀ j, j ≠ 35 → j ≠ 36 → H2.1 j = H.1 j := fun j y y2 => by
    rw [hH2]
    show (if j = 36 then _ else if j = 35 then _ else H.1 j) = H.1 j
    rw [if_neg y2, if_neg y]
  have q35 : H2.1 35 = H.2 34 p := by rw [hH2]; rfl
  have q36 : H2.1 36 = H.2 37 p := by rw [hH2]; rfl
  have q2 : ∀ k, k ≠ 27 → k ≠ 32 → k ≠ 34 → H2.2 k = H.2 k := fun k y y2 y3 => by
    rw [hH2]
    show (if k = 27 then _ else if k = 34 then _ else if k = 32 then _ else H.2 k) = H.2 k
    rw [if_neg y, if_neg y3, if_neg y2]
  have q32 : H2.2 32 = u := by rw [hH2]; rfl
  have q27 : H2.2 27 = upd (H.2 27) (hM H (p + 2) 0) 0 := by rw [hH2]; rfl
  have q34 : H2.2 34 = upd (H.2 34) p 0 := by rw [hH2]; rfl
  clear hH2
  have r1 : hN H2 1 = hN H (p + 2) := by show (H2.1 35).toInt = _; rw [q35]; rfl
  have r2 : hN H2 (p + 2) = 0 := by show (H2.2 34 p).toInt = 0; rw [q34, upd_eq]; rfl
  have r3 : ∀ g, g ≠ 1 → g ≠ p + 2 → hN H2 g = hN H g := fun g n1 n2 => by
    match g, n1 with
    | 0, _ => show (H2.1 6).toInt = _; rw [q1 6 (by decide) (by decide)]; rfl
    | p' + 2, _ => show (H2.2 34 p').toInt = (H.2 34 p').toInt; rw [q34, upd_ne (by omega)]
  have r4 : ∀ i : Nat, (i : Int) < hN H (p + 2) → hM H2 1 i = hM H (p + 2) i := fun i hi => by
    show (H2.2 32 i).toNatClampNeg = (H.2 33 (9 * p + i)).toNatClampNeg
    rw [q32, u1 i hi]
  have r5 : ∀ g i, g ≠ 1 → hM H2 g i = hM H g i := fun g i n => by
    unfold hM
    match g, n with
    | 0, _ => show (H2.2 31 i).toNatClampNeg = _; rw [q2 31 (by decide) (by decide) (by decide)]; rfl
    | p' + 2, _ => show (H2.2 33 (9 * p' + i)).toNatClampNeg = _; rw [q2 33 (by decide) (by decide) (by decide)]; rfl
  have r6 : hT H2 1 ↔ hT H (p + 2) := by show H2.1 36 ≠ 0 ↔ H.2 37 p ≠ 0; rw [q36]
  have r7 : ∀ g, g ≠ 1 → (hT H2 g ↔ hT H g) := fun g n => by
    match g, n with
    | 0, _ => exact Iff.rfl
    | p' + 2, _ => show H2.2 37 p' ≠ 0 ↔ H.2 37 p' ≠ 0; rw [q2 37 (by decide) (by decide) (by decide)]
  have G : gX (D5 x S4.1) S1 S4 := (f3.mo (fun z y => Or.inr (y.elim (fun y => by rw [y]; exact o3) (fun y => by rw [y]; exact o)))).tr (f34.mo (fun z y => Or.inr (Or.inl y)))
  obtain ⟨⟨K1, K2, K3, K4⟩, K8, Kc⟩ := frD (H2 := H2) r a.ci a.k1 G f24.ci.wf (Or.inr (Nat.le_refl _)) (fun z k => Or.inr (ik_b (ik_b k f34.1 n34) f3.1 n13)) (fun k => absurd k.1 (Nat.lt_irrefl _)) (fun k h1 h2 => q1 k (by omega) (by omega)) (q1 39 (by decide) (by decide)) ⟨q2 11 (by decide) (by decide) (by decide), q2 12 (by decide) (by decide) (by decide), q2 38 (by decide) (by decide) (by decide), q2 40 (by decide) (by decide) (by decide), q2 41 (by decide) (by decide) (by decide)⟩
  have eT1 : T3 (rP x 1) = T1 (rP x (p + 2)) := f6
  have eTp : T3 (rP x (p + 2)) = [] := f7
  have eTo : ∀ g, g ≠ 1 → g ≠ p + 2 → T3 (rP x g) = T1 (rP x g) := fun g n1 n2 => f8 _ (fun y => n1 (rP_inj (x := x) (g := g) (g' := 1) y)) (fun y => n2 (rP_inj (x := x) (g := g) (g' := p + 2) y))
  have cs : ∀ g i, hL H g i → ∀ j, j < 4 → ∀ k, giC S4 ((T1 (rP x g)).getD i 0 + j) k = giC S1 ((T1 (rP x g)).getD i 0 + j) k := fun g i l => by
    have k := a.m3 (gD_mem (r.2.1.mem l))
    exact Kc _ k (fun y => by have := k.1; have := G.1.1.1; omega)
  have c0 : ∀ g i, hL H g i → ∀ k, giC S4 ((T1 (rP x g)).getD i 0) k = giC S1 ((T1 (rP x g)).getD i 0) k := fun g i l => cs g i l 0 (by omega)
  have n4 := r.2.2.2.2.2.2.2.2
  have R4 : RR wF N S4 T3 x H2 := by
    have main : ∀ gs, (H.2 37 p = 0 ∧ gs = 1 ∨ H.2 37 p ≠ 0 ∧ gs = 10) → RR wF N S4 T3 x H2 := fun gs hgs => by
      have one : hL H2 gs 0 → gs = 1 ∧ H.2 37 p = 0 := fun l => by
        rcases hgs with ⟨y, z⟩ | ⟨y, z⟩
        · exact ⟨z, y⟩
        · have := l.1
          omega
      refine r.ex (gs := gs) (is := 0) h.1.1 DO2 K1 K2 K3 K4 (q1 0 (by decide) (by decide)) (fun g hg => ?_) ⟨fun y => ?_, fun y => ?_⟩ (fun p' hp' => ?_) ⟨by rw [K8]; exact Int.le_refl _, by rw [K8]; exact r.2.2.2.2.2.1.2⟩ (fun s h1 h2 => by rw [q1 30 (by decide) (by decide)]; omega) (fun g i l n => ?_) (fun l => ?_) (fun l t => ?_) (fun l t => ?_) (fun l j lj t d k => ?_) (fun l t d k => ?_)
      · by_cases y1 : g = 1
        · rw [y1, eT1, r1]
          exact (r.2.1 (p + 2) (by omega)).1
        · by_cases y2 : g = p + 2
          · rw [y2, eTp, r2]
            rfl
          · rw [eTo g y1 y2, r3 g y1 y2]
            exact (r.2.1 g hg).1
      · rw [q35] at y
        exact absurd y z0
      · rw [q36]
        exact s4
      · by_cases y : p' = p
        · subst y
          rw [q34, upd_eq]
          refine ⟨fun _ => ?_, fun w => absurd rfl w⟩
          rw [srt f34 f2.ci f2.k1 o (by omega)]
          exact f5
        · have o' : pl x (x + 13 + 3 * p') := Or.inr ⟨p', hp', rfl⟩
          rw [q34, upd_ne y, q2 37 (by decide) (by decide) (by decide), srt f34 f2.ci f2.k1 o' (by omega), srt f3 a.ci a.k1 o' (by omega), r5 _ _ (by omega), q27]
          refine ⟨(r.2.2.1.2.1 p' hp').1, fun w => ?_⟩
          have b := h.1.1.1 (p' + 2) (by omega)
          have w' := mt iEq.mpr w
          rw [i0] at w'
          have e0 : hN H (p' + 2) = (H.2 34 p').toInt := rfl
          have l' : hL H (p' + 2) 0 := ⟨by omega, by omega⟩
          rw [upd_ne (fun v => by have := (h.1.1.d l' L0 v).1; omega)]
          exact (r.2.2.1.2.1 p' hp').2 w
      · have fin : ∀ g' i', hL H g' i' → hM H2 g i = hM H g' i' → (hT H2 g ↔ hT H g') → (¬ hT H g' → 2 ≤ g' → 2 ≤ g) → T3 (rP x g) = T1 (rP x g') → i = i' → (¬ hT H g' → ¬ (g' = p + 2 ∧ i' = 0)) → ∃ g' i', oM S1 S4 T1 T3 x H H2 g i g' i' := fun g' i' l' m' t' g2 e' ei np' => by
          refine ⟨g', i', l', m', t', g2, by rw [e', ei], cs g' i' l', fun k h1 h2 => by rw [q2 k (by omega) (by omega) (by omega)], fun t => ?_, fun n _ => by rw [q2 28 (by decide) (by decide) (by decide)], fun n _ => by rw [q2 29 (by decide) (by decide) (by decide)]⟩
          rw [q27]
          exact upd_ne (fun v => np' t (h.1.1.d l' L0 v))
        by_cases y1 : g = 1
        · have l2 := l.2
          rw [y1, r1] at l2
          have l' : hL H (p + 2) i := ⟨by omega, l2⟩
          rcases hgs with ⟨y, z⟩ | ⟨y, z⟩
          · exfalso
            have := lone0 h.1.1 l' (fun t => t y)
            exact n ⟨by omega, this⟩
          · exact fin (p + 2) i l' (by rw [y1]; exact r4 i l2) (by rw [y1]; exact r6) (fun t => absurd y t) (by rw [y1]; exact eT1) rfl (fun t => absurd y t)
        · by_cases y2 : g = p + 2
          · have := l.2
            rw [y2, r2] at this
            omega
          · have l2 := l.2
            rw [r3 g y1 y2] at l2
            exact fin g i ⟨l.1, l2⟩ (r5 g i y1) (r7 g y1) (fun _ => id) (eTo g y1 y2) rfl (fun _ w => y2 w.1)
      · obtain ⟨rfl, y⟩ := one l
        rw [eT1, r4 0 (by omega)]
        have b := (h.1.1.2.2.2.2.1 _ _ L0).2.1.2
        exact ((r.2.1 (p + 2) (by omega)).2 0 (r.2.1.mem L0)).cg (cs _ _ L0) (q1 0 (by decide) (by decide)) (fun k h1 h2 => by rw [q2 k (by omega) (by omega) (by omega)]) (fun n _ => by rw [q2 28 (by decide) (by decide) (by decide)]) (fun n _ => by rw [q2 29 (by decide) (by decide) (by decide)])
      · obtain ⟨rfl, y⟩ := one l
        have nt : ¬ hT H (p + 2) := fun t => t y
        rw [eT1, r4 0 (by omega), c0 _ _ L0, q2 25 (by decide) (by decide) (by decide), q2 26 (by decide) (by decide) (by decide), q27, upd_eq]
        exact ⟨r.2.2.1.2.2.1 _ (by omega) L0 nt, r.2.2.1.2.2.2.1 _ (by omega) L0 nt, fun v => absurd rfl v⟩
      · obtain ⟨rfl, y⟩ := one l
        exact absurd y (r6.mp t)
      · obtain ⟨rfl, y⟩ := one l
        rw [r4 0 (by omega), q2 22 (by decide) (by decide) (by decide)]
        exact (n4 j lj t d k).2.2.2 (p + 2) L0 (fun t => t y)
      · obtain ⟨rfl, y⟩ := one l
        have nt : ¬ hT H (p + 2) := fun t => t y
        rw [r4 0 (by omega), q2 25 (by decide) (by decide) (by decide)] at d
        rw [r4 0 (by omega), q2 14 (by decide) (by decide) (by decide)] at k
        obtain ⟨j1, j2, j3, j4⟩ := n4 _ L0 nt d k
        unfold jN
        rw [eT1, r4 0 (by omega), c0 _ _ L0, K8, q2 23 (by decide) (by decide) (by decide), q1 30 (by decide) (by decide)]
        refine ⟨j1, j2, fun g i lg tg => ?_, fun g lg tg => ?_⟩
        · have y1 : g ≠ 1 := fun v => by
            rw [v] at tg
            exact absurd y (r6.mp tg)
          have y2 : g ≠ p + 2 := fun v => by
            have := lg.2
            rw [v, r2] at this
            omega
          have lg' : hL H g i := ⟨lg.1, by rw [← r3 g y1 y2]; exact lg.2⟩
          rw [r5 g i y1, q2 22 (by decide) (by decide) (by decide), eTo g y1 y2, c0 _ _ lg']
          exact j3 g i lg' ((r7 g y1).mp tg)
        · rw [q2 22 (by decide) (by decide) (by decide)]
          by_cases y1 : g = 1
          · rw [y1, r4 0 (by omega)]
            exact j4 _ L0 nt
          · have y2 : g ≠ p + 2 := fun v => by
              have := lg.2
              rw [v, r2] at this
              omega
            rw [r5 g 0 y1]
            exact j4 g ⟨lg.1, by rw [← r3 g y1 y2]; exact lg.2⟩ (mt (r7 g y1).mpr tg)
    by_cases y : H.2 37 p = 0
    · exact main 1 (Or.inl ⟨y, rfl⟩)
    · exact main 10 (Or.inr ⟨y, rfl⟩)
  refine ⟨S4, T3, c1, ?_, f24, R4.up (by omega)⟩
  refine Prod.ext ?_ rfl
  show f_Y6_kind S4 (x + 3) = if H.2 37 p = 0 then H.2 14 (hM H (p + 2) 0) else 7
  have w5 := f24.ci.wf.w5 (o3.lt f24.ci f24.k1)
  unfold f_Y6_kind b_Y6_kind_32
  rw [s4]
  by_cases y : H.2 37 p = 0
  · have le : 0 < (T3 (x + 3 + 1)).length := by
      have := r.2.1.mem L0
      rw [show T3 (x + 3 + 1) = T1 (rP x (p + 2)) from eT1]
      exact this
    have at0 := at_s f24.ci (noE_n _) w5.1 (i := 0) (by rw [i0]; omega) (by rw [i0]; omega)
    rw [if_pos y, if_pos y, if_neg (by decide), w5.2, Option.getD_some, at0, if_neg (by simp), Option.getD_some, zn0, show T3 (x + 3 + 1) = T1 (rP x (p + 2)) from eT1, c0 _ _ L0]
    exact ((r.2.1 (p + 2) (by omega)).2 0 (r.2.1.mem L0)).1.1
  · rw [if_neg y, if_neg y, if_pos rfl]
end
