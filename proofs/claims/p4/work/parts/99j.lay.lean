/-! ===== acts 13, 14, 15: lay, take, move ===== -/
section
variable {x : Nat} {S S1 S2 S3 : Cst} {T T1 T2 : Nat → List Nat} {col c1 : Nat → Nat}
theorem QU.aI {E : Nat → Prop} {F F1 : List Nat} (u : QU E x S T F col T1 F1 c1 S1 S2) (b : Nat) (v : Int32) : QU E x S T F col T1 F1 c1 S1 (siC S2 x b v) := by
  have k := u.1.k1.2
  exact u.si (u.1.cx 0 (by omega)) (by rw [k]; decide) (ok_n (by omega)) (fun z => by omega) (fun z => by omega)
theorem gX_s {D : Nat → Prop} {d : Nat} (f : gX D S2 S3) (k : iK S2 d 5) (n : ¬ D d) : giC S3 d 0 = giC S2 d 0 := f.2.1 d k.1 (by rw [k.2]; decide) n 0
theorem gX_k {D : Nat → Prop} {d : Nat} (f : gX D S2 S3) (k : iK S2 d 3) (n : ¬ D d) : giC S3 d 2 = giC S2 d 2 := f.2.1 d k.1 (by rw [k.2]; decide) n 2
theorem s_ne {v w : Int32} (h : sK v) (h0 : v ≠ 0) (h1 : v ≠ 1) (h2 : v ≠ 2) : v = 3 := by
  rcases h with h | h | h | h
  · exact absurd h h0
  · exact absurd h h1
  · exact absurd h h2
  · exact h
theorem ly_64 (a : AS x S T col S1 T1 c1) {p : Nat} (hp : p < 8) (hs : giC S1 (x + 13 + 3 * p) 0 = 0) (hd : giC S1 (x + 3) 0 ≠ 0) (hr : nd S1 (T1 (x + 1)) → fcU S1 x 8 ≠ 1) {S2 : Cst} (u : QU noE x S T [] col T1 [] c1 S1 S2) (i : Int32) (r tp : Option Nat) : q_Y1_layDown_64 S2 x i (some (x + 13 + 3 * p)) r tp ∧ ∃ v S3 T3, b_Y1_layDown_64 S2 x i (some (x + 13 + 3 * p)) r tp = (v, S3) ∧ AS x S T col S3 T3 c1 ∧ eN S1 S3 := by
  have o3 : pl x (x + 3) := Or.inl rfl
  have o : pl x (x + 13 + 3 * p) := Or.inr ⟨p, hp, rfl⟩
  have a2 : PI S2 T1 x := a.2.kp a.1.ci a.1.k1 u.2.1 (fun _ _ _ => rfl)
  have h2 := u.1
  have w2 := u.w0
  have k3 := o3.lt h2.ci h2.k1
  have kp := o.lt h2.ci h2.k1
  have e1 := u.2.1.2.1 _ (o.lt a.1.ci a.1.k1).1 (o.lt a.1.ci a.1.k1).2
  have e3 := u.2.1.2.1 _ (o3.lt a.1.ci a.1.k1).1 (o3.lt a.1.ci a.1.k1).2
  have hT : T1 (x + 13 + 3 * p + 1) = [] := (a.2.1 _ o).1 hs
  obtain ⟨p1, S3, T3, f1, f2, f3, f4, f5, f6, f7, f8⟩ := y_takeFrom noE_n h2 o o3 (by omega) hT
  unfold q_Y1_layDown_64 b_Y1_layDown_64 q_Y1_layDown_76 b_Y1_layDown_76
  simp only [reduceCtorEq, if_false]
  rw [w2.2.1.2.2.1]
  simp only [Option.getD_some, ir_so, f1]
  refine ⟨⟨kp, k3, p1, trivial⟩, _, S3, T3, rfl, ⟨f2, ?_⟩, u.2.2.n.tr f3.1⟩
  have A := a2.1 _ o3
  have f4' : giC S3 (x + 13 + 3 * p) 0 = giC S1 (x + 3) 0 := f4.trans e3
  have hf := fcU_at (S1 := S2) (S2 := S3) (x := x) (p := p) 8 hp (fun r hr n => by
    have o' : pl x (x + 13 + 3 * r) := Or.inr ⟨r, hr, rfl⟩
    exact gX_s f3 (o'.lt h2.ci h2.k1) (by omega))
  have hf2 : fcU S2 x 8 = fcU S1 x 8 := fcU_cg 8 (fun r hr => by
    have o' : pl x (x + 13 + 3 * r) := Or.inr ⟨r, hr, rfl⟩
    exact u.2.1.2.1 _ (o'.lt a.1.ci a.1.k1).1 (o'.lt a.1.ci a.1.k1).2)
  rw [if_pos (e1.trans hs), f4', if_neg hd] at hf
  have ht1 : T3 (x + 1) = T1 (x + 1) := f8 _ (by omega) (by omega)
  have hn : nd S3 (T3 (x + 1)) → 1 ≤ fcU S3 x 8 := fun n => by
    have n1 : nd S1 (T1 (x + 1)) := nd_sub (fun q m => by
      rw [ht1] at m
      have k1 := (a.1.ci.tk _ _ m).1
      have k2 := k1.e u.2.2
      exact ⟨m, (gX_k f3 k2 (fun z => by rcases z with z | z <;> (have e := k2.2; rw [z] at e; first | rw [kp.2] at e | rw [k3.2] at e) <;> omega)).trans (u.2.1.2.2 q k1.1 k1.2)⟩) n
    have := hr n1
    omega
  refine a2.pc (p0 := p) (fun r hr n => ⟨?_, ?_⟩) ⟨fun z => ?_, fun z => ?_, ?_⟩ ⟨fun _ => f7, fun _ => ?_, ?_, ?_⟩ hn (fun z => ?_) (fun _ z => ?_)
  · have o' : pl x (x + 13 + 3 * r) := Or.inr ⟨r, hr, rfl⟩
    exact gX_s f3 (o'.lt h2.ci h2.k1) (by omega)
  · exact f8 _ (by omega) (by omega)
  · rw [f4'] at z
    exact absurd z hd
  · rw [f6]
    rw [f4] at z
    exact A.2.1 z
  · rw [f4]
    exact A.2.2.1
  · rw [show x + 4 = x + 3 + 1 by omega, f7]
    exact Nat.zero_le _
  · rw [f5]
    exact s0
  · rw [f5]
    decide
  · rw [f5] at z
    exact absurd z (by decide)
  · rw [f5] at z
    exact absurd z (by decide)
theorem y_lay (a : AS x S T col S1 T1 c1) {p : Nat} (hp : p < 8) {i : Int32} (hi : i.toInt = p) (hs : giC S1 (x + 13 + 3 * p) 0 = 0) (hd : giC S1 (x + 3) 0 ≠ 0) (hr : nd S1 (T1 (x + 1)) → fcU S1 x 8 ≠ 1) : am x S T col S1 (fun _ _ => p_Y1_layDown S1 x i) (f_Y1_layDown S1 x i) := by
  have h := a.1
  have u := QU.rf h
  have w0 := u.w0
  have hm := mo_c h (show pl x (x + 3) from Or.inl rfl)
  have ht := tp_c h
  have K := fun {S2 : Cst} (u : QU noE x S T [] col T1 [] c1 S1 S2) r tp => ly_64 a hp hs hd hr u i r tp
  have pv := pa_v h.ci.wf h.k1 hp hi
  have P1 := y_placeAt h.ci.wf h.k1 i
  have P2 := y_motion h.ci.wf w0.1.2.2.1
  have P3 := y_top h.ci.wf w0.1.2.1
  unfold am p_Y1_layDown f_Y1_layDown
  rw [pv, w0.2.1.2.2.1, w0.2.1.2.1]
  simp only [Option.getD_some]
  generalize f_Y6_motion S1 (x + 3) = r at hm ⊢
  generalize f_Y5_top S1 (x + 1) = tp at ht ⊢
  rcases hm with rfl | ⟨q, rfl, k, c⟩
  · obtain ⟨k1, v, S3, T3, k2, k3, k4⟩ := K u none tp
    simp only [if_true]
    exact ⟨v, S3, T3, c1, k2, fun _ _ _ _ => ⟨P1, ir_so.mpr w0.1.2.2.1, P2, ir_so.mpr w0.1.2.1, P3, k1⟩, k3, k4⟩
  · simp only [reduceCtorEq, if_false, Option.getD_some]
    by_cases e : giC S1 q 10 = 0
    · simp only [if_pos e]
      have u1 := u.mI k c 10 1 (by omega) (fun _ => bz1)
      have kq : iK (siC S1 q 10 1) q 3 := ik_si.mpr k
      have B : ∀ y0, q_Y1_layDown_61 (siC S1 q 10 1) x i (some (x + 13 + 3 * p)) (some q) tp y0 (some q) ∧ ∃ v S3 T3, b_Y1_layDown_61 (siC S1 q 10 1) x i (some (x + 13 + 3 * p)) (some q) tp y0 (some q) = (v, S3) ∧ AS x S T col S3 T3 c1 ∧ eN S1 S3 := fun y0 => by
        obtain ⟨k1, k2⟩ := K (u1.mI kq c 1 y0 (by omega) (by omega)) (some q) tp
        exact ⟨⟨ir_so.mpr kq, k1⟩, k2⟩
      have C : ∀ am, q_Y1_layDown_44a (siC S1 q 10 1) x i (some (x + 13 + 3 * p)) (some q) tp am (some q) ∧ ∃ v S3 T3, b_Y1_layDown_44a (siC S1 q 10 1) x i (some (x + 13 + 3 * p)) (some q) tp am (some q) = (v, S3) ∧ AS x S T col S3 T3 c1 ∧ eN S1 S3 := fun am => by
        unfold q_Y1_layDown_44a b_Y1_layDown_44a q_Y1_layDown_60 b_Y1_layDown_60
        by_cases z : am = 0
        · simp only [if_pos z]
          exact B 0
        · simp only [if_neg z]
          rcases ht with rfl | ⟨t, rfl, kt, ct⟩
          · simp only [if_true]
            exact B 0
          · simp only [reduceCtorEq, if_false, Option.getD_some]
            obtain ⟨b1, b2⟩ := B (giC (siC S1 q 10 1) t 0)
            exact ⟨⟨ir_so.mpr (ik_si.mpr kt), b1⟩, b2⟩
      obtain ⟨k1, v, S3, T3, k2, k3, k4⟩ := C (f_Y4_amends (siC S1 q 10 1) q)
      exact ⟨v, S3, T3, c1, k2, fun _ _ _ _ => ⟨P1, ir_so.mpr w0.1.2.2.1, P2, ir_so.mpr w0.1.2.1, P3, ir_so.mpr k, ir_so.mpr k, ir_so.mpr kq, y_amends _ _, k1⟩, k3, k4⟩
    · simp only [if_neg e]
      obtain ⟨k1, v, S3, T3, k2, k3, k4⟩ := K u (some q) tp
      exact ⟨v, S3, T3, c1, k2, fun _ _ _ _ => ⟨P1, ir_so.mpr w0.1.2.2.1, P2, ir_so.mpr w0.1.2.1, P3, ir_so.mpr k, k1⟩, k3, k4⟩
theorem y_take (a : AS x S T col S1 T1 c1) {p : Nat} (hp : p < 8) {i : Int32} (hi : i.toInt = p) (hd : giC S1 (x + 3) 0 = 0) (hs : giC S1 (x + 13 + 3 * p) 0 ≠ 0) : am x S T col S1 (fun _ _ => p_Y1_takeUp S1 x i) (f_Y1_takeUp S1 x i) := by
  have h := a.1
  have w0 := h.ci.wf.w0 h.k1
  have o3 : pl x (x + 3) := Or.inl rfl
  have o : pl x (x + 13 + 3 * p) := Or.inr ⟨p, hp, rfl⟩
  have k3 := o3.lt h.ci h.k1
  have kp := o.lt h.ci h.k1
  have pv := pa_v h.ci.wf h.k1 hp hi
  have P1 := y_placeAt h.ci.wf h.k1 i
  obtain ⟨p1, S3, T3, f1, f2, f3, f4, f5, f6, f7, f8⟩ := y_takeFrom noE_n h o3 o (by omega) (a.c0 o3 hd)
  have w3 := f2.ci.wf.w0 f2.k1
  have A := a.2.1 _ o
  have hf := fcU_at (S1 := S1) (S2 := S3) (x := x) (p := p) 8 hp (fun r hr n => by
    have o' : pl x (x + 13 + 3 * r) := Or.inr ⟨r, hr, rfl⟩
    exact gX_s f3 (o'.lt h.ci h.k1) (by omega))
  rw [if_neg hs, f5, if_pos rfl] at hf
  have ht1 : T3 (x + 1) = T1 (x + 1) := f8 _ (by omega) (by omega)
  have key : ∀ S4, eK S3 S4 → Sst noE x S T [] col S4 T3 [] c1 → (∀ q, q < S3.1 → q ≠ x + 3 → S4.2.2 q = S3.2.2 q) → (sK (giC S4 (x + 3) 0) ∧ giC S4 (x + 3) 0 ≠ 0 ∧ giC S4 (x + 3) 0 ≠ 1 ∧ (giC S4 (x + 3) 0 ≠ 3 → giC S1 (x + 13 + 3 * p) 0 ≠ 3)) → (q_Y1_takeUp_37 S4 x i (some (x + 13 + 3 * p)) ∧ ∃ v, b_Y1_takeUp_37 S4 x i (some (x + 13 + 3 * p)) = (v, S4)) ∧ AS x S T col S4 T3 c1 ∧ eN S1 S4 := by
    intro S4 ek h4 fr hs4
    have w4 := h4.ci.wf.w0 h4.k1
    unfold q_Y1_takeUp_37 b_Y1_takeUp_37
    rw [w4.2.1.2.2.1]
    simp only [Option.getD_some, ir_so]
    have hg : ∀ z k, iK S3 z k → z ≠ x + 3 → ∀ j, giC S4 z j = giC S3 z j := fun z k kz n j => by
      unfold giC
      rw [fr z kz.1 n]
    have hp4 : ∀ r, r < 8 → giC S4 (x + 13 + 3 * r) 0 = giC S3 (x + 13 + 3 * r) 0 := fun r hr => by
      have o' : pl x (x + 13 + 3 * r) := Or.inr ⟨r, hr, rfl⟩
      exact hg _ _ (o'.lt f2.ci f2.k1) (by omega) 0
    have hf4 : fcU S4 x 8 = fcU S3 x 8 := fcU_cg 8 hp4
    refine ⟨⟨⟨w4.1.2.2.1, y_kind h4.ci.wf w4.1.2.2.1, trivial⟩, _, rfl⟩, ⟨h4, ?_⟩, f3.1.tr ek.n⟩
    have hn : nd S4 (T3 (x + 1)) → nd S1 (T1 (x + 1)) := nd_sub (fun q m => by
      have kq3 := (f2.ci.tk _ _ m).1
      rw [ht1] at m
      have k1 := (h.ci.tk _ _ m).1
      have ne3 : q ≠ x + 3 := fun z => by have := k1.2; rw [z, k3.2] at this; omega
      have nep : q ≠ x + 13 + 3 * p := fun z => by have := k1.2; rw [z, kp.2] at this; omega
      exact ⟨m, (hg q 3 kq3 ne3 2).trans (gX_k f3 k1 (by omega))⟩)
    refine a.2.pc (p0 := p) (fun r hr n => ⟨?_, ?_⟩) ⟨fun _ => f7, fun _ => ?_, ?_⟩ ⟨fun z => ?_, fun z => ?_, hs4.1, hs4.2.2.1⟩ (fun _ => ?_) (fun z => ?_) (fun n z => ?_)
    · have o' : pl x (x + 13 + 3 * r) := Or.inr ⟨r, hr, rfl⟩
      exact (hp4 r hr).trans (gX_s f3 (o'.lt h.ci h.k1) (by omega))
    · exact f8 _ (by omega) (by omega)
    · rw [f7]
      exact Nat.zero_le _
    · rw [hp4 p hp, f5]
      exact s0
    · exact absurd z hs4.2.1
    · rw [show x + 4 = x + 3 + 1 by omega, f6]
      exact A.2.1 (hs4.2.2.2 z)
    · omega
    · omega
    · have := a.2.2.1 (hn n)
      omega
  unfold am p_Y1_takeUp f_Y1_takeUp q_Y1_takeUp_18 b_Y1_takeUp_18
  rw [pv]
  simp only [reduceCtorEq, if_false, Option.getD_some]
  rw [w0.2.1.2.2.1, Option.getD_some, f1]
  simp only
  rw [w3.2.1.2.2.1, Option.getD_some, f4]
  have k33 := o3.lt f2.ci f2.k1
  by_cases e : giC S1 (x + 13 + 3 * p) 0 = 1
  · simp only [if_pos e]
    have ev : giC (siC S3 (x + 3) 0 2) (x + 3) 0 = 2 := by rw [gi_si, if_pos ⟨rfl, rfl⟩]
    obtain ⟨⟨b1, v, b2⟩, b3, b4⟩ := key (siC S3 (x + 3) 0 2) (eK.si ..) (f2.sort o3 2) (fun q _ n => ce_si _ _ n) (by rw [ev, e]; exact ⟨s2, by decide, by decide, fun _ => by decide⟩)
    exact ⟨v, _, T3, c1, b2, fun _ _ _ _ => ⟨P1, ir_so.mpr k3, ir_so.mpr kp, p1, ir_so.mpr k33, ir_so.mpr k33, b1⟩, b3, b4⟩
  · simp only [if_neg e]
    obtain ⟨⟨b1, v, b2⟩, b3, b4⟩ := key S3 (eK.rf _) f2 (fun q _ _ => rfl) (by rw [f4]; exact ⟨A.2.2.1, hs, e, fun z => z⟩)
    exact ⟨v, _, T3, c1, b2, fun _ _ _ _ => ⟨P1, ir_so.mpr k3, ir_so.mpr kp, p1, ir_so.mpr k33, b1⟩, b3, b4⟩
theorem br_40 (a : AS x S T col S1 T1 c1) (hd : giC S1 (x + 3) 0 ≠ 0) {S2 : Cst} (u : QU noE x S T [] col T1 [] c1 S1 S2) (hl : (T1 (x + 1)).length + (T1 (x + 4)).length ≤ 9) (hn : nd S1 (T1 (x + 4)) → 1 ≤ fcU S1 x 8) (i : Int32) (r : Option Nat) : q_Y1_bringUp_40 S2 x i r ∧ ∃ v S3 T3, b_Y1_bringUp_40 S2 x i r = (v, S3) ∧ AS x S T col S3 T3 c1 ∧ eN S1 S3 := by
  have o3 : pl x (x + 3) := Or.inl rfl
  have h := a.1
  have h2 := u.1
  have w2 := u.w0
  have k3 := o3.lt h2.ci h2.k1
  have w5 := h2.ci.wf.w5 k3
  obtain ⟨p1, S3, T3, f1, f2, f3, f4, f5, f6⟩ := y_pour noE_n h2 o3.o.1 o3.o.2.1 (show own x (x + 1) from Or.inr (Or.inl rfl)) (by omega) (by omega) hl
  have w3 := f2.ci.wf.w0 f2.k1
  have k33 := o3.lt f2.ci f2.k1
  have h4 := f2.sort o3 0
  have w4 := h4.ci.wf.w0 h4.k1
  have u5 := (QU.rf h4).hI 6 (-1) (by omega)
  have w6 := u5.w0
  unfold q_Y1_bringUp_40 b_Y1_bringUp_40 q_Y1_bringUp_54a b_Y1_bringUp_54a
  rw [w2.2.1.2.2.1, w2.2.1.2.1]
  simp only [Option.getD_some]
  rw [w5.2, Option.getD_some, f1]
  simp only
  rw [w3.2.1.2.2.1]
  simp only [Option.getD_some]
  rw [w4.2.1.1, Option.getD_some, w6.2.1.2.1]
  refine ⟨⟨ir_so.mpr k3, ir_so.mpr w5.1, ir_so.mpr w2.1.2.1, p1, ir_so.mpr k33, ir_so.mpr w4.1.1, ir_so.mpr w6.1.2.1, trivial⟩, _, _, T3, rfl, ⟨u5.1, ?_⟩, (u.2.2.n.tr f3.1).tr ((eK.si ..).n.tr u5.2.2.n)⟩
  have hs : ∀ z j, iK S3 z j → z ≠ x + 3 → z ≠ x + 37 → ∀ m, giC (siC (siC S3 (x + 3) 0 0) (x + 37) 6 (-1)) z m = giC S3 z m := fun z j _ n1 n2 m => by
    rw [gi_si, if_neg (fun y => n2 y.1), gi_si, if_neg (fun y => n1 y.1)]
  have ed : giC (siC (siC S3 (x + 3) 0 0) (x + 37) 6 (-1)) (x + 3) 0 = 0 := by
    rw [gi_si, if_neg (by omega), gi_si, if_pos ⟨rfl, rfl⟩]
  have n1 : nd (siC (siC S3 (x + 3) 0 0) (x + 37) 6 (-1)) (T3 (x + 1)) → 1 ≤ fcU S1 x 8 := fun ⟨q, m, n⟩ => by
    have kq3 := (f2.ci.tk _ _ m).1
    have kk : ∀ c, q ∈ T1 c → giC (siC (siC S3 (x + 3) 0 0) (x + 37) 6 (-1)) q 2 = giC S1 q 2 := fun c mc => by
      have k1 := (h.ci.tk _ _ mc).1
      have k2 := k1.e u.2.2
      rw [hs q 3 kq3 (fun z => by have := kq3.2; rw [z, k33.2] at this; omega) (fun z => by have := kq3.2; rw [z, w3.1.1.2] at this; omega) 2, f3.2.1 q k2.1 (by rw [k2.2]; decide), u.2.1.2.2 q k1.1 k1.2]
    rw [f5] at m
    rcases List.mem_append.mp m with m | m
    · rw [kk _ m] at n
      exact a.2.2.1 ⟨q, m, n⟩
    · rw [kk _ m] at n
      exact hn ⟨q, m, n⟩
  refine a.2.dr (fun r hr => ⟨?_, ?_⟩) ⟨fun _ => f4, fun _ => ?_, ?_, ?_⟩ n1 (fun z => ?_) (fun _ z => ?_)
  · have o' : pl x (x + 13 + 3 * r) := Or.inr ⟨r, hr, rfl⟩
    have k1 := o'.lt h.ci h.k1
    have k2 := o'.lt h2.ci h2.k1
    rw [hs _ 5 (o'.lt f2.ci f2.k1) (by omega) (by omega), f3.2.1 _ k2.1 (by rw [k2.2]; decide), u.2.1.2.1 _ k1.1 k1.2]
  · exact f6 _ (by omega) (by omega)
  · rw [show x + 4 = x + 3 + 1 by omega, f4]
    exact Nat.zero_le _
  · rw [ed]
    exact s0
  · rw [ed]
    decide
  · rw [ed] at z
    exact absurd z (by decide)
  · rw [ed] at z
    exact absurd z (by decide)
theorem y_bring (a : AS x S T col S1 T1 c1) (i : Int32) (hd : giC S1 (x + 3) 0 ≠ 0) (hc : (∃ q, f_Y6_motion S1 (x + 3) = some q ∧ (T1 (x + 1)).length < 9 ∧ (nK (giC S1 q 2) → 1 ≤ fcU S1 x 8)) ∨ (f_Y6_motion S1 (x + 3) = none ∧ T1 (x + 1) = [])) : am x S T col S1 (fun _ _ => p_Y1_bringUp S1 x i) (f_Y1_bringUp S1 x i) := by
  have h := a.1
  have u := QU.rf h
  have w0 := u.w0
  have o3 : pl x (x + 3) := Or.inl rfl
  have P2 := y_motion h.ci.wf w0.1.2.2.1
  have A := a.2.1 _ o3
  unfold am p_Y1_bringUp f_Y1_bringUp
  rw [w0.2.1.2.2.1]
  simp only [Option.getD_some]
  rcases hc with ⟨q, e, l9, hk⟩ | ⟨e, hT⟩
  · obtain ⟨s, l, hl⟩ := mo_i h.ci h.k1 o3 e
    have l1 := A.2.1 (by rw [s]; decide)
    rw [hl, List.length_cons] at l1
    have ln : l = [] := List.eq_nil_of_length_eq_zero (by omega)
    rw [ln] at hl
    have hl : T1 (x + 4) = [q] := hl
    have kq := h.ci.tk (x + 4) q (by rw [hl]; exact List.mem_cons_self ..)
    have cq : c1 q = x := by rw [kq.2]; exact h.cx 4 (by omega)
    rw [e]
    simp only [reduceCtorEq, if_false, Option.getD_some]
    have B := fun y0 y1 => br_40 a hd ((((u.aI 8 y0).mI (ik_si.mpr kq.1) cq 0 y1 (by omega) (by omega)).mI (ik_si.mpr (ik_si.mpr kq.1)) cq 3 i (by omega) (by omega)).mI (ik_si.mpr (ik_si.mpr (ik_si.mpr kq.1))) cq 10 0 (by omega) (fun _ => bz0)) (by rw [hl]; simp; omega) (fun ⟨z, m, n⟩ => by
      rw [hl] at m
      rw [List.mem_singleton.mp m] at n
      exact hk n) i (some q)
    obtain ⟨k1, v, S3, T3, k2, k3, k4⟩ := B (giC S1 x 8 + 1) (giC (siC S1 x 8 (giC S1 x 8 + 1)) x 8)
    exact ⟨v, S3, T3, c1, k2, fun _ _ _ _ => ⟨ir_so.mpr w0.1.2.2.1, P2, ir_so.mpr (ik_si.mpr kq.1), ir_so.mpr (ik_si.mpr (ik_si.mpr kq.1)), ir_so.mpr (ik_si.mpr (ik_si.mpr (ik_si.mpr kq.1))), k1⟩, k3, k4⟩
  · rw [e]
    simp only [if_true]
    have hn : nd S1 (T1 (x + 4)) → 1 ≤ fcU S1 x 8 := fun n => by
      have s3 : giC S1 (x + 3) 0 = 3 := by
        refine s_ne (w := 0) A.2.2.1 hd (A.2.2.2 rfl) (fun z => ?_)
        obtain ⟨m1, m2⟩ := mot_s h.ci h.k1 o3 (noE_n _) z
        cases t : T1 (x + 3 + 1) with
        | nil =>
          rw [show T1 (x + 4) = [] from t] at n
          exact nd_nil n
        | cons r l =>
          rw [m2 r l t] at e
          cases e
      exact a.2.2.2.1 s3
    obtain ⟨k1, v, S3, T3, k2, k3, k4⟩ := br_40 a hd u (by rw [hT]; have := l4_b h.ci h.k1; simp; omega) hn i none
    exact ⟨v, S3, T3, c1, k2, fun _ _ _ _ => ⟨ir_so.mpr w0.1.2.2.1, P2, k1⟩, k3, k4⟩
end
