/-! ===== the deeds: a result told, what is carried ===== -/
section
variable {wF : Prop × (Nat → Int32) × Int32 × (Nat → Int32)} {x : Nat} {S S1 S2 S3 S4 : Cst} {T T1 T2 T3 : Nat → List Nat} {F F1 : List Nat} {col c1 c2 c3 : Nat → Nat} {H H2 G R : HS} {N M M2 : Int} {v w3 w4 f25 f27 m hd Y Z o : Int32} {p q : Nat}
theorem uR.f5 (h : uR G R m p w3 w4 f25 f27) (v : Int32) : uR (sI G 5 v) (sI R 5 v) m p w3 w4 f25 f27 := by
  obtain ⟨⟨a1, a2, a3⟩, b⟩ := h
  refine ⟨⟨a1, a2, fun j y z => ?_⟩, b⟩
  show (if j = 5 then v else R.1 j) = (if j = 5 then v else G.1 j)
  by_cases w : j = 5
  · rw [if_pos w, if_pos w]
  · rw [if_neg w, if_neg w]
    exact a3 j y z
theorem end_B (s : Sst noE x S T [] col S1 T1 [] c1) (r : RR wF N S1 T1 x (sI R 5 v)) (g5 : R.1 5 = -1) (x1 : Option Nat) (hd Y Z o z : Int32) : ∃ S2, b_Y7_announce_195 S1 x x1 hd Y Z o z = (o, S2) ∧ Sst noE x S T [] col S2 T1 [] c1 ∧ RR wF N S2 T1 x R := by
  have w0 := s.ci.wf.w0 s.k1
  refine ⟨siC S1 (x + 37) 6 (-1), ?_, ((QU.rf s).hI 6 (-1) (by omega)).1, RF.fin r s.ci s.k1 g5⟩
  unfold b_Y7_announce_195
  rw [w0.2.1.1]
  rfl
theorem p173 (a : AS x S T col S1 T1 c1) (r : RR wF N S1 T1 x (sI G 5 v)) (h : RA G) (z6 : ¬ G.1 6 = 0) (g5 : G.1 5 = -1) (o4 : o = 4 → RA (f_X11_goes G).2 ∧ ¬ (f_X11_goes G).2.1 6 = 0) (x1 : Option Nat) (hd Y Z z : Int32) : ∃ S4 T4, b_Y7_announce_173 S1 x x1 hd Y Z o z = (o, S4) ∧ Sst noE x S T [] col S4 T4 [] c1 ∧ RR wF N S4 T4 x (if o = 4 then (f_X11_goes (f_X11_goes G).2).2 else (f_X11_goes G).2) := by
  obtain ⟨S2, T2, f1, a2, r2, -⟩ := goF a r h z6
  have g5' : (f_X11_goes G).2.1 5 = -1 := by
    rw [goes_e]
    exact g5
  unfold b_Y7_announce_173 b_Y7_announce_181a
  rw [a.g1, Option.getD_some, f1]
  simp only
  by_cases y : o = 4
  · obtain ⟨h2, z2⟩ := o4 y
    obtain ⟨S3, T3, f3, a3, r3, -⟩ := goF a2 r2 h2 z2
    rw [if_pos y, if_pos y, a2.g1, Option.getD_some, f3]
    have g5'' : (f_X11_goes (f_X11_goes G).2).2.1 5 = -1 := by
      rw [goes_e]
      exact g5'
    obtain ⟨S4, e, s, rr⟩ := end_B a3.1 r3 g5'' x1 hd Y Z o z
    exact ⟨S4, T3, e, s, rr⟩
  · rw [if_neg y, if_neg y]
    obtain ⟨S4, e, s, rr⟩ := end_B a2.1 r2 g5' x1 hd Y Z o z
    exact ⟨S4, T2, e, s, rr⟩
/-- the words of another one change: the row stays -/
theorem chg_f (h : HI M G) (hp : 2 ≤ (G.1 6).toInt) (hk : G.2 14 (f_X11_top G).1.toNatClampNeg = 2 ∨ G.2 14 (f_X11_top G).1.toNatClampNeg = 3) : (f_X11_change G (G.2 31 (G.1 6 - 2).toNatClampNeg) (f_X11_top G).1).2.1 = G.1 ∧ RA (f_X11_change G (G.2 31 (G.1 6 - 2).toNatClampNeg) (f_X11_top G).1).2 := by
  have hr := h.ra
  have t := top_in hr (by omega)
  have n0 := h.1.1 0 (by omega)
  have e0 : hN G 0 = (G.1 6).toInt := rfl
  have n6 := iNat (x := G.1 6) (by omega)
  have i2 : (2 : Int32).toInt = 2 := by decide
  have e2 := iSub (x := G.1 6) (y := 2) (by rw [i2]; omega) (by rw [i2]; omega)
  rw [i2] at e2
  have k2 := iNat (x := G.1 6 - 2) (by omega)
  obtain ⟨k, hkk⟩ : ∃ k : Nat, (G.1 6).toInt = k + 2 := ⟨(G.1 6).toNatClampNeg - 2, by omega⟩
  have ek : (G.1 6 - 2).toNatClampNeg = k := by omega
  have em : (f_X11_top G).1.toNatClampNeg = hM G 0 (k + 1) := by
    rw [top_m (by omega)]
    congr 1
    omega
  have lm : hL G 0 (k + 1) := ⟨by omega, by omega⟩
  have lt : hL G 0 k := ⟨by omega, by omega⟩
  have vt := h.1.2.1 0 k lt
  have wm := h.1.2.2.2.2.1 0 (k + 1) lm
  have wt := h.1.2.2.2.2.1 0 k lt
  have ch := h.1.2.2.2.2.2.2.2.1 0 k lm
  rw [em] at hk
  have cc := ch.2.1 hk
  rw [ek]
  have v1 : vp_in (G.2 31 k) 90 := vIn vt.1 vt.2.1
  have v2 : vp_in (f_X11_top G).1 90 := vIn t.1 t.2
  have et : (G.2 31 k).toNatClampNeg = hM G 0 k := rfl
  obtain ⟨-, x6, e6, q1, q2, q3, q4⟩ := change_i hr v1 v2 (by rw [et]; exact wt.2.1) (by rw [em]; exact wm.2.1) (by rw [em, et]; exact ⟨wm.2.2.1, wm.2.2.2.1, cc.2.1⟩) (by rw [em, et]; exact cc.2.2)
  refine ⟨q1, ?_⟩
  unfold RA
  rw [q1, q2 31 (by omega) (by omega) (by omega) (by omega) (by omega), q2 32 (by omega) (by omega) (by omega) (by omega) (by omega)]
  exact hr
theorem fpl_of (h : ∃ p, p < 8 ∧ G.2 34 p = 0) : ∃ p, fpl G p := by
  obtain ⟨p, f, -⟩ := fpl_ex 8 (by omega) h
  exact ⟨p, f⟩
/-- carried: what comes of it, in both -/
theorem car_B (a : AS x S T col S1 T1 c1) (r : RR wF N S1 T1 x (sI G 5 v)) (h : HI M G) (bM : 0 ≤ M ∧ M ≤ 1000000) (bN : N ≤ 1000000) (z6 : ¬ G.1 6 = 0) (g5 : G.1 5 = -1) (h98 : (G.1 9).toInt + 1 ≤ (G.1 8).toInt ∧ (G.1 8).toInt ≤ 1000) (mu : mR S1 q G (f_X11_top G).1.toNatClampNeg) (mq : q ∈ T1 (x + 1)) (eq : q = (T1 (x + 1)).getD (G.1 6 - 1).toNatClampNeg 0) (hd Y Z : Int32) (k9 : G.2 14 (f_X11_top G).1.toNatClampNeg ≠ 9) : ∃ S4 T4, b_Y7_announce_100 S1 x (some q) hd Y Z 1 1 = (1, S4) ∧ Sst noE x S T [] col S4 T4 [] c1 ∧ RR wF (N + 1) S4 T4 x (f_X11_carried G (f_X11_top G).1 (G.2 14 (f_X11_top G).1.toNatClampNeg)).2 := by
  have kq := a.m3 mq
  have hr := h.ra
  have p1 := pend_pos hr z6
  have b6 := hr.2.1
  have n6 := iNat (x := G.1 6) (by omega)
  have lt : hL G 0 ((G.1 6).toNatClampNeg - 1) := ⟨by omega, by show _ < (G.1 6).toInt; omega⟩
  have ti := top_in hr p1
  have em1 := topN p1
  have e1n : (G.1 6 - 1).toNatClampNeg = (G.1 6).toNatClampNeg - 1 := by omega
  have wk := h.1.2.2.2.2.1 0 _ lt
  rw [← top_m p1] at wk
  have wp : G.2 14 (f_X11_top G).1.toNatClampNeg = 4 ∨ G.2 14 (f_X11_top G).1.toNatClampNeg = 5 ∨ G.2 14 (f_X11_top G).1.toNatClampNeg = 7 → pF G := fun q => h.2.1.pf ⟨_, lt, by rw [← top_m p1]; exact q⟩
  have tw := two_p h p1
  have co := (carried_i h bM.1 bM.2 p1 k9).2
  have k2 := mu.1.1
  have hv : HI M (sI G 5 v) := hi_5 h v
  have n4 : ¬ ((1 : Int32) = 4) := by decide
  have no4 : (1 : Int32) = 4 → RA (f_X11_goes G).2 ∧ ¬ (f_X11_goes G).2.1 6 = 0 := fun y => absurd y n4
  have e163 : ∀ (R : HS) (S2 : Cst) (v' : Int32), f_Y7_carryAlone S1 x (some q) = (0, S2) → AS x S T col S2 T1 c1 → RR wF N S2 T1 x (sI R 5 v') → RA R → ¬ R.1 6 = 0 → R.1 5 = -1 → ∃ S4 T4, b_Y7_announce_163 S1 x (some q) hd Y Z 1 1 = (1, S4) ∧ Sst noE x S T [] col S4 T4 [] c1 ∧ RR wF N S4 T4 x (f_X11_goes R).2 := fun R S2 v' f a2 r2 hR z5 y5 => by
    obtain ⟨S4, T4, e, s, rr⟩ := p173 (o := 1) a2 r2 hR z5 y5 (fun y => absurd y n4) (some q) hd Y Z 1
    rw [if_neg n4] at rr
    refine ⟨S4, T4, ?_, s, rr⟩
    unfold b_Y7_announce_163
    rw [if_neg h10, f]
    exact e
  obtain ⟨t, ht⟩ : ∃ t, t = (f_X11_top G).1 := ⟨_, rfl⟩
  obtain ⟨k, hk⟩ : ∃ k, k = G.2 14 (f_X11_top G).1.toNatClampNeg := ⟨_, rfl⟩
  unfold b_Y7_announce_100 b_Y7_announce_122 b_Y7_announce_142 b_Y7_announce_119a b_Y7_announce_139a b_Y7_announce_160a b_Y7_announce_181a
  rw [if_neg h10, if_neg h10, if_neg h10]
  simp only [if_neg n4, Option.getD_some, k2]
  have w3q := a.ci.wf.w3 kq
  -- what stands before a case of carryAlone
  have ca : f_Y7_carryAlone S1 x (some q) = b_Y7_carryAlone_16a S1 x (some q) (f_Y5_at S1 (x + 1) (giC S1 (x + 1) 1 - 2)) := by
    unfold f_Y7_carryAlone
    rw [a.g1, Option.getD_some]
  unfold f_X11_carried at co ⊢
  have w14 : 1 ≤ k.toInt ∧ k.toInt ≤ 9 := by rw [hk]; exact wk.1
  rw [← hk] at co k2 wp tw ⊢
  rw [← ht] at co ⊢
  by_cases z1 : k = 1
  · rw [if_neg (by rw [z1]; decide), if_neg (by rw [z1]; decide), if_neg (by rw [z1]; decide)]
    rw [if_pos z1]
    obtain ⟨u, e, hu, -⟩ := main_w t k (by rw [ht]; exact ti) 100000 (sI (sI G 9 (G.1 9 + 1)) 39 (G.2 19 t.toNatClampNeg)) 0 (by rw [ht]; exact wk.2.1.2) (by rw [i0]; omega) (by rw [i0]; omega) (by rw [i0]; omega)
    have hu : ∀ i : Nat, (i : Int) < (G.2 19 t.toNatClampNeg).toInt → u i = G.2 28 (400 * t.toNatClampNeg + i) := fun i hi => hu i (by rw [i0]; omega) hi
    have e : (lp_X11_carried_70 100000 (sI (sI G 9 ((G.1 9) + 1)) 39 ((sI G 9 ((G.1 9) + 1)).2 19 t.toNatClampNeg)) t k 0).2 = (f_X11_goes (sR (sI (sI G 9 (G.1 9 + 1)) 39 (G.2 19 t.toNatClampNeg)) 38 u)).2 := e
    rw [e]
    rw [← ht] at mu wk
    obtain ⟨S2, f, a2, r2⟩ := adopt_v (H2 := sI (sR (sI (sI G 9 (G.1 9 + 1)) 39 (G.2 19 t.toNatClampNeg)) 38 u) 5 v) a r (m := t.toNatClampNeg) mu kq wk.2.1.1 hu h98 (by
      refine Prod.ext (funext fun j => ?_) rfl
      show (if j = 5 then v else if j = 39 then _ else if j = 9 then _ else G.1 j) = (if j = 39 then _ else if j = 9 then _ else if j = 5 then v else G.1 j)
      by_cases y1 : j = 5
      · rw [if_pos y1, if_neg (by omega), if_neg (by omega), if_pos y1]
      · rw [if_neg y1, if_neg y1]
        rfl)
    obtain ⟨S4, T4, q1, q2, q3⟩ := e163 (sR (sI (sI G 9 (G.1 9 + 1)) 39 (G.2 19 t.toNatClampNeg)) 38 u) _ v (by
      rw [ca]
      unfold b_Y7_carryAlone_16a b_Y7_carryAlone_36a b_Y7_carryAlone_106
      rw [Option.getD_some, k2, if_pos z1, a.w0.2.1.2.2.2.2.2.2, w3q.2.1.1, Option.getD_some, Option.getD_some, f]) a2 r2 hr z6 g5
    exact ⟨S4, T4, q1, q2, q3.up (by omega)⟩
  rw [if_neg z1] at co ⊢
  have tw := tw z1
  have z26 : ¬ (f_X11_goes G).2.1 6 = 0 := fun y => by
    rw [goes_e] at y
    have y : G.1 6 - 1 = 0 := y
    have := congrArg Int32.toInt y
    rw [i0] at this
    omega
  obtain ⟨bm, f0, bmu, bmm, beq, bl⟩ := below_v a r.2.1 hv (by show 2 ≤ (G.1 6).toInt; exact tw)
  have ca : f_Y7_carryAlone S1 x (some q) = b_Y7_carryAlone_16a S1 x (some q) (some bm) := by rw [ca, f0]
  by_cases z23 : k = 2 ∨ k = 3
  · rw [if_neg (by rcases z23 with y | y <;> rw [y] <;> decide), if_neg (by rcases z23 with y | y <;> rw [y] <;> decide), if_neg (by rcases z23 with y | y <;> rw [y] <;> decide)]
    have e : (if k = 2 then b_X11_carried_111 G t k else if k = 3 then b_X11_carried_111 G t k else if k = 6 then b_X11_carried_a138 (f_X11_goes G).2 t k else if k = 7 then b_X11_carried_a190 (f_X11_goes G).2 t k else if k = 8 then b_X11_carried_a155 (f_X11_goes G).2 t k else lp_X11_carried_257 100000 G t k) = b_X11_carried_111 G t k := by
      by_cases y2 : k = 2
      · rw [if_pos y2]
      · rw [if_neg y2, if_pos (z23.resolve_left y2)]
    rw [e]
    rw [hk] at z23
    have hp : 2 ≤ (G.1 6).toInt := tw
    obtain ⟨q1, hra⟩ := chg_f h hp z23
    rw [← ht] at q1 hra
    obtain ⟨S3, f, a3, r3⟩ := amendR (G := G) a r hv (fun j y => by
      show G.1 j = if j = 5 then v else G.1 j
      rw [if_neg y]) rfl hp z23 (q := q) (mq := bm) (by rw [eq, e1n]; rfl) beq
    have r3 := r3 (sI (f_X11_change G (G.2 31 (G.1 6 - 2).toNatClampNeg) t).2 5 v) (by
      funext j
      show (if j = 5 then v else (f_X11_change G (G.2 31 (G.1 6 - 2).toNatClampNeg) t).2.1 j) = if j = 5 then v else G.1 j
      rw [q1]) (by rw [ht]; rfl)
    have am : f_Y4_amends S1 q = 1 := by
      rw [am_v mu]
      rcases z23 with y | y
      · rw [if_pos y]
      · rw [if_neg (by rw [y]; decide), if_pos y]
    rw [← hk] at z23
    obtain ⟨S4, T4, g1, g2, g3⟩ := e163 (f_X11_change G (G.2 31 (G.1 6 - 2).toNatClampNeg) t).2 S3 v (by
      rw [ca]
      unfold b_Y7_carryAlone_16a b_Y7_carryAlone_89 b_Y7_carryAlone_106
      rw [Option.getD_some, k2, if_neg z1, if_neg (by rcases z23 with y | y <;> rw [y] <;> decide), if_neg (by simp), if_neg (by rcases z23 with y | y <;> rw [y] <;> decide), if_neg (by simp), am, if_neg h10, f]) a3 r3 hra (by rw [q1]; exact z6) (by rw [q1]; exact g5)
    exact ⟨S4, T4, g1, g2, g3.up (by omega)⟩
  rw [if_neg (fun y => z23 (Or.inl y)), if_neg (fun y => z23 (Or.inr y))] at co ⊢
  by_cases zz6 : k = 6
  · rw [if_neg (by rw [zz6]; decide), if_neg (by rw [zz6]; decide), if_neg (by rw [zz6]; decide), if_pos zz6]
    obtain ⟨a2, r2⟩ := close_v a r hv bl beq rfl bmu bmm
    obtain ⟨S4, T4, g1, g2, g3⟩ := e163 (sA G 24 (hM G 0 ((G.1 6).toNatClampNeg - 2)) 1) _ v (by
      rw [ca]
      unfold b_Y7_carryAlone_16a b_Y7_carryAlone_106
      rw [Option.getD_some, k2, if_neg z1, if_neg (by rw [zz6]; decide), if_neg (by simp), if_pos zz6]
      rfl) a2 r2 hr z6 g5
    have e : (b_X11_carried_a138 (f_X11_goes G).2 t k).2 = (f_X11_goes (sA G 24 (hM G 0 ((G.1 6).toNatClampNeg - 2)) 1)).2 := by
      have et : (f_X11_top (f_X11_goes G).2).1.toNatClampNeg = hM G 0 ((G.1 6).toNatClampNeg - 2) := by
        have hp' : 1 ≤ ((f_X11_goes G).2.1 6).toInt := by
          rw [goes_e]
          show 1 ≤ (G.1 6 - 1).toInt
          omega
        rw [top_m hp']
        have e6 : (f_X11_goes G).2.1 6 = G.1 6 - 1 := by rw [goes_e]; rfl
        have e31 : (f_X11_goes G).2.2 31 = G.2 31 := by rw [goes_e]; rfl
        show ((f_X11_goes G).2.2 31 _).toNatClampNeg = (G.2 31 _).toNatClampNeg
        have e3 : (G.1 6 - 1).toNatClampNeg - 1 = (G.1 6).toNatClampNeg - 2 := by omega
        rw [e31, e6, e3]
      unfold b_X11_carried_a138 b_X11_carried_a146 b_X11_carried_373
      rw [et, top_s, goes_e, goes_e]
      refine Prod.ext rfl (funext fun j => ?_)
      show (if j = 24 then _ else if j = 13 then _ else G.2 j) = if j = 13 then _ else if j = 24 then _ else G.2 j
      by_cases y : j = 24
      · rw [if_pos y, if_neg (by omega), if_pos y]
        rfl
      · rw [if_neg y, if_neg y]
        rfl
    rw [e]
    exact ⟨S4, T4, g1, g2, g3.up (by omega)⟩
  rw [if_neg zz6] at co ⊢
  by_cases z7 : k = 7
  · rw [if_neg (by rw [z7]; decide), if_neg (by rw [z7]; decide), if_pos z7]
    rw [if_pos z7] at co ⊢
    obtain ⟨p, fp⟩ := fpl_of (wp (Or.inr (Or.inr z7))).1
    have hp := fp.1
    have ff := (first_V (H := sI G 5 v) a r fp).1
    obtain ⟨S2, T2, f1, a2, r2, -⟩ := goF a r hr z6
    have hg := goes_i h p1
    have e34 : (f_X11_goes G).2.2 34 = G.2 34 := by rw [goes_e]; rfl
    have fp2 : fpl (f_X11_goes G).2 p := by unfold fpl; rw [e34]; exact fp
    have g5' : (f_X11_goes G).2.1 5 = -1 := by
      rw [goes_e]
      exact g5
    obtain ⟨K, hK⟩ : ∃ K, K = (f_X11_goes G).2 := ⟨_, rfl⟩
    rw [← hK] at co r2 hg e34 fp2 g5' z26 ⊢
    have bK := hg.ra.2.1
    obtain ⟨fw1, fw2⟩ := free_W fp2
    have e3 : b_X11_carried_a190 K t k = lp_X11_carried_198 100000 K t k (f_X11_free K).1 0 := by
      unfold b_X11_carried_a190 b_X11_carried_a194
      rw [fw2]
    have kf := iNat (x := (f_X11_free K).1) (by omega)
    have ef : (f_X11_free K).1.toNatClampNeg = p := by omega
    obtain ⟨u, e4, u1, u2⟩ := table_l (x3 := (f_X11_free K).1) ⟨by omega, by omega⟩ t k 100000 K 0 bK.2 (by rw [i0]; omega) (by rw [i0]; omega) (by rw [i0]; omega)
    rw [i0, ef] at u1
    rw [ef] at e4
    rw [i0, fw1] at u2
    rw [e3, e4] at co ⊢
    have pB := tab_B (H2 := sI (sI (sA (sA (sR K 33 u) 34 p (K.1 6)) 37 p 1) 6 0) 5 v) a2 r2 (hi_5 hg v) z26 hp fp2.2.1 (u := u) (fun j y => by
      show (if j = 5 then v else if j = 6 then 0 else K.1 j) = if j = 5 then v else K.1 j
      rw [if_neg y]) rfl (fun k y y2 y3 => by
      show (if k = 37 then _ else if k = 34 then _ else if k = 33 then _ else K.2 k) = K.2 k
      rw [if_neg y3, if_neg y2, if_neg y]) (fun _ => rfl) (fun _ => rfl) rfl (fun i hi => u1 i (by omega) hi) (fun j hj => u2 j (by
        have hj : (j : Int) < 9 * (p : Int) ∨ 9 * (p : Int) + (K.1 6).toInt ≤ j := hj
        omega)) (hi_5 co.1 v).1
    obtain ⟨S3, T3, t1, t2, t3⟩ := pB
    obtain ⟨S4, q1, q2, q3⟩ := end_B t2 t3 g5' (some q) hd Y Z 1 1
    refine ⟨S4, T3, ?_, q2, q3.up (by omega)⟩
    rw [← q1]
    unfold f_Y7_table b_Y7_table_13a b_Y7_table_33
    have w2 := a2.w0
    have o : pl x (x + 13 + 3 * p) := Or.inr ⟨p, hp, rfl⟩
    have w5 := a2.ci.wf.w5 (o.lt a2.ci a2.k1)
    rw [ff, a.g1, Option.getD_some, f1]
    simp only [reduceCtorEq, if_false, Option.getD_some, gr_si, w2.2.1.2.1, w5.2, t1]
  simp only [if_neg z7] at co ⊢
  by_cases z8 : k = 8
  · rw [if_neg (by rw [z8]; decide), if_neg (by rw [z8]; decide), if_pos z8]
    obtain ⟨u, e, hu, -⟩ := adj_w t k 100000 (f_X11_goes G).2 0 (by rw [i0]; omega) (by rw [i0]; omega) (by rw [goes_e]; exact hr.1.2) (by rw [i0]; omega)
    have e : (b_X11_carried_a155 (f_X11_goes G).2 t k).2 = sI (sR (f_X11_goes G).2 11 u) 1 0 := e
    have e0 : (f_X11_goes G).2.1 0 = G.1 0 := by rw [goes_e]; rfl
    obtain ⟨S2, f, a2, r2⟩ := recess_v a r (u := u) (fun s hs => hu s (by rw [i0]; omega) (by rw [e0]; exact hs))
    have ec : sI (sI (sR (sI G 5 v) 11 u) 1 0) 5 (-1) = sI (sI (sR G 11 u) 1 0) 5 (-1) := by
      refine Prod.ext (funext fun j => ?_) rfl
      show (if j = 5 then _ else if j = 1 then _ else if j = 5 then v else G.1 j) = (if j = 5 then _ else if j = 1 then _ else G.1 j)
      by_cases y1 : j = 5
      · rw [if_pos y1, if_pos y1]
      · rw [if_neg y1, if_neg y1, if_neg y1]
    rw [ec] at r2
    obtain ⟨S4, T4, g1, g2, g3⟩ := e163 (sI (sR G 11 u) 1 0) S2 (-1) (by
      rw [ca]
      unfold b_Y7_carryAlone_16a b_Y7_carryAlone_65a b_Y7_carryAlone_106
      rw [Option.getD_some, k2, if_neg z1, if_pos z8, a.g0, Option.getD_some, f]) a2 r2 hr z6 g5
    have ee : (f_X11_goes (sI (sR G 11 u) 1 0)).2 = sI (sR (f_X11_goes G).2 11 u) 1 0 := by
      rw [goes_e, goes_e]
      refine Prod.ext (funext fun j => ?_) (funext fun j => ?_)
      · show (if j = 6 then _ else if j = 1 then _ else G.1 j) = (if j = 1 then _ else if j = 6 then _ else G.1 j)
        by_cases y : j = 6
        · rw [if_pos y, if_neg (by omega), if_pos y]
          rfl
        · rw [if_neg y, if_neg y]
      · show (if j = 13 then _ else if j = 11 then _ else G.2 j) = (if j = 11 then _ else if j = 13 then _ else G.2 j)
        by_cases y : j = 13
        · rw [if_pos y, if_neg (by omega), if_pos y]
          rfl
        · rw [if_neg y, if_neg y]
    rw [e, ← ee]
    exact ⟨S4, T4, g1, g2, g3.up (by omega)⟩
  rw [if_neg z8] at co ⊢
  have i45 : k = 4 ∨ k = 5 := by
    have y1 := mt iEq.mpr z1
    have y2 := mt iEq.mpr (fun y => z23 (Or.inl y))
    have y3 := mt iEq.mpr (fun y => z23 (Or.inr y))
    have y6 := mt iEq.mpr zz6
    have y7 := mt iEq.mpr z7
    have y8 := mt iEq.mpr z8
    have y9 := mt iEq.mpr (by rw [hk]; exact k9 : k ≠ 9)
    have f2 : (2 : Int32).toInt = 2 := by decide
    have f3 : (3 : Int32).toInt = 3 := by decide
    have f6 : (6 : Int32).toInt = 6 := by decide
    have f7 : (7 : Int32).toInt = 7 := by decide
    have f8 : (8 : Int32).toInt = 8 := by decide
    have f9 : (9 : Int32).toInt = 9 := by decide
    have e4 : (4 : Int32).toInt = 4 := by decide
    have e5 : (5 : Int32).toInt = 5 := by decide
    rw [i1] at y1
    rw [f2] at y2
    rw [f3] at y3
    rw [f6] at y6
    rw [f7] at y7
    rw [f8] at y8
    rw [f9] at y9
    by_cases q : k.toInt = 4
    · exact Or.inl (iEq.mpr (by rw [e4]; exact q))
    · exact Or.inr (iEq.mpr (by rw [e5]; omega))
  obtain ⟨p, fp⟩ := fpl_of (wp (i45.imp id Or.inl)).1
  obtain ⟨⟨R4, c4, u4⟩, R5, c5, u5⟩ := car4_v h p1 fp t
  rcases i45 with z4 | z5
  · rw [if_pos z4]
    rw [z4, c4] at co
    rw [z4, c4]
    obtain ⟨S4, T4, t1, t2, t3⟩ := commit_B a r hv bN fp p1 (u4.f5 v) (hi_5 co.1 v).1
    obtain ⟨S5, q1, q2, q3⟩ := end_B t2 t3 (by rw [u4.1.2.2 5 (by decide) (by decide)]; exact g5) (some q) hd Y Z 1 1
    rw [t1]
    exact ⟨S5, T4, q1, q2, q3⟩
  · rw [if_neg (by rw [z5]; decide), if_pos z5]
    rw [z5, c5] at co
    rw [z5, c5]
    obtain ⟨S4, T4, t1, t2, t3⟩ := postpone_B a r hv bN fp p1 (u5.f5 v) (hi_5 co.1 v).1
    obtain ⟨S5, q1, q2, q3⟩ := end_B t2 t3 (by rw [u5.1.2.2 5 (by decide) (by decide)]; exact g5) (some q) hd Y Z 1 1
    rw [t1]
    exact ⟨S5, T4, q1, q2, q3⟩
end
