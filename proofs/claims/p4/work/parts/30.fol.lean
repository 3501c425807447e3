theorem gdX11_follow_0 : ckS (List.drop 0 cX11_follow.data.toList) 0 [(0, .iconst 0, 1), (1, .istore_n 3, 1), (2, .iload_n 3, 1), (3, .iload_n 2, 1), (4, .if_icmp .ge 49, 3), (7, .bipush 6, 2), (9, .iload_n 3, 1), (10, .imul, 1), (11, .istore 4, 2), (13, .aload_n 0, 1), (14, .aload_n 1, 1), (15, .iload 4, 2), (17, .iaload, 1), (18, .aload_n 1, 1), (19, .iload 4, 2), (21, .iconst 1, 1), (22, .iadd, 1), (23, .iaload, 1), (24, .aload_n 1, 1), (25, .iload 4, 2), (27, .iconst 2, 1), (28, .iadd, 1), (29, .iaload, 1), (30, .aload_n 1, 1), (31, .iload 4, 2), (33, .iconst 3, 1), (34, .iadd, 1), (35, .iaload, 1), (36, .aload_n 1, 1), (37, .iload 4, 2), (39, .iconst 4, 1), (40, .iadd, 1), (41, .iaload, 1), (42, .invokevirtual 246, 3), (45, .istore 5, 2), (47, .iinc 3 1, 3), (50, .goto (-48), 3), (53, .return_, 1)] = true := by decide +kernel
theorem dX11_follow_0 : decode cX11_follow 0 = .ok (.iconst 0, 1) := ckS_g gdX11_follow_0 0 rfl
theorem dX11_follow_1 : decode cX11_follow 1 = .ok (.istore_n 3, 1) := ckS_g gdX11_follow_0 1 rfl
theorem dX11_follow_2 : decode cX11_follow 2 = .ok (.iload_n 3, 1) := ckS_g gdX11_follow_0 2 rfl
theorem dX11_follow_3 : decode cX11_follow 3 = .ok (.iload_n 2, 1) := ckS_g gdX11_follow_0 3 rfl
theorem dX11_follow_4 : decode cX11_follow 4 = .ok (.if_icmp .ge 49, 3) := ckS_g gdX11_follow_0 4 rfl
theorem dX11_follow_7 : decode cX11_follow 7 = .ok (.bipush 6, 2) := ckS_g gdX11_follow_0 5 rfl
theorem dX11_follow_9 : decode cX11_follow 9 = .ok (.iload_n 3, 1) := ckS_g gdX11_follow_0 6 rfl
theorem dX11_follow_10 : decode cX11_follow 10 = .ok (.imul, 1) := ckS_g gdX11_follow_0 7 rfl
theorem dX11_follow_11 : decode cX11_follow 11 = .ok (.istore 4, 2) := ckS_g gdX11_follow_0 8 rfl
theorem dX11_follow_13 : decode cX11_follow 13 = .ok (.aload_n 0, 1) := ckS_g gdX11_follow_0 9 rfl
theorem dX11_follow_14 : decode cX11_follow 14 = .ok (.aload_n 1, 1) := ckS_g gdX11_follow_0 10 rfl
theorem dX11_follow_15 : decode cX11_follow 15 = .ok (.iload 4, 2) := ckS_g gdX11_follow_0 11 rfl
theorem dX11_follow_17 : decode cX11_follow 17 = .ok (.iaload, 1) := ckS_g gdX11_follow_0 12 rfl
theorem dX11_follow_18 : decode cX11_follow 18 = .ok (.aload_n 1, 1) := ckS_g gdX11_follow_0 13 rfl
theorem dX11_follow_19 : decode cX11_follow 19 = .ok (.iload 4, 2) := ckS_g gdX11_follow_0 14 rfl
theorem dX11_follow_21 : decode cX11_follow 21 = .ok (.iconst 1, 1) := ckS_g gdX11_follow_0 15 rfl
theorem dX11_follow_22 : decode cX11_follow 22 = .ok (.iadd, 1) := ckS_g gdX11_follow_0 16 rfl
theorem dX11_follow_23 : decode cX11_follow 23 = .ok (.iaload, 1) := ckS_g gdX11_follow_0 17 rfl
theorem dX11_follow_24 : decode cX11_follow 24 = .ok (.aload_n 1, 1) := ckS_g gdX11_follow_0 18 rfl
theorem dX11_follow_25 : decode cX11_follow 25 = .ok (.iload 4, 2) := ckS_g gdX11_follow_0 19 rfl
theorem dX11_follow_27 : decode cX11_follow 27 = .ok (.iconst 2, 1) := ckS_g gdX11_follow_0 20 rfl
theorem dX11_follow_28 : decode cX11_follow 28 = .ok (.iadd, 1) := ckS_g gdX11_follow_0 21 rfl
theorem dX11_follow_29 : decode cX11_follow 29 = .ok (.iaload, 1) := ckS_g gdX11_follow_0 22 rfl
theorem dX11_follow_30 : decode cX11_follow 30 = .ok (.aload_n 1, 1) := ckS_g gdX11_follow_0 23 rfl
theorem dX11_follow_31 : decode cX11_follow 31 = .ok (.iload 4, 2) := ckS_g gdX11_follow_0 24 rfl
theorem dX11_follow_33 : decode cX11_follow 33 = .ok (.iconst 3, 1) := ckS_g gdX11_follow_0 25 rfl
theorem dX11_follow_34 : decode cX11_follow 34 = .ok (.iadd, 1) := ckS_g gdX11_follow_0 26 rfl
theorem dX11_follow_35 : decode cX11_follow 35 = .ok (.iaload, 1) := ckS_g gdX11_follow_0 27 rfl
theorem dX11_follow_36 : decode cX11_follow 36 = .ok (.aload_n 1, 1) := ckS_g gdX11_follow_0 28 rfl
theorem dX11_follow_37 : decode cX11_follow 37 = .ok (.iload 4, 2) := ckS_g gdX11_follow_0 29 rfl
theorem dX11_follow_39 : decode cX11_follow 39 = .ok (.iconst 4, 1) := ckS_g gdX11_follow_0 30 rfl
theorem dX11_follow_40 : decode cX11_follow 40 = .ok (.iadd, 1) := ckS_g gdX11_follow_0 31 rfl
theorem dX11_follow_41 : decode cX11_follow 41 = .ok (.iaload, 1) := ckS_g gdX11_follow_0 32 rfl
theorem dX11_follow_42 : decode cX11_follow 42 = .ok (.invokevirtual 246, 3) := ckS_g gdX11_follow_0 33 rfl
theorem dX11_follow_45 : decode cX11_follow 45 = .ok (.istore 5, 2) := ckS_g gdX11_follow_0 34 rfl
theorem dX11_follow_47 : decode cX11_follow 47 = .ok (.iinc 3 1, 3) := ckS_g gdX11_follow_0 35 rfl
theorem dX11_follow_50 : decode cX11_follow 50 = .ok (.goto (-48), 3) := ckS_g gdX11_follow_0 36 rfl
theorem dX11_follow_53 : decode cX11_follow 53 = .ok (.return_, 1) := ckS_g gdX11_follow_0 37 rfl
set_option maxRecDepth 100000 in
theorem z357 : wZ (.methodLink RX11 246 yX11_act) := ⟨wT7 (List.mem_of_getElem? (i := 19) (by decide +kernel)), Or.inl rfl⟩
set_option maxRecDepth 100000 in
theorem z358 : wZ (.code yX11_follow cX11_follow 6 none) := ⟨wT7 (List.mem_of_getElem? (i := 18) rfl), Or.inl rfl⟩
def b_X11_follow_a45 (F : Nat → Int32) (S : HS) (x2 x3 x4 y0 : Int32) : (Int32 × HS) ⊕ (HS × Int32 × Int32) := Sum.inr (S, x2, (x3 + 1))
def q_X11_follow_a45 (F : Nat → Int32) (S : HS) (x2 x3 x4 y0 : Int32) : Prop := True
def st_X11_follow_2 (F : Nat → Int32) (S : HS) (x2 x3 : Int32) : (Int32 × HS) ⊕ (HS × Int32 × Int32) := if x2 ≤ x3 then Sum.inl ((0, S)) else (b_X11_follow_a45 F (f_X11_act S (F (6 * x3).toNatClampNeg) (F ((6 * x3) + 1).toNatClampNeg) (F ((6 * x3) + 2).toNatClampNeg) (F ((6 * x3) + 3).toNatClampNeg) (F ((6 * x3) + 4).toNatClampNeg)).2 x2 x3 (6 * x3) (f_X11_act S (F (6 * x3).toNatClampNeg) (F ((6 * x3) + 1).toNatClampNeg) (F ((6 * x3) + 2).toNatClampNeg) (F ((6 * x3) + 3).toNatClampNeg) (F ((6 * x3) + 4).toNatClampNeg)).1)
def ps_X11_follow_2 (F : Nat → Int32) (S : HS) (x2 x3 : Int32) : Prop := (if x2 ≤ x3 then True else (vp_in (6 * x3) 3600) ∧ (vp_in ((6 * x3) + 1) 3600) ∧ (vp_in ((6 * x3) + 2) 3600) ∧ (vp_in ((6 * x3) + 3) 3600) ∧ (vp_in ((6 * x3) + 4) 3600) ∧ (p_X11_act S (F (6 * x3).toNatClampNeg) (F ((6 * x3) + 1).toNatClampNeg) (F ((6 * x3) + 2).toNatClampNeg) (F ((6 * x3) + 3).toNatClampNeg) (F ((6 * x3) + 4).toNatClampNeg)) ∧ (q_X11_follow_a45 F (f_X11_act S (F (6 * x3).toNatClampNeg) (F ((6 * x3) + 1).toNatClampNeg) (F ((6 * x3) + 2).toNatClampNeg) (F ((6 * x3) + 3).toNatClampNeg) (F ((6 * x3) + 4).toNatClampNeg)).2 x2 x3 (6 * x3) (f_X11_act S (F (6 * x3).toNatClampNeg) (F ((6 * x3) + 1).toNatClampNeg) (F ((6 * x3) + 2).toNatClampNeg) (F ((6 * x3) + 3).toNatClampNeg) (F ((6 * x3) + 4).toNatClampNeg)).1))
def lp_X11_follow_2 (F : Nat → Int32) : Nat → HS → Int32 → Int32 → Int32 × HS
  | 0, S, _, _ => (0, S)
  | n + 1, S, x2, x3 => match st_X11_follow_2 F S x2 x3 with
    | Sum.inl r => r
    | Sum.inr q => lp_X11_follow_2 F n q.1 q.2.1 q.2.2
def lq_X11_follow_2 (F : Nat → Int32) : Nat → HS → Int32 → Int32 → Prop
  | 0, _, _, _ => False
  | n + 1, S, x2, x3 => ps_X11_follow_2 F S x2 x3 ∧ (match st_X11_follow_2 F S x2 x3 with
    | Sum.inl _ => True
    | Sum.inr q => lq_X11_follow_2 F n q.1 q.2.1 q.2.2)
def f_X11_follow (F : Nat → Int32) (S : HS) (x2 : Int32) : Int32 × HS := (lp_X11_follow_2 F 100000 S x2 0)
def p_X11_follow (F : Nat → Int32) (S : HS) (x2 : Int32) : Prop := (lq_X11_follow_2 F 100000 S x2 0)
def e_X11_follow : List Cond := [.methodLink RX11 246 yX11_act, .instanceMethod yX11_act, .selects RX11 yX11_act yX11_act, .initialized RX11]
def v_X11_follow : List Cond := .code yX11_follow cX11_follow 6 none :: (e_X11_follow ++ (v_X11_act ++ []))
theorem te_X11_follow : GoodIn lw_tbl e_X11_follow := wGc z357 (wGc z222 (wGc z221 (wGc z51 (wG0))))
theorem t_X11_follow : GoodIn lw_tbl v_X11_follow := wGc z358 (wGa te_X11_follow (wGa t_X11_act (wG0)))
set_option maxHeartbeats 4000000 in
set_option maxRecDepth 100000 in
theorem c_X11_follow (l : Launch) (G : va_G) (K : Nat → ClassId) (h : Nat) (g : Nat → Nat) (q : Nat) (F : Nat → Int32) (S0 : HS) (a2 : Int32) (sz : Nat) : Met l yX11_follow v_X11_follow ({ frames := 6, cells := 0, slots := 0, locals := 156 }) (va_Pc [.ref h, .ref q, .int a2] (fSt G K h g q F sz S0 (p_X11_follow F S0 a2))) (va_Qv (fun u : HS => (0, u) = f_X11_follow F S0 a2) (fB G K h g q F (va_A (hW K h g S0 ++ fX K q F) sz)) (va_A (hW K h g S0 ++ fX K q F) sz)) 0 0 (va_A (hW K h g S0 ++ fX K q F) sz) := by
  refine Met.ofW (cc := cX11_follow) (maxL := 6) (ret := none) (by decide) rfl ?_
  intro p e s m args below meth c s₁ B hml hv
  obtain ⟨rfl, ⟨hsz, hP, hK, hD0, hTE⟩, hp⟩ := hv
  have hx := B.exec
  have hb := B.bytes
  have hr := B.returns
  have hts := atoms_spec (ws := v_X11_follow) B.pre
  have t_ := t_X11_follow
  have mw : ∀ w ∈ e_X11_follow, w ∈ v_X11_follow := fun w h => List.mem_cons_of_mem _ (List.mem_append_left _ h)
  have hw := fun w (h : w ∈ e_X11_follow) => hts w (mw w h)
  have j_X11_act : ∀ w ∈ v_X11_act, w ∈ v_X11_follow := fun w h => List.mem_cons_of_mem _ (List.mem_append_right _ (List.mem_append_left _ h))
  have hown : s.vm.findClass RX11 = some m.cls := findClass_of_methodNamed B.named
  have hlocks := B.notSynchronized
  subst hsz
  have hD := hD0.self (sz := s.heap.size)
  generalize hAe : va_A (hW K h g S0 ++ fX K q F) s.heap.size = A at hD ⊢
  have hA : ∀ q : Nat, s.heap.size ≤ q → A q := fun q h => by rw [← hAe]; exact Or.inr h
  have hS : va_S A s.heap s.heap [] := va_S.rf
  have hl := lv_entry ([.ref h, .ref q, .int a2]) (n := 6) (Nat.le_of_ble_eq_true rfl)
  rw [lg_entry_eq]
  generalize (lg_sl ([.ref h, .ref q, .int a2]) ++ List.replicate (6 - (lg_sl ([.ref h, .ref q, .int a2])).length) Slot.unset).toArray = ls at hl ⊢
  have hl : lv_has ls 6 [(0, .ref h), (1, .ref q), (2, .int a2)] := hl
  refine wGen (fun Q hQ => ?_)
  obtain ⟨X, hX⟩ : ∃ X, f_X11_follow F S0 a2 = X := ⟨_, rfl⟩
  have L_2 : ∀ (n : Nat) (S : HS) (x2 x3 : Int32) (H : Heap) (locs : List Loc) (ls : Array Slot), lp_X11_follow_2 F n S x2 x3 = X → lq_X11_follow_2 F n S x2 x3 → va_P G vwCl (hW K h g S ++ fX K q F) H → va_D A (hW K h g S ++ fX K q F) → va_S A s.heap H locs → lv_has ls 6 [(0, .ref h), (1, .ref q), (2, .int x2), (3, .int x3)] → W p l e ({ frames := 6, cells := 0, slots := 0, locals := 156 } : Room) s m #[Value.ref h, Value.ref q, Value.int a2] below meth c H locs 0 0 Q (F0 m 2 ls []) := by
    intro n1
    induction n1 with
    | zero => intro S x2 x3 H locs ls hE hp; exact False.elim hp
    | succ n1 ih1 =>
      intro S x2 x3 H locs ls hO1 hp hP hD hS hl
      rw [lp_X11_follow_2] at hO1
      rw [lq_X11_follow_2] at hp
      obtain ⟨hp, hq1⟩ := hp
      generalize hE : st_X11_follow_2 F S x2 x3 = Y1 at hO1 hq1
      unfold st_X11_follow_2 at hE
      unfold ps_X11_follow_2 at hp
      refine lv_iload_n hx hb dX11_follow_2 rfl (lv_at hl 3 rfl) ?_
      refine lv_iload_n hx hb dX11_follow_3 rfl (lv_at hl 2 rfl) ?_
      refine lv_icmp_ge (tgt := 53) hx hb dX11_follow_4 (by decide) (fun c1 => ?_) (fun c1 => ?_)
      · rw [if_pos c1] at hE hp
        subst hE
        have hE := hO1
        dsimp only at hE
        subst hQ
        exact W.vret hx hb hr (fun t ht hW => ⟨⟨S, rfl, hE.trans hX.symm, by rw [ht]; exact hP, hD⟩, hS.F ht⟩) hS.2.2 dX11_follow_53
      · rw [if_neg c1] at hE hp
        refine lv_bipush (v := 6) hx hb dX11_follow_7 (by decide) ?_
        refine lv_iload_n hx hb dX11_follow_9 rfl (lv_at hl 3 rfl) ?_
        refine lv_imul hx hb dX11_follow_10 ?_
        refine lv_istore (lv' := [(4, .int (6 * x3)), (0, .ref h), (1, .ref q), (2, .int x2), (3, .int x3)]) hx hb dX11_follow_11 hl (by decide) rfl (fun ls hl => ?_)
        refine lv_aload_n hx hb dX11_follow_13 rfl (lv_at hl 1 rfl) ?_
        refine lv_aload_n hx hb dX11_follow_14 rfl (lv_at hl 2 rfl) ?_
        refine lv_iload hx hb dX11_follow_15 (lv_at hl 0 rfl) ?_
        obtain ⟨hy2, hp⟩ := hp
        refine va_iald hx hb hK hP 28 0 rfl rfl hy2 dX11_follow_17 ?_
        refine lv_aload_n hx hb dX11_follow_18 rfl (lv_at hl 2 rfl) ?_
        refine lv_iload hx hb dX11_follow_19 (lv_at hl 0 rfl) ?_
        refine lv_iconst (v := 1) hx hb dX11_follow_21 (by decide) ?_
        refine lv_iadd hx hb dX11_follow_22 ?_
        obtain ⟨hy3, hp⟩ := hp
        refine va_iald hx hb hK hP 28 0 rfl rfl hy3 dX11_follow_23 ?_
        refine lv_aload_n hx hb dX11_follow_24 rfl (lv_at hl 2 rfl) ?_
        refine lv_iload hx hb dX11_follow_25 (lv_at hl 0 rfl) ?_
        refine lv_iconst (v := 2) hx hb dX11_follow_27 (by decide) ?_
        refine lv_iadd hx hb dX11_follow_28 ?_
        obtain ⟨hy4, hp⟩ := hp
        refine va_iald hx hb hK hP 28 0 rfl rfl hy4 dX11_follow_29 ?_
        refine lv_aload_n hx hb dX11_follow_30 rfl (lv_at hl 2 rfl) ?_
        refine lv_iload hx hb dX11_follow_31 (lv_at hl 0 rfl) ?_
        refine lv_iconst (v := 3) hx hb dX11_follow_33 (by decide) ?_
        refine lv_iadd hx hb dX11_follow_34 ?_
        obtain ⟨hy5, hp⟩ := hp
        refine va_iald hx hb hK hP 28 0 rfl rfl hy5 dX11_follow_35 ?_
        refine lv_aload_n hx hb dX11_follow_36 rfl (lv_at hl 2 rfl) ?_
        refine lv_iload hx hb dX11_follow_37 (lv_at hl 0 rfl) ?_
        refine lv_iconst (v := 4) hx hb dX11_follow_39 (by decide) ?_
        refine lv_iadd hx hb dX11_follow_40 ?_
        obtain ⟨hy6, hp⟩ := hp
        refine va_iald hx hb hK hP 28 0 rfl rfl hy6 dX11_follow_41 ?_
        obtain ⟨hy7, hp⟩ := hp
        refine fGoi (va_runV (As := [.int (F (6 * x3).toNatClampNeg), .int (F ((6 * x3) + 1).toNatClampNeg), .int (F ((6 * x3) + 2).toNatClampNeg), .int (F ((6 * x3) + 3).toNatClampNeg), .int (F ((6 * x3) + 4).toNatClampNeg)]) (rest := []) ⟨hx, hb, hml, hown, hts⟩ (c_X11_act l G K h g S (F (6 * x3).toNatClampNeg) (F ((6 * x3) + 1).toNatClampNeg) (F ((6 * x3) + 2).toNatClampNeg) (F ((6 * x3) + 3).toNatClampNeg) (F ((6 * x3) + 4).toNatClampNeg) _) (cwV 5 hts (wGV t_ (mw (.methodLink RX11 246 yX11_act) (List.mem_of_getElem? (i := 0) rfl)) (mw (.instanceMethod yX11_act) (List.mem_of_getElem? (i := 1) rfl)) (mw (.selects RX11 yX11_act yX11_act) (List.mem_of_getElem? (i := 2) rfl)) (mw (.initialized RX11) (List.mem_of_getElem? (i := 3) rfl)) j_X11_act) rfl rfl rfl (by decide +kernel) ⟨Nat.le_of_ble_eq_true rfl, Nat.le_of_ble_eq_true rfl⟩) (hPV hK hTE (pL hP) (dL hD) hy7) rfl rfl hl.1 rfl (lv_room (Nat.le_of_ble_eq_true rfl)) dX11_follow_42 ⟨Nat.le_of_ble_eq_true rfl, Nat.le_of_ble_eq_true rfl⟩) hP hD hS hA (fun r9 u8 H locs hv hP hD hS => ?_)
        rw [← hv] at hE hp
        dsimp only at hE hp
        unfold b_X11_follow_a45 at hE
        unfold q_X11_follow_a45 at hp
        refine lv_istore (lv' := [(5, .int r9), (4, .int (6 * x3)), (0, .ref h), (1, .ref q), (2, .int x2), (3, .int x3)]) hx hb dX11_follow_45 hl (by decide) rfl (fun ls hl => ?_)
        refine lv_iinc (v := (x3 + 1)) (lv' := [(3, .int (x3 + 1)), (5, .int r9), (4, .int (6 * x3)), (0, .ref h), (1, .ref q), (2, .int x2)]) hx hb dX11_follow_47 hl (k := 5) rfl rfl (by decide) rfl (fun ls hl => ?_)
        refine lv_goto (tgt := 2) hx hb dX11_follow_50 (by decide) ?_
        subst hE
        dsimp only at hO1 hq1
        exact ih1 u8 x2 (x3 + 1) _ _ _ hO1 hq1 hP hD hS (lv_sub hl [3, 4, 5, 0] rfl)
  have B_M : ∀ (S : HS) (x2 : Int32) (H : Heap) (locs : List Loc) (ls : Array Slot), f_X11_follow F S x2 = X → p_X11_follow F S x2 → va_P G vwCl (hW K h g S ++ fX K q F) H → va_D A (hW K h g S ++ fX K q F) → va_S A s.heap H locs → lv_has ls 6 [(0, .ref h), (1, .ref q), (2, .int x2)] → W p l e ({ frames := 6, cells := 0, slots := 0, locals := 156 } : Room) s m #[Value.ref h, Value.ref q, Value.int a2] below meth c H locs 0 0 Q (F0 m 0 ls []) := by
    intro S x2 H locs ls hE hp hP hD hS hl
    unfold f_X11_follow at hE
    unfold p_X11_follow at hp
    refine lv_iconst (v := 0) hx hb dX11_follow_0 (by decide) ?_
    refine lv_istore_n (lv' := [(3, .int 0), (0, .ref h), (1, .ref q), (2, .int x2)]) hx hb dX11_follow_1 rfl hl (by decide) rfl (fun ls hl => ?_)
    exact L_2 100000 S x2 0 _ _ _ hE hp hP hD hS (lv_sub hl [1, 2, 3, 0] rfl)
  exact B_M S0 a2 _ _ _ hX hp hP hD hS hl
theorem gdX12_before_0 : ckS (List.drop 0 cX12_before.data.toList) 0 [(0, .iload_n 1, 1), (1, .iconst 0, 1), (2, .aload_n 0, 1), (3, .getfield 16, 3), (6, .getfield 48, 3), (9, .invokestatic 1, 3), (12, .ifCond .ne 5, 3), (15, .iconst (-1), 1), (16, .ireturn, 1), (17, .aload_n 0, 1), (18, .getfield 20, 3), (21, .aload_n 0, 1), (22, .getfield 16, 3), (25, .getfield 96, 3), (28, .invokevirtual 36, 3), (31, .aload_n 0, 1), (32, .getfield 20, 3), (35, .aload_n 0, 1), (36, .getfield 16, 3), (39, .getfield 167, 3), (42, .iload_n 1, 1), (43, .invokevirtual 170, 3), (46, .aload_n 0, 1), (47, .getfield 20, 3), (50, .iload_n 2, 1), (51, .iload_n 3, 1), (52, .invokevirtual 92, 3), (55, .ireturn, 1)] = true := by decide +kernel
theorem dX12_before_0 : decode cX12_before 0 = .ok (.iload_n 1, 1) := ckS_g gdX12_before_0 0 rfl
theorem dX12_before_1 : decode cX12_before 1 = .ok (.iconst 0, 1) := ckS_g gdX12_before_0 1 rfl
theorem dX12_before_2 : decode cX12_before 2 = .ok (.aload_n 0, 1) := ckS_g gdX12_before_0 2 rfl
theorem dX12_before_3 : decode cX12_before 3 = .ok (.getfield 16, 3) := ckS_g gdX12_before_0 3 rfl
theorem dX12_before_6 : decode cX12_before 6 = .ok (.getfield 48, 3) := ckS_g gdX12_before_0 4 rfl
theorem dX12_before_9 : decode cX12_before 9 = .ok (.invokestatic 1, 3) := ckS_g gdX12_before_0 5 rfl
theorem dX12_before_12 : decode cX12_before 12 = .ok (.ifCond .ne 5, 3) := ckS_g gdX12_before_0 6 rfl
theorem dX12_before_15 : decode cX12_before 15 = .ok (.iconst (-1), 1) := ckS_g gdX12_before_0 7 rfl
theorem dX12_before_16 : decode cX12_before 16 = .ok (.ireturn, 1) := ckS_g gdX12_before_0 8 rfl
theorem dX12_before_17 : decode cX12_before 17 = .ok (.aload_n 0, 1) := ckS_g gdX12_before_0 9 rfl
theorem dX12_before_18 : decode cX12_before 18 = .ok (.getfield 20, 3) := ckS_g gdX12_before_0 10 rfl
theorem dX12_before_21 : decode cX12_before 21 = .ok (.aload_n 0, 1) := ckS_g gdX12_before_0 11 rfl
theorem dX12_before_22 : decode cX12_before 22 = .ok (.getfield 16, 3) := ckS_g gdX12_before_0 12 rfl
theorem dX12_before_25 : decode cX12_before 25 = .ok (.getfield 96, 3) := ckS_g gdX12_before_0 13 rfl
theorem dX12_before_28 : decode cX12_before 28 = .ok (.invokevirtual 36, 3) := ckS_g gdX12_before_0 14 rfl
theorem dX12_before_31 : decode cX12_before 31 = .ok (.aload_n 0, 1) := ckS_g gdX12_before_0 15 rfl
theorem dX12_before_32 : decode cX12_before 32 = .ok (.getfield 20, 3) := ckS_g gdX12_before_0 16 rfl
theorem dX12_before_35 : decode cX12_before 35 = .ok (.aload_n 0, 1) := ckS_g gdX12_before_0 17 rfl
theorem dX12_before_36 : decode cX12_before 36 = .ok (.getfield 16, 3) := ckS_g gdX12_before_0 18 rfl
theorem dX12_before_39 : decode cX12_before 39 = .ok (.getfield 167, 3) := ckS_g gdX12_before_0 19 rfl
theorem dX12_before_42 : decode cX12_before 42 = .ok (.iload_n 1, 1) := ckS_g gdX12_before_0 20 rfl
theorem dX12_before_43 : decode cX12_before 43 = .ok (.invokevirtual 170, 3) := ckS_g gdX12_before_0 21 rfl
theorem dX12_before_46 : decode cX12_before 46 = .ok (.aload_n 0, 1) := ckS_g gdX12_before_0 22 rfl
theorem dX12_before_47 : decode cX12_before 47 = .ok (.getfield 20, 3) := ckS_g gdX12_before_0 23 rfl
theorem dX12_before_50 : decode cX12_before 50 = .ok (.iload_n 2, 1) := ckS_g gdX12_before_0 24 rfl
theorem dX12_before_51 : decode cX12_before 51 = .ok (.iload_n 3, 1) := ckS_g gdX12_before_0 25 rfl
theorem dX12_before_52 : decode cX12_before 52 = .ok (.invokevirtual 92, 3) := ckS_g gdX12_before_0 26 rfl
theorem dX12_before_55 : decode cX12_before 55 = .ok (.ireturn, 1) := ckS_g gdX12_before_0 27 rfl
set_option maxRecDepth 100000 in
theorem z359 : wZ (.selects RX11 yX11_follow yX11_follow) := ⟨wT7 (List.mem_of_getElem? (i := 17) (by decide +kernel)), Or.inl rfl⟩
set_option maxRecDepth 100000 in
theorem z360 : wZ (.instanceMethod yX11_follow) := ⟨wT7 (List.mem_of_getElem? (i := 16) (by decide +kernel)), Or.inl rfl⟩
set_option maxRecDepth 100000 in
theorem z361 : wZ (.methodLink RX12 170 yX11_follow) := ⟨wT7 (List.mem_of_getElem? (i := 15) (by decide +kernel)), Or.inl rfl⟩
set_option maxRecDepth 100000 in
theorem z362 : wZ (.code yX12_before cX12_before 4 (some .int)) := ⟨wT7 (List.mem_of_getElem? (i := 14) rfl), Or.inl rfl⟩
def b_X12_before_a55 (S : MS) (x1 x2 x3 y0 : Int32) : Int32 × MS := (y0, S)
def q_X12_before_a55 (S : MS) (x1 x2 x3 y0 : Int32) : Prop := True
def b_X12_before_a31 (S : MS) (x1 x2 x3 : Int32) : Int32 × MS := (b_X12_before_a55 (mS (mS S ((f_X11_follow (S.2.1.2 40) S.2.2 x1).2)) ((f_X11_text ((mS S ((f_X11_follow (S.2.1.2 40) S.2.2 x1).2)).2.2) x2 x3).2)) x1 x2 x3 (f_X11_text ((mS S ((f_X11_follow (S.2.1.2 40) S.2.2 x1).2)).2.2) x2 x3).1)
def q_X12_before_a31 (S : MS) (x1 x2 x3 : Int32) : Prop := (p_X11_follow (S.2.1.2 40) S.2.2 x1) ∧ (p_X11_text ((mS S ((f_X11_follow (S.2.1.2 40) S.2.2 x1).2)).2.2) x2 x3) ∧ (q_X12_before_a55 (mS (mS S ((f_X11_follow (S.2.1.2 40) S.2.2 x1).2)) ((f_X11_text ((mS S ((f_X11_follow (S.2.1.2 40) S.2.2 x1).2)).2.2) x2 x3).2)) x1 x2 x3 (f_X11_text ((mS S ((f_X11_follow (S.2.1.2 40) S.2.2 x1).2)).2.2) x2 x3).1)
def f_X12_before (S : MS) (x1 x2 x3 : Int32) : Int32 × MS := if (f_X12_in x1 0 (S.2.1.1 7)) = 0 then ((-1), S) else (b_X12_before_a31 (mS S ((f_X11_begin S.2.2 (S.2.1.1 0)).2)) x1 x2 x3)
def p_X12_before (S : MS) (x1 x2 x3 : Int32) : Prop := (p_X12_in x1 0 (S.2.1.1 7)) ∧ (if (f_X12_in x1 0 (S.2.1.1 7)) = 0 then True else (p_X11_begin S.2.2 (S.2.1.1 0)) ∧ (q_X12_before_a31 (mS S ((f_X11_begin S.2.2 (S.2.1.1 0)).2)) x1 x2 x3))
def e_X12_before : List Cond := [.fieldLink RX12 16 "MotionFloorModel" "hall" "LMotionFloorModel$Hall;", .fieldLink RX12 48 "MotionFloorModel$Hall" "entries" "I", .methodLink RX12 1 yX12_in, .static yX12_in, .initialized RX12, .fieldLink RX12 20 "MotionFloorModel" "spare" "LMotionFloorModel$Hall;", .fieldLink RX12 96 "MotionFloorModel$Hall" "seats" "I", .methodLink RX12 36 yX11_begin, .instanceMethod yX11_begin, .selects RX11 yX11_begin yX11_begin, .initialized RX11, .fieldLink RX12 167 "MotionFloorModel$Hall" "minutes" "[I", .methodLink RX12 170 yX11_follow, .instanceMethod yX11_follow, .selects RX11 yX11_follow yX11_follow, .methodLink RX12 92 yX11_text, .instanceMethod yX11_text, .selects RX11 yX11_text yX11_text]
def v_X12_before : List Cond := .code yX12_before cX12_before 4 (some .int) :: (e_X12_before ++ (wsX120 ++ (wsX110 ++ (v_X12_in ++ (v_X11_begin ++ (v_X11_follow ++ (v_X11_text ++ [])))))))
theorem te_X12_before : GoodIn lw_tbl e_X12_before := wGc z219 (wGc z246 (wGc z3 (wGc z2 (wGc z1 (wGc z299 (wGc z270 (wGc z218 (wGc z217 (wGc z216 (wGc z51 (wGc z297 (wGc z361 (wGc z360 (wGc z359 (wGc z266 (wGc z265 (wGc z264 (wG0))))))))))))))))))
theorem t_X12_before : GoodIn lw_tbl v_X12_before := wGc z362 (wGa te_X12_before (wGa zcX12 (wGa zcX11 (wGa t_X12_in (wGa t_X11_begin (wGa t_X11_follow (wGa t_X11_text (wG0))))))))
set_option maxHeartbeats 4000000 in
set_option maxRecDepth 100000 in
theorem c_X12_before (l : Launch) (G : va_G) (K : Nat → ClassId) (m0 : Nat) (gm : Nat → Nat) (h1 : Nat) (g1 : Nat → Nat) (h2 : Nat) (g2 : Nat → Nat) (S0 : MS) (a1 a2 a3 : Int32) (sz : Nat) : Met l yX12_before v_X12_before ({ frames := 7, cells := 0, slots := 0, locals := 181 }) (va_Pc [.ref m0, .int a1, .int a2, .int a3] (mSt G K m0 gm h1 g1 h2 g2 sz S0 (p_X12_before S0 a1 a2 a3))) (va_Qi (fun (r : Int32) (u : MS) => (r, u) = f_X12_before S0 a1 a2 a3) (mB G K m0 gm h1 g1 h2 g2 (va_A (mW K m0 gm h1 g1 h2 g2 S0) sz)) (va_A (mW K m0 gm h1 g1 h2 g2 S0) sz)) 0 0 (va_A (mW K m0 gm h1 g1 h2 g2 S0) sz) := by
  refine Met.ofW (cc := cX12_before) (maxL := 4) (ret := (some .int)) (by decide) rfl ?_
  intro p e s m args below meth c s₁ B hml hv
  obtain ⟨rfl, ⟨hsz, hP, hK, hD0, hTE⟩, hp⟩ := hv
  have hx := B.exec
  have hb := B.bytes
  have hr := B.returns
  have hts := atoms_spec (ws := v_X12_before) B.pre
  have t_ := t_X12_before
  have mw : ∀ w ∈ e_X12_before, w ∈ v_X12_before := fun w h => List.mem_cons_of_mem _ (List.mem_append_left _ h)
  have hw := fun w (h : w ∈ e_X12_before) => hts w (mw w h)
  have iX12 : ∀ w ∈ wsX120, w ∈ v_X12_before := fun w h => List.mem_cons_of_mem _ (List.mem_append_right _ (List.mem_append_left _ h))
  have iX11 : ∀ w ∈ wsX110, w ∈ v_X12_before := fun w h => List.mem_cons_of_mem _ (List.mem_append_right _ (List.mem_append_right _ (List.mem_append_left _ h)))
  have j_X12_in : ∀ w ∈ v_X12_in, w ∈ v_X12_before := fun w h => List.mem_cons_of_mem _ (List.mem_append_right _ (List.mem_append_right _ (List.mem_append_right _ (List.mem_append_left _ h))))
  have j_X11_begin : ∀ w ∈ v_X11_begin, w ∈ v_X12_before := fun w h => List.mem_cons_of_mem _ (List.mem_append_right _ (List.mem_append_right _ (List.mem_append_right _ (List.mem_append_right _ (List.mem_append_left _ h)))))
  have j_X11_follow : ∀ w ∈ v_X11_follow, w ∈ v_X12_before := fun w h => List.mem_cons_of_mem _ (List.mem_append_right _ (List.mem_append_right _ (List.mem_append_right _ (List.mem_append_right _ (List.mem_append_right _ (List.mem_append_left _ h))))))
  have j_X11_text : ∀ w ∈ v_X11_text, w ∈ v_X12_before := fun w h => List.mem_cons_of_mem _ (List.mem_append_right _ (List.mem_append_right _ (List.mem_append_right _ (List.mem_append_right _ (List.mem_append_right _ (List.mem_append_right _ (List.mem_append_left _ h)))))))
  have hown : s.vm.findClass RX12 = some m.cls := findClass_of_methodNamed B.named
  have hlocks := B.notSynchronized
  subst hsz
  have hD := hD0.self (sz := s.heap.size)
  generalize hAe : va_A (mW K m0 gm h1 g1 h2 g2 S0) s.heap.size = A at hD ⊢
  have hA : ∀ q : Nat, s.heap.size ≤ q → A q := fun q h => by rw [← hAe]; exact Or.inr h
  have hS : va_S A s.heap s.heap [] := va_S.rf
  have hl := lv_entry ([.ref m0, .int a1, .int a2, .int a3]) (n := 4) (Nat.le_of_ble_eq_true rfl)
  rw [lg_entry_eq]
  generalize (lg_sl ([.ref m0, .int a1, .int a2, .int a3]) ++ List.replicate (4 - (lg_sl ([.ref m0, .int a1, .int a2, .int a3])).length) Slot.unset).toArray = ls at hl ⊢
  have hl : lv_has ls 4 [(0, .ref m0), (1, .int a1), (2, .int a2), (3, .int a3)] := hl
  refine wGen (fun Q hQ => ?_)
  obtain ⟨X, hX⟩ : ∃ X, f_X12_before S0 a1 a2 a3 = X := ⟨_, rfl⟩
  have B_M : ∀ (S : MS) (x1 x2 x3 : Int32) (H : Heap) (locs : List Loc) (ls : Array Slot), f_X12_before S x1 x2 x3 = X → p_X12_before S x1 x2 x3 → va_P G vwCl (mW K m0 gm h1 g1 h2 g2 S) H → va_D A (mW K m0 gm h1 g1 h2 g2 S) → va_S A s.heap H locs → lv_has ls 4 [(0, .ref m0), (1, .int x1), (2, .int x2), (3, .int x3)] → W p l e ({ frames := 7, cells := 0, slots := 0, locals := 181 } : Room) s m #[Value.ref m0, Value.int a1, Value.int a2, Value.int a3] below meth c H locs 0 0 Q (F0 m 0 ls []) := by
    intro S x1 x2 x3 H locs ls hE hp hP hD hS hl
    unfold f_X12_before at hE
    unfold p_X12_before at hp
    refine lv_iload_n hx hb dX12_before_0 rfl (lv_at hl 1 rfl) ?_
    refine lv_iconst (v := 0) hx hb dX12_before_1 (by decide) ?_
    refine lv_aload_n hx hb dX12_before_2 rfl (lv_at hl 0 rfl) ?_
    refine va_get (D := G) (ci := 9) (v := .ref h1) (C := RX12) (T := TX12) (N := 7) hx hb hts iX12 hown hK hP 0 rfl rfl 0 (by decide) (hw (.fieldLink RX12 16 "MotionFloorModel" "hall" "LMotionFloorModel$Hall;") (List.mem_of_getElem? (i := 0) rfl)) (fun _ h9 => h9) rfl dX12_before_3 ?_
    refine va_get (D := G) (ci := 8) (v := .int (S.2.1.1 7)) (C := RX11) (T := TX11) (N := 42) hx hb hts iX11 hown hK hP 5 rfl rfl 7 (by decide) (hw (.fieldLink RX12 48 "MotionFloorModel$Hall" "entries" "I") (List.mem_of_getElem? (i := 1) rfl)) (fun _ h9 => h9) rfl dX12_before_6 ?_
    obtain ⟨hy1, hp⟩ := hp
    refine nGoi (va_runS (As := [.int x1, .int 0, .int (S.2.1.1 7)]) (rest := []) ⟨hx, hb, hml, hown, hts⟩ (c_X12_in l G K x1 0 (S.2.1.1 7) _) (va_cwS 3 hts (wGS t_ (mw (.methodLink RX12 1 yX12_in) (List.mem_of_getElem? (i := 2) rfl)) (mw (.static yX12_in) (List.mem_of_getElem? (i := 3) rfl)) (mw (.initialized RX12) (List.mem_of_getElem? (i := 4) rfl)) j_X12_in) rfl rfl rfl (by decide +kernel) ⟨Nat.le_of_ble_eq_true rfl, Nat.le_of_ble_eq_true rfl⟩) (nPS hK hTE hy1) rfl rfl hl.1 rfl (lv_room (Nat.le_of_ble_eq_true rfl)) dX12_before_9 ⟨Nat.le_of_ble_eq_true rfl, Nat.le_of_ble_eq_true rfl⟩) hP hS hA (fun r H locs hv hP hS => ?_)
    subst hv
    refine lv_if_ne (tgt := 17) hx hb dX12_before_12 (by decide) (fun c2 => ?_) (fun c2 => ?_)
    · rw [if_neg c2] at hE hp
      refine lv_aload_n hx hb dX12_before_17 rfl (lv_at hl 0 rfl) ?_
      refine va_get (D := G) (ci := 9) (v := .ref h2) (C := RX12) (T := TX12) (N := 7) hx hb hts iX12 hown hK hP 0 rfl rfl 1 (by decide) (hw (.fieldLink RX12 20 "MotionFloorModel" "spare" "LMotionFloorModel$Hall;") (List.mem_of_getElem? (i := 5) rfl)) (fun _ h9 => h9) rfl dX12_before_18 ?_
      refine lv_aload_n hx hb dX12_before_21 rfl (lv_at hl 0 rfl) ?_
      refine va_get (D := G) (ci := 9) (v := .ref h1) (C := RX12) (T := TX12) (N := 7) hx hb hts iX12 hown hK hP 0 rfl rfl 0 (by decide) (hw (.fieldLink RX12 16 "MotionFloorModel" "hall" "LMotionFloorModel$Hall;") (List.mem_of_getElem? (i := 0) rfl)) (fun _ h9 => h9) rfl dX12_before_22 ?_
      refine va_get (D := G) (ci := 8) (v := .int (S.2.1.1 0)) (C := RX11) (T := TX11) (N := 42) hx hb hts iX11 hown hK hP 5 rfl rfl 0 (by decide) (hw (.fieldLink RX12 96 "MotionFloorModel$Hall" "seats" "I") (List.mem_of_getElem? (i := 6) rfl)) (fun _ h9 => h9) rfl dX12_before_25 ?_
      obtain ⟨hy3, hp⟩ := hp
      refine mGov_s (va_runV (As := [.int (S.2.1.1 0)]) (rest := []) ⟨hx, hb, hml, hown, hts⟩ (c_X11_begin l G K h2 g2 S.2.2 (S.2.1.1 0) _) (cwV 1 hts (wGV t_ (mw (.methodLink RX12 36 yX11_begin) (List.mem_of_getElem? (i := 7) rfl)) (mw (.instanceMethod yX11_begin) (List.mem_of_getElem? (i := 8) rfl)) (mw (.selects RX11 yX11_begin yX11_begin) (List.mem_of_getElem? (i := 9) rfl)) (mw (.initialized RX11) (List.mem_of_getElem? (i := 10) rfl)) j_X11_begin) rfl rfl rfl (by decide +kernel) ⟨Nat.le_of_ble_eq_true rfl, Nat.le_of_ble_eq_true rfl⟩) (hPV hK hTE (mP_s hP) (mD_s hD) hy3) rfl rfl hl.1 rfl (lv_room (Nat.le_of_ble_eq_true rfl)) dX12_before_28 ⟨Nat.le_of_ble_eq_true rfl, Nat.le_of_ble_eq_true rfl⟩) hP hD hS hA (fun u4 H locs hv hP hD hS => ?_)
      rw [← hv] at hE hp
      dsimp only at hE hp
      unfold b_X12_before_a31 at hE
      unfold q_X12_before_a31 at hp
      refine lv_aload_n hx hb dX12_before_31 rfl (lv_at hl 0 rfl) ?_
      refine va_get (D := G) (ci := 9) (v := .ref h2) (C := RX12) (T := TX12) (N := 7) hx hb hts iX12 hown hK hP 0 rfl rfl 1 (by decide) (hw (.fieldLink RX12 20 "MotionFloorModel" "spare" "LMotionFloorModel$Hall;") (List.mem_of_getElem? (i := 5) rfl)) (fun _ h9 => h9) rfl dX12_before_32 ?_
      refine lv_aload_n hx hb dX12_before_35 rfl (lv_at hl 0 rfl) ?_
      refine va_get (D := G) (ci := 9) (v := .ref h1) (C := RX12) (T := TX12) (N := 7) hx hb hts iX12 hown hK hP 0 rfl rfl 0 (by decide) (hw (.fieldLink RX12 16 "MotionFloorModel" "hall" "LMotionFloorModel$Hall;") (List.mem_of_getElem? (i := 0) rfl)) (fun _ h9 => h9) rfl dX12_before_36 ?_
      refine va_get (D := G) (ci := 8) (v := .ref (g1 40)) (C := RX11) (T := TX11) (N := 42) hx hb hts iX11 hown hK hP 5 rfl rfl 40 (by decide) (hw (.fieldLink RX12 167 "MotionFloorModel$Hall" "minutes" "[I") (List.mem_of_getElem? (i := 11) rfl)) (fun _ h9 => h9) rfl dX12_before_39 ?_
      refine lv_iload_n hx hb dX12_before_42 rfl (lv_at hl 1 rfl) ?_
      obtain ⟨hy6, hp⟩ := hp
      refine mGov_f (va_runV (As := [.ref (g1 40), .int x1]) (rest := []) ⟨hx, hb, hml, hown, hts⟩ (c_X11_follow l G K h2 g2 (g1 40) (((mS S u4).2.1).2 40) ((mS S u4).2.2) x1 _) (cwV 2 hts (wGV t_ (mw (.methodLink RX12 170 yX11_follow) (List.mem_of_getElem? (i := 12) rfl)) (mw (.instanceMethod yX11_follow) (List.mem_of_getElem? (i := 13) rfl)) (mw (.selects RX11 yX11_follow yX11_follow) (List.mem_of_getElem? (i := 14) rfl)) (mw (.initialized RX11) (List.mem_of_getElem? (i := 10) rfl)) j_X11_follow) rfl rfl rfl (by decide +kernel) ⟨Nat.le_of_ble_eq_true rfl, Nat.le_of_ble_eq_true rfl⟩) (mPVf hK hTE hP hD hy6) rfl rfl hl.1 rfl (lv_room (Nat.le_of_ble_eq_true rfl)) dX12_before_43 ⟨Nat.le_of_ble_eq_true rfl, Nat.le_of_ble_eq_true rfl⟩) hP hD hS hA (fun u7 H locs hv hP hD hS => ?_)
      have hv := congrArg Prod.snd hv
      dsimp only at hv
      subst hv
      refine lv_aload_n hx hb dX12_before_46 rfl (lv_at hl 0 rfl) ?_
      refine va_get (D := G) (ci := 9) (v := .ref h2) (C := RX12) (T := TX12) (N := 7) hx hb hts iX12 hown hK hP 0 rfl rfl 1 (by decide) (hw (.fieldLink RX12 20 "MotionFloorModel" "spare" "LMotionFloorModel$Hall;") (List.mem_of_getElem? (i := 5) rfl)) (fun _ h9 => h9) rfl dX12_before_47 ?_
      refine lv_iload_n hx hb dX12_before_50 rfl (lv_at hl 2 rfl) ?_
      refine lv_iload_n hx hb dX12_before_51 rfl (lv_at hl 3 rfl) ?_
      obtain ⟨hy8, hp⟩ := hp
      refine mGoi_s (va_runV (As := [.int x2, .int x3]) (rest := []) ⟨hx, hb, hml, hown, hts⟩ (c_X11_text l G K h2 g2 ((mS (mS S u4) ((f_X11_follow (((mS S u4).2.1).2 40) ((mS S u4).2.2) x1).2)).2.2) x2 x3 _) (cwV 2 hts (wGV t_ (mw (.methodLink RX12 92 yX11_text) (List.mem_of_getElem? (i := 15) rfl)) (mw (.instanceMethod yX11_text) (List.mem_of_getElem? (i := 16) rfl)) (mw (.selects RX11 yX11_text yX11_text) (List.mem_of_getElem? (i := 17) rfl)) (mw (.initialized RX11) (List.mem_of_getElem? (i := 10) rfl)) j_X11_text) rfl rfl rfl (by decide +kernel) ⟨Nat.le_of_ble_eq_true rfl, Nat.le_of_ble_eq_true rfl⟩) (hPV hK hTE (mP_s hP) (mD_s hD) hy8) rfl rfl hl.1 rfl (lv_room (Nat.le_of_ble_eq_true rfl)) dX12_before_52 ⟨Nat.le_of_ble_eq_true rfl, Nat.le_of_ble_eq_true rfl⟩) hP hD hS hA (fun r10 u9 H locs hv hP hD hS => ?_)
      rw [← hv] at hE hp
      dsimp only at hE hp
      unfold b_X12_before_a55 at hE
      unfold q_X12_before_a55 at hp
      subst hQ
      exact W.iret (v := r10) hx hb hr (fun t ht hW => ⟨⟨r10, (mS (mS (mS S u4) ((f_X11_follow (((mS S u4).2.1).2 40) ((mS S u4).2.2) x1).2)) u9), rfl, hE.trans hX.symm, by rw [ht]; exact hP, hD⟩, hS.F ht⟩) hS.2.2 dX12_before_55
    · rw [if_pos c2] at hE hp
      refine lv_iconst (v := (-1)) hx hb dX12_before_15 (by decide) ?_
      subst hQ
      exact W.iret (v := (-1)) hx hb hr (fun t ht hW => ⟨⟨(-1), S, rfl, hE.trans hX.symm, by rw [ht]; exact hP, hD⟩, hS.F ht⟩) hS.2.2 dX12_before_16
  exact B_M S0 a1 a2 a3 _ _ _ hX hp hP hD hS hl
