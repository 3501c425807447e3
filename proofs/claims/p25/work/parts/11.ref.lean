theorem gdX11_hasDraft_0 : ckS (List.drop 0 cX11_hasDraft.data.toList) 0 [(0, .aload_n 0, 1), (1, .getfield 130, 3), (4, .ifCond .le 33, 3), (7, .aload_n 0, 1), (8, .getfield 151, 3), (11, .ifCond .ne 26, 3), (14, .aload_n 0, 1), (15, .getfield 22, 3), (18, .aload_n 0, 1), (19, .getfield 75, 3), (22, .iconst 0, 1), (23, .iaload, 1), (24, .iaload, 1), (25, .iload_n 1, 1), (26, .iload_n 2, 1), (27, .invokestatic 136, 3), (30, .ifCond .eq 7, 3), (33, .iconst 1, 1), (34, .goto 4, 3), (37, .iconst 0, 1), (38, .ireturn, 1)] = true := by decide +kernel
theorem dX11_hasDraft_0 : decode cX11_hasDraft 0 = .ok (.aload_n 0, 1) := ckS_g gdX11_hasDraft_0 0 rfl
theorem dX11_hasDraft_1 : decode cX11_hasDraft 1 = .ok (.getfield 130, 3) := ckS_g gdX11_hasDraft_0 1 rfl
theorem dX11_hasDraft_4 : decode cX11_hasDraft 4 = .ok (.ifCond .le 33, 3) := ckS_g gdX11_hasDraft_0 2 rfl
theorem dX11_hasDraft_7 : decode cX11_hasDraft 7 = .ok (.aload_n 0, 1) := ckS_g gdX11_hasDraft_0 3 rfl
theorem dX11_hasDraft_8 : decode cX11_hasDraft 8 = .ok (.getfield 151, 3) := ckS_g gdX11_hasDraft_0 4 rfl
theorem dX11_hasDraft_11 : decode cX11_hasDraft 11 = .ok (.ifCond .ne 26, 3) := ckS_g gdX11_hasDraft_0 5 rfl
theorem dX11_hasDraft_14 : decode cX11_hasDraft 14 = .ok (.aload_n 0, 1) := ckS_g gdX11_hasDraft_0 6 rfl
theorem dX11_hasDraft_15 : decode cX11_hasDraft 15 = .ok (.getfield 22, 3) := ckS_g gdX11_hasDraft_0 7 rfl
theorem dX11_hasDraft_18 : decode cX11_hasDraft 18 = .ok (.aload_n 0, 1) := ckS_g gdX11_hasDraft_0 8 rfl
theorem dX11_hasDraft_19 : decode cX11_hasDraft 19 = .ok (.getfield 75, 3) := ckS_g gdX11_hasDraft_0 9 rfl
theorem dX11_hasDraft_22 : decode cX11_hasDraft 22 = .ok (.iconst 0, 1) := ckS_g gdX11_hasDraft_0 10 rfl
theorem dX11_hasDraft_23 : decode cX11_hasDraft 23 = .ok (.iaload, 1) := ckS_g gdX11_hasDraft_0 11 rfl
theorem dX11_hasDraft_24 : decode cX11_hasDraft 24 = .ok (.iaload, 1) := ckS_g gdX11_hasDraft_0 12 rfl
theorem dX11_hasDraft_25 : decode cX11_hasDraft 25 = .ok (.iload_n 1, 1) := ckS_g gdX11_hasDraft_0 13 rfl
theorem dX11_hasDraft_26 : decode cX11_hasDraft 26 = .ok (.iload_n 2, 1) := ckS_g gdX11_hasDraft_0 14 rfl
theorem dX11_hasDraft_27 : decode cX11_hasDraft 27 = .ok (.invokestatic 136, 3) := ckS_g gdX11_hasDraft_0 15 rfl
theorem dX11_hasDraft_30 : decode cX11_hasDraft 30 = .ok (.ifCond .eq 7, 3) := ckS_g gdX11_hasDraft_0 16 rfl
theorem dX11_hasDraft_33 : decode cX11_hasDraft 33 = .ok (.iconst 1, 1) := ckS_g gdX11_hasDraft_0 17 rfl
theorem dX11_hasDraft_34 : decode cX11_hasDraft 34 = .ok (.goto 4, 3) := ckS_g gdX11_hasDraft_0 18 rfl
theorem dX11_hasDraft_37 : decode cX11_hasDraft 37 = .ok (.iconst 0, 1) := ckS_g gdX11_hasDraft_0 19 rfl
theorem dX11_hasDraft_38 : decode cX11_hasDraft 38 = .ok (.ireturn, 1) := ckS_g gdX11_hasDraft_0 20 rfl
set_option maxRecDepth 100000 in
theorem z84 : wZ (.fieldLink RX11 75 "MotionFloorModel$Hall" "draft" "[I") := ⟨wT5 (List.mem_of_getElem? (i := 92) (by decide +kernel)), Or.inl rfl⟩
set_option maxRecDepth 100000 in
theorem z85 : wZ (.fieldLink RX11 151 "MotionFloorModel$Hall" "draftTabled" "Z") := ⟨wT5 (List.mem_of_getElem? (i := 100) (by decide +kernel)), Or.inl rfl⟩
set_option maxRecDepth 100000 in
theorem z86 : wZ (.fieldLink RX11 130 "MotionFloorModel$Hall" "drafted" "I") := ⟨wT5 (List.mem_of_getElem? (i := 98) (by decide +kernel)), Or.inl rfl⟩
set_option maxRecDepth 100000 in
theorem z87 : wZ (.code yX11_hasDraft cX11_hasDraft 3 (some .boolean)) := ⟨wT6 (List.mem_of_getElem? (i := 17) rfl), Or.inl rfl⟩
def b_X11_hasDraft_38 (S : HS) (x1 x2 y0 : Int32) : Int32 × HS := (y0, S)
def q_X11_hasDraft_38 (S : HS) (x1 x2 y0 : Int32) : Prop := (narrow .boolean (.int y0) = .int y0) ∧ True
def b_X11_hasDraft_37 (S : HS) (x1 x2 : Int32) : Int32 × HS := (b_X11_hasDraft_38 S x1 x2 0)
def q_X11_hasDraft_37 (S : HS) (x1 x2 : Int32) : Prop := (q_X11_hasDraft_38 S x1 x2 0)
def f_X11_hasDraft (S : HS) (x1 x2 : Int32) : Int32 × HS := if (S.1 35) ≤ 0 then (b_X11_hasDraft_37 S x1 x2) else if (S.1 36) = 0 then if (f_X12_in (S.2 14 (S.2 32 (0 : Int32).toNatClampNeg).toNatClampNeg) x1 x2) = 0 then (b_X11_hasDraft_37 S x1 x2) else (b_X11_hasDraft_38 S x1 x2 1) else (b_X11_hasDraft_37 S x1 x2)
def p_X11_hasDraft (S : HS) (x1 x2 : Int32) : Prop := (if (S.1 35) ≤ 0 then (q_X11_hasDraft_37 S x1 x2) else (if (S.1 36) = 0 then (vp_in 0 9) ∧ (vp_in (S.2 32 (0 : Int32).toNatClampNeg) 90) ∧ (p_X12_in (S.2 14 (S.2 32 (0 : Int32).toNatClampNeg).toNatClampNeg) x1 x2) ∧ (if (f_X12_in (S.2 14 (S.2 32 (0 : Int32).toNatClampNeg).toNatClampNeg) x1 x2) = 0 then (q_X11_hasDraft_37 S x1 x2) else (q_X11_hasDraft_38 S x1 x2 1)) else (q_X11_hasDraft_37 S x1 x2)))
def e_X11_hasDraft : List Cond := [.fieldLink RX11 130 "MotionFloorModel$Hall" "drafted" "I", .fieldLink RX11 151 "MotionFloorModel$Hall" "draftTabled" "Z", .fieldLink RX11 22 "MotionFloorModel$Hall" "kind" "[I", .fieldLink RX11 75 "MotionFloorModel$Hall" "draft" "[I", .initialized RX12, .static yX12_in]
def v_X11_hasDraft : List Cond := .code yX11_hasDraft cX11_hasDraft 3 (some .boolean) :: (e_X11_hasDraft ++ (wsX110 ++ (v_X12_in ++ [])))
theorem te_X11_hasDraft : GoodIn lw_tbl e_X11_hasDraft := wGc z86 (wGc z85 (wGc z78 (wGc z84 (wGc z1 (wGc z2 (wG0))))))
theorem t_X11_hasDraft : GoodIn lw_tbl v_X11_hasDraft := wGc z87 (wGa te_X11_hasDraft (wGa zcX11 (wGa t_X12_in (wG0))))
set_option maxHeartbeats 4000000 in
set_option maxRecDepth 100000 in
theorem c_X11_hasDraft (l : Launch) (G : va_G) (K : Nat → ClassId) (h : Nat) (g : Nat → Nat) (S0 : HS) (a1 a2 : Int32) (sz : Nat) : Met l yX11_hasDraft v_X11_hasDraft ({ frames := 1, cells := 0, slots := 0, locals := 22 }) (va_Pc [.ref h, .int a1, .int a2] (hS G K h g sz S0 (p_X11_hasDraft S0 a1 a2))) (va_Qi (fun (r : Int32) (u : HS) => (r, u) = f_X11_hasDraft S0 a1 a2) (hB G K h g (va_A (hW K h g S0) sz)) (va_A (hW K h g S0) sz)) 0 0 (va_A (hW K h g S0) sz) := by
  refine Met.ofW (cc := cX11_hasDraft) (maxL := 3) (ret := (some .boolean)) (by decide) rfl ?_
  intro p e s m args below meth c s₁ B hml hv
  obtain ⟨rfl, ⟨hsz, hP, hK, hD0, hTE⟩, hp⟩ := hv
  have hx := B.exec
  have hb := B.bytes
  have hr := B.returns
  have hts := atoms_spec (ws := v_X11_hasDraft) B.pre
  have t_ := t_X11_hasDraft
  have mw : ∀ w ∈ e_X11_hasDraft, w ∈ v_X11_hasDraft := fun w h => List.mem_cons_of_mem _ (List.mem_append_left _ h)
  have hw := fun w (h : w ∈ e_X11_hasDraft) => hts w (mw w h)
  have iX11 : ∀ w ∈ wsX110, w ∈ v_X11_hasDraft := fun w h => List.mem_cons_of_mem _ (List.mem_append_right _ (List.mem_append_left _ h))
  have j_X12_in : ∀ w ∈ v_X12_in, w ∈ v_X11_hasDraft := fun w h => List.mem_cons_of_mem _ (List.mem_append_right _ (List.mem_append_right _ (List.mem_append_left _ h)))
  have hown : s.vm.findClass RX11 = some m.cls := findClass_of_methodNamed B.named
  have hlocks := B.notSynchronized
  subst hsz
  have hD := hD0.self (sz := s.heap.size)
  generalize hAe : va_A (hW K h g S0) s.heap.size = A at hD ⊢
  have hA : ∀ q : Nat, s.heap.size ≤ q → A q := fun q h => by rw [← hAe]; exact Or.inr h
  have hS : va_S A s.heap s.heap [] := va_S.rf
  have hl := lv_entry ([.ref h, .int a1, .int a2]) (n := 3) (Nat.le_of_ble_eq_true rfl)
  rw [lg_entry_eq]
  generalize (lg_sl ([.ref h, .int a1, .int a2]) ++ List.replicate (3 - (lg_sl ([.ref h, .int a1, .int a2])).length) Slot.unset).toArray = ls at hl ⊢
  have hl : lv_has ls 3 [(0, .ref h), (1, .int a1), (2, .int a2)] := hl
  refine wGen (fun Q hQ => ?_)
  obtain ⟨X, hX⟩ : ∃ X, f_X11_hasDraft S0 a1 a2 = X := ⟨_, rfl⟩
  have B_38 : ∀ (S : HS) (x1 x2 y0 : Int32) (H : Heap) (locs : List Loc) (ls : Array Slot), b_X11_hasDraft_38 S x1 x2 y0 = X → q_X11_hasDraft_38 S x1 x2 y0 → va_P G vwCl (hW K h g S) H → va_D A (hW K h g S) → va_S A s.heap H locs → lv_has ls 3 [(0, .ref h), (1, .int x1), (2, .int x2)] → W p l e ({ frames := 1, cells := 0, slots := 0, locals := 22 } : Room) s m #[Value.ref h, Value.int a1, Value.int a2] below meth c H locs 0 0 Q (F0 m 38 ls [.int y0]) := by
    intro S x1 x2 y0 H locs ls hE hp hP hD hS hl
    unfold b_X11_hasDraft_38 at hE
    unfold q_X11_hasDraft_38 at hp
    obtain ⟨hy2, hp⟩ := hp
    subst hQ
    exact W.zret (v := y0) (ty := .boolean) hx hb hr hy2 (fun t ht hW => ⟨⟨y0, S, rfl, hE.trans hX.symm, by rw [ht]; exact hP, hD⟩, hS.F ht⟩) hS.2.2 dX11_hasDraft_38
  have B_37 : ∀ (S : HS) (x1 x2 : Int32) (H : Heap) (locs : List Loc) (ls : Array Slot), b_X11_hasDraft_37 S x1 x2 = X → q_X11_hasDraft_37 S x1 x2 → va_P G vwCl (hW K h g S) H → va_D A (hW K h g S) → va_S A s.heap H locs → lv_has ls 3 [(0, .ref h), (1, .int x1), (2, .int x2)] → W p l e ({ frames := 1, cells := 0, slots := 0, locals := 22 } : Room) s m #[Value.ref h, Value.int a1, Value.int a2] below meth c H locs 0 0 Q (F0 m 37 ls []) := by
    intro S x1 x2 H locs ls hE hp hP hD hS hl
    unfold b_X11_hasDraft_37 at hE
    unfold q_X11_hasDraft_37 at hp
    refine lv_iconst (v := 0) hx hb dX11_hasDraft_37 (by decide) ?_
    exact B_38 S x1 x2 0 _ _ _ hE hp hP hD hS (lv_sub hl [0, 1, 2] rfl)
  have B_M : ∀ (S : HS) (x1 x2 : Int32) (H : Heap) (locs : List Loc) (ls : Array Slot), f_X11_hasDraft S x1 x2 = X → p_X11_hasDraft S x1 x2 → va_P G vwCl (hW K h g S) H → va_D A (hW K h g S) → va_S A s.heap H locs → lv_has ls 3 [(0, .ref h), (1, .int x1), (2, .int x2)] → W p l e ({ frames := 1, cells := 0, slots := 0, locals := 22 } : Room) s m #[Value.ref h, Value.int a1, Value.int a2] below meth c H locs 0 0 Q (F0 m 0 ls []) := by
    intro S x1 x2 H locs ls hE hp hP hD hS hl
    unfold f_X11_hasDraft at hE
    unfold p_X11_hasDraft at hp
    refine lv_aload_n hx hb dX11_hasDraft_0 rfl (lv_at hl 0 rfl) ?_
    refine va_get (D := G) (ci := 8) (v := .int (S.1 35)) (C := RX11) (T := TX11) (N := 42) hx hb hts iX11 hown hK hP 0 rfl rfl 35 (by decide) (hw (.fieldLink RX11 130 "MotionFloorModel$Hall" "drafted" "I") (List.mem_of_getElem? (i := 0) rfl)) (fun _ h9 => h9) rfl dX11_hasDraft_1 ?_
    refine lv_if_le (tgt := 37) hx hb dX11_hasDraft_4 (by decide) (fun c1 => ?_) (fun c1 => ?_)
    · rw [if_pos c1] at hE hp
      exact B_37 S x1 x2 _ _ _ hE hp hP hD hS (lv_sub hl [0, 1, 2] rfl)
    · rw [if_neg c1] at hE hp
      refine lv_aload_n hx hb dX11_hasDraft_7 rfl (lv_at hl 0 rfl) ?_
      refine va_get (D := G) (ci := 8) (v := .int (S.1 36)) (C := RX11) (T := TX11) (N := 42) hx hb hts iX11 hown hK hP 0 rfl rfl 36 (by decide) (hw (.fieldLink RX11 151 "MotionFloorModel$Hall" "draftTabled" "Z") (List.mem_of_getElem? (i := 1) rfl)) (fun _ h9 => h9) rfl dX11_hasDraft_8 ?_
      refine lv_if_ne (tgt := 37) hx hb dX11_hasDraft_11 (by decide) (fun c3 => ?_) (fun c3 => ?_)
      · rw [if_neg c3] at hE hp
        exact B_37 S x1 x2 _ _ _ hE hp hP hD hS (lv_sub hl [0, 1, 2] rfl)
      · rw [if_pos c3] at hE hp
        refine lv_aload_n hx hb dX11_hasDraft_14 rfl (lv_at hl 0 rfl) ?_
        refine va_get (D := G) (ci := 8) (v := .ref (g 14)) (C := RX11) (T := TX11) (N := 42) hx hb hts iX11 hown hK hP 0 rfl rfl 14 (by decide) (hw (.fieldLink RX11 22 "MotionFloorModel$Hall" "kind" "[I") (List.mem_of_getElem? (i := 2) rfl)) (fun _ h9 => h9) rfl dX11_hasDraft_15 ?_
        refine lv_aload_n hx hb dX11_hasDraft_18 rfl (lv_at hl 0 rfl) ?_
        refine va_get (D := G) (ci := 8) (v := .ref (g 32)) (C := RX11) (T := TX11) (N := 42) hx hb hts iX11 hown hK hP 0 rfl rfl 32 (by decide) (hw (.fieldLink RX11 75 "MotionFloorModel$Hall" "draft" "[I") (List.mem_of_getElem? (i := 3) rfl)) (fun _ h9 => h9) rfl dX11_hasDraft_19 ?_
        refine lv_iconst (v := 0) hx hb dX11_hasDraft_22 (by decide) ?_
        obtain ⟨hy4, hp⟩ := hp
        refine va_iald hx hb hK hP 21 0 rfl rfl hy4 dX11_hasDraft_23 ?_
        obtain ⟨hy5, hp⟩ := hp
        refine va_iald hx hb hK hP 4 0 rfl rfl hy5 dX11_hasDraft_24 ?_
        refine lv_iload_n hx hb dX11_hasDraft_25 rfl (lv_at hl 1 rfl) ?_
        refine lv_iload_n hx hb dX11_hasDraft_26 rfl (lv_at hl 2 rfl) ?_
        obtain ⟨hy6, hp⟩ := hp
        refine nGoi (va_runSN (As := [.int (S.2 14 (S.2 32 (0 : Int32).toNatClampNeg).toNatClampNeg), .int x1, .int x2]) (rest := []) ⟨hx, hb, hml, hown, hts⟩ (c_X12_in l G K (S.2 14 (S.2 32 (0 : Int32).toNatClampNeg).toNatClampNeg) x1 x2 _) ⟨va_cnB (host := "MotionFloorModel") 3 hts (wGP t_ j_X12_in) rfl rfl rfl hTE.2.2.2.2.2.2.2.2.2.1 (hw (.initialized RX12) (List.mem_of_getElem? (i := 4) rfl)) (by decide +kernel) ⟨Nat.le_of_ble_eq_true rfl, Nat.le_of_ble_eq_true rfl⟩, (hw (.static yX12_in) (List.mem_of_getElem? (i := 5) rfl)), trivial⟩ (nPS hK hTE hy6) rfl rfl hl.1 rfl (lv_room (Nat.le_of_ble_eq_true rfl)) dX11_hasDraft_27 ⟨Nat.le_of_ble_eq_true rfl, Nat.le_of_ble_eq_true rfl⟩) hP hS hA (fun r H locs hv hP hS => ?_)
        subst hv
        refine lv_if_eq (tgt := 37) hx hb dX11_hasDraft_30 (by decide) (fun c7 => ?_) (fun c7 => ?_)
        · rw [if_pos c7] at hE hp
          exact B_37 S x1 x2 _ _ _ hE hp hP hD hS (lv_sub hl [0, 1, 2] rfl)
        · rw [if_neg c7] at hE hp
          refine lv_iconst (v := 1) hx hb dX11_hasDraft_33 (by decide) ?_
          refine lv_goto (tgt := 38) hx hb dX11_hasDraft_34 (by decide) ?_
          exact B_38 S x1 x2 1 _ _ _ hE hp hP hD hS (lv_sub hl [0, 1, 2] rfl)
  exact B_M S0 a1 a2 _ _ _ hX hp hP hD hS hl
theorem gdX11_wantsPlace_0 : ckS (List.drop 0 cX11_wantsPlace.data.toList) 0 [(0, .iconst 0, 1), (1, .istore_n 1, 1), (2, .iload_n 1, 1), (3, .aload_n 0, 1), (4, .getfield 115, 3), (7, .if_icmp .ge 57, 3), (10, .aload_n 0, 1), (11, .getfield 22, 3), (14, .aload_n 0, 1), (15, .getfield 72, 3), (18, .iload_n 1, 1), (19, .iaload, 1), (20, .iaload, 1), (21, .iconst 4, 1), (22, .if_icmp .eq 34, 3), (25, .aload_n 0, 1), (26, .getfield 22, 3), (29, .aload_n 0, 1), (30, .getfield 72, 3), (33, .iload_n 1, 1), (34, .iaload, 1), (35, .iaload, 1), (36, .iconst 5, 1), (37, .if_icmp .eq 19, 3), (40, .aload_n 0, 1), (41, .getfield 22, 3), (44, .aload_n 0, 1), (45, .getfield 72, 3), (48, .iload_n 1, 1), (49, .iaload, 1), (50, .iaload, 1), (51, .bipush 7, 2), (53, .if_icmp .ne 5, 3), (56, .iconst 1, 1), (57, .ireturn, 1), (58, .iinc 1 1, 3), (61, .goto (-59), 3), (64, .iconst 0, 1), (65, .ireturn, 1)] = true := by decide +kernel
theorem dX11_wantsPlace_0 : decode cX11_wantsPlace 0 = .ok (.iconst 0, 1) := ckS_g gdX11_wantsPlace_0 0 rfl
theorem dX11_wantsPlace_1 : decode cX11_wantsPlace 1 = .ok (.istore_n 1, 1) := ckS_g gdX11_wantsPlace_0 1 rfl
theorem dX11_wantsPlace_2 : decode cX11_wantsPlace 2 = .ok (.iload_n 1, 1) := ckS_g gdX11_wantsPlace_0 2 rfl
theorem dX11_wantsPlace_3 : decode cX11_wantsPlace 3 = .ok (.aload_n 0, 1) := ckS_g gdX11_wantsPlace_0 3 rfl
theorem dX11_wantsPlace_4 : decode cX11_wantsPlace 4 = .ok (.getfield 115, 3) := ckS_g gdX11_wantsPlace_0 4 rfl
theorem dX11_wantsPlace_7 : decode cX11_wantsPlace 7 = .ok (.if_icmp .ge 57, 3) := ckS_g gdX11_wantsPlace_0 5 rfl
theorem dX11_wantsPlace_10 : decode cX11_wantsPlace 10 = .ok (.aload_n 0, 1) := ckS_g gdX11_wantsPlace_0 6 rfl
theorem dX11_wantsPlace_11 : decode cX11_wantsPlace 11 = .ok (.getfield 22, 3) := ckS_g gdX11_wantsPlace_0 7 rfl
theorem dX11_wantsPlace_14 : decode cX11_wantsPlace 14 = .ok (.aload_n 0, 1) := ckS_g gdX11_wantsPlace_0 8 rfl
theorem dX11_wantsPlace_15 : decode cX11_wantsPlace 15 = .ok (.getfield 72, 3) := ckS_g gdX11_wantsPlace_0 9 rfl
theorem dX11_wantsPlace_18 : decode cX11_wantsPlace 18 = .ok (.iload_n 1, 1) := ckS_g gdX11_wantsPlace_0 10 rfl
theorem dX11_wantsPlace_19 : decode cX11_wantsPlace 19 = .ok (.iaload, 1) := ckS_g gdX11_wantsPlace_0 11 rfl
theorem dX11_wantsPlace_20 : decode cX11_wantsPlace 20 = .ok (.iaload, 1) := ckS_g gdX11_wantsPlace_0 12 rfl
theorem dX11_wantsPlace_21 : decode cX11_wantsPlace 21 = .ok (.iconst 4, 1) := ckS_g gdX11_wantsPlace_0 13 rfl
theorem dX11_wantsPlace_22 : decode cX11_wantsPlace 22 = .ok (.if_icmp .eq 34, 3) := ckS_g gdX11_wantsPlace_0 14 rfl
theorem dX11_wantsPlace_25 : decode cX11_wantsPlace 25 = .ok (.aload_n 0, 1) := ckS_g gdX11_wantsPlace_0 15 rfl
theorem dX11_wantsPlace_26 : decode cX11_wantsPlace 26 = .ok (.getfield 22, 3) := ckS_g gdX11_wantsPlace_0 16 rfl
theorem dX11_wantsPlace_29 : decode cX11_wantsPlace 29 = .ok (.aload_n 0, 1) := ckS_g gdX11_wantsPlace_0 17 rfl
theorem dX11_wantsPlace_30 : decode cX11_wantsPlace 30 = .ok (.getfield 72, 3) := ckS_g gdX11_wantsPlace_0 18 rfl
theorem dX11_wantsPlace_33 : decode cX11_wantsPlace 33 = .ok (.iload_n 1, 1) := ckS_g gdX11_wantsPlace_0 19 rfl
theorem dX11_wantsPlace_34 : decode cX11_wantsPlace 34 = .ok (.iaload, 1) := ckS_g gdX11_wantsPlace_0 20 rfl
theorem dX11_wantsPlace_35 : decode cX11_wantsPlace 35 = .ok (.iaload, 1) := ckS_g gdX11_wantsPlace_0 21 rfl
theorem dX11_wantsPlace_36 : decode cX11_wantsPlace 36 = .ok (.iconst 5, 1) := ckS_g gdX11_wantsPlace_0 22 rfl
theorem dX11_wantsPlace_37 : decode cX11_wantsPlace 37 = .ok (.if_icmp .eq 19, 3) := ckS_g gdX11_wantsPlace_0 23 rfl
theorem dX11_wantsPlace_40 : decode cX11_wantsPlace 40 = .ok (.aload_n 0, 1) := ckS_g gdX11_wantsPlace_0 24 rfl
theorem dX11_wantsPlace_41 : decode cX11_wantsPlace 41 = .ok (.getfield 22, 3) := ckS_g gdX11_wantsPlace_0 25 rfl
theorem dX11_wantsPlace_44 : decode cX11_wantsPlace 44 = .ok (.aload_n 0, 1) := ckS_g gdX11_wantsPlace_0 26 rfl
theorem dX11_wantsPlace_45 : decode cX11_wantsPlace 45 = .ok (.getfield 72, 3) := ckS_g gdX11_wantsPlace_0 27 rfl
theorem dX11_wantsPlace_48 : decode cX11_wantsPlace 48 = .ok (.iload_n 1, 1) := ckS_g gdX11_wantsPlace_0 28 rfl
theorem dX11_wantsPlace_49 : decode cX11_wantsPlace 49 = .ok (.iaload, 1) := ckS_g gdX11_wantsPlace_0 29 rfl
theorem dX11_wantsPlace_50 : decode cX11_wantsPlace 50 = .ok (.iaload, 1) := ckS_g gdX11_wantsPlace_0 30 rfl
theorem dX11_wantsPlace_51 : decode cX11_wantsPlace 51 = .ok (.bipush 7, 2) := ckS_g gdX11_wantsPlace_0 31 rfl
theorem dX11_wantsPlace_53 : decode cX11_wantsPlace 53 = .ok (.if_icmp .ne 5, 3) := ckS_g gdX11_wantsPlace_0 32 rfl
theorem dX11_wantsPlace_56 : decode cX11_wantsPlace 56 = .ok (.iconst 1, 1) := ckS_g gdX11_wantsPlace_0 33 rfl
theorem dX11_wantsPlace_57 : decode cX11_wantsPlace 57 = .ok (.ireturn, 1) := ckS_g gdX11_wantsPlace_0 34 rfl
theorem dX11_wantsPlace_58 : decode cX11_wantsPlace 58 = .ok (.iinc 1 1, 3) := ckS_g gdX11_wantsPlace_0 35 rfl
theorem dX11_wantsPlace_61 : decode cX11_wantsPlace 61 = .ok (.goto (-59), 3) := ckS_g gdX11_wantsPlace_0 36 rfl
theorem dX11_wantsPlace_64 : decode cX11_wantsPlace 64 = .ok (.iconst 0, 1) := ckS_g gdX11_wantsPlace_0 37 rfl
theorem dX11_wantsPlace_65 : decode cX11_wantsPlace 65 = .ok (.ireturn, 1) := ckS_g gdX11_wantsPlace_0 38 rfl
set_option maxRecDepth 100000 in
theorem z88 : wZ (.code yX11_wantsPlace cX11_wantsPlace 2 (some .boolean)) := ⟨wT6 (List.mem_of_getElem? (i := 40) rfl), Or.inl rfl⟩
def b_X11_wantsPlace_56 (S : HS) (x1 : Int32) : Int32 × HS := (1, S)
def q_X11_wantsPlace_56 (S : HS) (x1 : Int32) : Prop := True
def st_X11_wantsPlace_2 (S : HS) (x1 : Int32) : (Int32 × HS) ⊕ (HS × Int32) := if (S.1 6) ≤ x1 then Sum.inl ((0, S)) else if (S.2 14 (S.2 31 x1.toNatClampNeg).toNatClampNeg) = 4 then Sum.inl ((b_X11_wantsPlace_56 S x1)) else if (S.2 14 (S.2 31 x1.toNatClampNeg).toNatClampNeg) = 5 then Sum.inl ((b_X11_wantsPlace_56 S x1)) else if (S.2 14 (S.2 31 x1.toNatClampNeg).toNatClampNeg) = 7 then Sum.inl ((b_X11_wantsPlace_56 S x1)) else Sum.inr (S, (x1 + 1))
def ps_X11_wantsPlace_2 (S : HS) (x1 : Int32) : Prop := (if (S.1 6) ≤ x1 then True else (vp_in x1 9) ∧ (vp_in (S.2 31 x1.toNatClampNeg) 90) ∧ (if (S.2 14 (S.2 31 x1.toNatClampNeg).toNatClampNeg) = 4 then (q_X11_wantsPlace_56 S x1) else (vp_in x1 9) ∧ (vp_in (S.2 31 x1.toNatClampNeg) 90) ∧ (if (S.2 14 (S.2 31 x1.toNatClampNeg).toNatClampNeg) = 5 then (q_X11_wantsPlace_56 S x1) else (vp_in x1 9) ∧ (vp_in (S.2 31 x1.toNatClampNeg) 90) ∧ (if (S.2 14 (S.2 31 x1.toNatClampNeg).toNatClampNeg) = 7 then (q_X11_wantsPlace_56 S x1) else True))))
def lp_X11_wantsPlace_2 : Nat → HS → Int32 → Int32 × HS
  | 0, S, _ => (0, S)
  | n + 1, S, x1 => match st_X11_wantsPlace_2 S x1 with
    | Sum.inl r => r
    | Sum.inr q => lp_X11_wantsPlace_2 n q.1 q.2
def lq_X11_wantsPlace_2 : Nat → HS → Int32 → Prop
  | 0, _, _ => False
  | n + 1, S, x1 => ps_X11_wantsPlace_2 S x1 ∧ (match st_X11_wantsPlace_2 S x1 with
    | Sum.inl _ => True
    | Sum.inr q => lq_X11_wantsPlace_2 n q.1 q.2)
def f_X11_wantsPlace (S : HS)  : Int32 × HS := (lp_X11_wantsPlace_2 100000 S 0)
def p_X11_wantsPlace (S : HS)  : Prop := (lq_X11_wantsPlace_2 100000 S 0)
def e_X11_wantsPlace : List Cond := [.fieldLink RX11 115 "MotionFloorModel$Hall" "pending" "I", .fieldLink RX11 22 "MotionFloorModel$Hall" "kind" "[I", .fieldLink RX11 72 "MotionFloorModel$Hall" "row" "[I"]
def v_X11_wantsPlace : List Cond := .code yX11_wantsPlace cX11_wantsPlace 2 (some .boolean) :: (e_X11_wantsPlace ++ (wsX110 ++ []))
theorem te_X11_wantsPlace : GoodIn lw_tbl e_X11_wantsPlace := wGc z56 (wGc z78 (wGc z57 (wG0)))
theorem t_X11_wantsPlace : GoodIn lw_tbl v_X11_wantsPlace := wGc z88 (wGa te_X11_wantsPlace (wGa zcX11 (wG0)))
set_option maxHeartbeats 4000000 in
set_option maxRecDepth 100000 in
theorem c_X11_wantsPlace (l : Launch) (G : va_G) (K : Nat → ClassId) (h : Nat) (g : Nat → Nat) (S0 : HS)  (sz : Nat) : Met l yX11_wantsPlace v_X11_wantsPlace ({ frames := 0, cells := 0, slots := 0, locals := 0 }) (va_Pc [.ref h] (hS G K h g sz S0 (p_X11_wantsPlace S0))) (va_Qi (fun (r : Int32) (u : HS) => (r, u) = f_X11_wantsPlace S0) (hB G K h g (va_A (hW K h g S0) sz)) (va_A (hW K h g S0) sz)) 0 0 (va_A (hW K h g S0) sz) := by
  refine Met.ofW (cc := cX11_wantsPlace) (maxL := 2) (ret := (some .boolean)) (by decide) rfl ?_
  intro p e s m args below meth c s₁ B hml hv
  obtain ⟨rfl, ⟨hsz, hP, hK, hD0, hTE⟩, hp⟩ := hv
  have hx := B.exec
  have hb := B.bytes
  have hr := B.returns
  have hts := atoms_spec (ws := v_X11_wantsPlace) B.pre
  have t_ := t_X11_wantsPlace
  have mw : ∀ w ∈ e_X11_wantsPlace, w ∈ v_X11_wantsPlace := fun w h => List.mem_cons_of_mem _ (List.mem_append_left _ h)
  have hw := fun w (h : w ∈ e_X11_wantsPlace) => hts w (mw w h)
  have iX11 : ∀ w ∈ wsX110, w ∈ v_X11_wantsPlace := fun w h => List.mem_cons_of_mem _ (List.mem_append_right _ (List.mem_append_left _ h))
  have hown : s.vm.findClass RX11 = some m.cls := findClass_of_methodNamed B.named
  have hlocks := B.notSynchronized
  subst hsz
  have hD := hD0.self (sz := s.heap.size)
  generalize hAe : va_A (hW K h g S0) s.heap.size = A at hD ⊢
  have hA : ∀ q : Nat, s.heap.size ≤ q → A q := fun q h => by rw [← hAe]; exact Or.inr h
  have hS : va_S A s.heap s.heap [] := va_S.rf
  have hl := lv_entry ([.ref h]) (n := 2) (Nat.le_of_ble_eq_true rfl)
  rw [lg_entry_eq]
  generalize (lg_sl ([.ref h]) ++ List.replicate (2 - (lg_sl ([.ref h])).length) Slot.unset).toArray = ls at hl ⊢
  have hl : lv_has ls 2 [(0, .ref h)] := hl
  refine wGen (fun Q hQ => ?_)
  obtain ⟨X, hX⟩ : ∃ X, f_X11_wantsPlace S0 = X := ⟨_, rfl⟩
  have B_56 : ∀ (S : HS) (x1 : Int32) (H : Heap) (locs : List Loc) (ls : Array Slot), b_X11_wantsPlace_56 S x1 = X → q_X11_wantsPlace_56 S x1 → va_P G vwCl (hW K h g S) H → va_D A (hW K h g S) → va_S A s.heap H locs → lv_has ls 2 [(0, .ref h), (1, .int x1)] → W p l e ({ frames := 0, cells := 0, slots := 0, locals := 0 } : Room) s m #[Value.ref h] below meth c H locs 0 0 Q (F0 m 56 ls []) := by
    intro S x1 H locs ls hE hp hP hD hS hl
    unfold b_X11_wantsPlace_56 at hE
    unfold q_X11_wantsPlace_56 at hp
    refine lv_iconst (v := 1) hx hb dX11_wantsPlace_56 (by decide) ?_
    subst hQ
    exact W.zret (v := 1) (ty := .boolean) hx hb hr rfl (fun t ht hW => ⟨⟨1, S, rfl, hE.trans hX.symm, by rw [ht]; exact hP, hD⟩, hS.F ht⟩) hS.2.2 dX11_wantsPlace_57
  have L_2 : ∀ (n : Nat) (S : HS) (x1 : Int32) (H : Heap) (locs : List Loc) (ls : Array Slot), lp_X11_wantsPlace_2 n S x1 = X → lq_X11_wantsPlace_2 n S x1 → va_P G vwCl (hW K h g S) H → va_D A (hW K h g S) → va_S A s.heap H locs → lv_has ls 2 [(0, .ref h), (1, .int x1)] → W p l e ({ frames := 0, cells := 0, slots := 0, locals := 0 } : Room) s m #[Value.ref h] below meth c H locs 0 0 Q (F0 m 2 ls []) := by
    intro n1
    induction n1 with
    | zero => intro S x1 H locs ls hE hp; exact False.elim hp
    | succ n1 ih1 =>
      intro S x1 H locs ls hO1 hp hP hD hS hl
      rw [lp_X11_wantsPlace_2] at hO1
      rw [lq_X11_wantsPlace_2] at hp
      obtain ⟨hp, hq1⟩ := hp
      generalize hE : st_X11_wantsPlace_2 S x1 = Y1 at hO1 hq1
      unfold st_X11_wantsPlace_2 at hE
      unfold ps_X11_wantsPlace_2 at hp
      refine lv_iload_n hx hb dX11_wantsPlace_2 rfl (lv_at hl 1 rfl) ?_
      refine lv_aload_n hx hb dX11_wantsPlace_3 rfl (lv_at hl 0 rfl) ?_
      refine va_get (D := G) (ci := 8) (v := .int (S.1 6)) (C := RX11) (T := TX11) (N := 42) hx hb hts iX11 hown hK hP 0 rfl rfl 6 (by decide) (hw (.fieldLink RX11 115 "MotionFloorModel$Hall" "pending" "I") (List.mem_of_getElem? (i := 0) rfl)) (fun _ h9 => h9) rfl dX11_wantsPlace_4 ?_
      refine lv_icmp_ge (tgt := 64) hx hb dX11_wantsPlace_7 (by decide) (fun c1 => ?_) (fun c1 => ?_)
      · rw [if_pos c1] at hE hp
        subst hE
        have hE := hO1
        dsimp only at hE
        refine lv_iconst (v := 0) hx hb dX11_wantsPlace_64 (by decide) ?_
        subst hQ
        exact W.zret (v := 0) (ty := .boolean) hx hb hr rfl (fun t ht hW => ⟨⟨0, S, rfl, hE.trans hX.symm, by rw [ht]; exact hP, hD⟩, hS.F ht⟩) hS.2.2 dX11_wantsPlace_65
      · rw [if_neg c1] at hE hp
        refine lv_aload_n hx hb dX11_wantsPlace_10 rfl (lv_at hl 0 rfl) ?_
        refine va_get (D := G) (ci := 8) (v := .ref (g 14)) (C := RX11) (T := TX11) (N := 42) hx hb hts iX11 hown hK hP 0 rfl rfl 14 (by decide) (hw (.fieldLink RX11 22 "MotionFloorModel$Hall" "kind" "[I") (List.mem_of_getElem? (i := 1) rfl)) (fun _ h9 => h9) rfl dX11_wantsPlace_11 ?_
        refine lv_aload_n hx hb dX11_wantsPlace_14 rfl (lv_at hl 0 rfl) ?_
        refine va_get (D := G) (ci := 8) (v := .ref (g 31)) (C := RX11) (T := TX11) (N := 42) hx hb hts iX11 hown hK hP 0 rfl rfl 31 (by decide) (hw (.fieldLink RX11 72 "MotionFloorModel$Hall" "row" "[I") (List.mem_of_getElem? (i := 2) rfl)) (fun _ h9 => h9) rfl dX11_wantsPlace_15 ?_
        refine lv_iload_n hx hb dX11_wantsPlace_18 rfl (lv_at hl 1 rfl) ?_
        obtain ⟨hy2, hp⟩ := hp
        refine va_iald hx hb hK hP 20 0 rfl rfl hy2 dX11_wantsPlace_19 ?_
        obtain ⟨hy3, hp⟩ := hp
        refine va_iald hx hb hK hP 4 0 rfl rfl hy3 dX11_wantsPlace_20 ?_
        refine lv_iconst (v := 4) hx hb dX11_wantsPlace_21 (by decide) ?_
        refine lv_icmp_eq (tgt := 56) hx hb dX11_wantsPlace_22 (by decide) (fun c4 => ?_) (fun c4 => ?_)
        · rw [if_pos c4] at hE hp
          subst hE
          have hE := hO1
          dsimp only at hE
          exact B_56 S x1 _ _ _ hE hp hP hD hS (lv_sub hl [0, 1] rfl)
        · rw [if_neg c4] at hE hp
          refine lv_aload_n hx hb dX11_wantsPlace_25 rfl (lv_at hl 0 rfl) ?_
          refine va_get (D := G) (ci := 8) (v := .ref (g 14)) (C := RX11) (T := TX11) (N := 42) hx hb hts iX11 hown hK hP 0 rfl rfl 14 (by decide) (hw (.fieldLink RX11 22 "MotionFloorModel$Hall" "kind" "[I") (List.mem_of_getElem? (i := 1) rfl)) (fun _ h9 => h9) rfl dX11_wantsPlace_26 ?_
          refine lv_aload_n hx hb dX11_wantsPlace_29 rfl (lv_at hl 0 rfl) ?_
          refine va_get (D := G) (ci := 8) (v := .ref (g 31)) (C := RX11) (T := TX11) (N := 42) hx hb hts iX11 hown hK hP 0 rfl rfl 31 (by decide) (hw (.fieldLink RX11 72 "MotionFloorModel$Hall" "row" "[I") (List.mem_of_getElem? (i := 2) rfl)) (fun _ h9 => h9) rfl dX11_wantsPlace_30 ?_
          refine lv_iload_n hx hb dX11_wantsPlace_33 rfl (lv_at hl 1 rfl) ?_
          obtain ⟨hy5, hp⟩ := hp
          refine va_iald hx hb hK hP 20 0 rfl rfl hy5 dX11_wantsPlace_34 ?_
          obtain ⟨hy6, hp⟩ := hp
          refine va_iald hx hb hK hP 4 0 rfl rfl hy6 dX11_wantsPlace_35 ?_
          refine lv_iconst (v := 5) hx hb dX11_wantsPlace_36 (by decide) ?_
          refine lv_icmp_eq (tgt := 56) hx hb dX11_wantsPlace_37 (by decide) (fun c7 => ?_) (fun c7 => ?_)
          · rw [if_pos c7] at hE hp
            subst hE
            have hE := hO1
            dsimp only at hE
            exact B_56 S x1 _ _ _ hE hp hP hD hS (lv_sub hl [0, 1] rfl)
          · rw [if_neg c7] at hE hp
            refine lv_aload_n hx hb dX11_wantsPlace_40 rfl (lv_at hl 0 rfl) ?_
            refine va_get (D := G) (ci := 8) (v := .ref (g 14)) (C := RX11) (T := TX11) (N := 42) hx hb hts iX11 hown hK hP 0 rfl rfl 14 (by decide) (hw (.fieldLink RX11 22 "MotionFloorModel$Hall" "kind" "[I") (List.mem_of_getElem? (i := 1) rfl)) (fun _ h9 => h9) rfl dX11_wantsPlace_41 ?_
            refine lv_aload_n hx hb dX11_wantsPlace_44 rfl (lv_at hl 0 rfl) ?_
            refine va_get (D := G) (ci := 8) (v := .ref (g 31)) (C := RX11) (T := TX11) (N := 42) hx hb hts iX11 hown hK hP 0 rfl rfl 31 (by decide) (hw (.fieldLink RX11 72 "MotionFloorModel$Hall" "row" "[I") (List.mem_of_getElem? (i := 2) rfl)) (fun _ h9 => h9) rfl dX11_wantsPlace_45 ?_
            refine lv_iload_n hx hb dX11_wantsPlace_48 rfl (lv_at hl 1 rfl) ?_
            obtain ⟨hy8, hp⟩ := hp
            refine va_iald hx hb hK hP 20 0 rfl rfl hy8 dX11_wantsPlace_49 ?_
            obtain ⟨hy9, hp⟩ := hp
            refine va_iald hx hb hK hP 4 0 rfl rfl hy9 dX11_wantsPlace_50 ?_
            refine lv_bipush (v := 7) hx hb dX11_wantsPlace_51 (by decide) ?_
            refine lv_icmp_ne (tgt := 58) hx hb dX11_wantsPlace_53 (by decide) (fun c10 => ?_) (fun c10 => ?_)
            · rw [if_neg c10] at hE hp
              refine lv_iinc (v := (x1 + 1)) (lv' := [(1, .int (x1 + 1)), (0, .ref h)]) hx hb dX11_wantsPlace_58 hl (k := 1) rfl rfl (by decide) rfl (fun ls hl => ?_)
              refine lv_goto (tgt := 2) hx hb dX11_wantsPlace_61 (by decide) ?_
              subst hE
              dsimp only at hO1 hq1
              exact ih1 S (x1 + 1) _ _ _ hO1 hq1 hP hD hS (lv_sub hl [1, 0] rfl)
            · rw [if_pos c10] at hE hp
              subst hE
              have hE := hO1
              dsimp only at hE
              exact B_56 S x1 _ _ _ hE hp hP hD hS (lv_sub hl [0, 1] rfl)
  have B_M : ∀ (S : HS) (H : Heap) (locs : List Loc) (ls : Array Slot), f_X11_wantsPlace S = X → p_X11_wantsPlace S → va_P G vwCl (hW K h g S) H → va_D A (hW K h g S) → va_S A s.heap H locs → lv_has ls 2 [(0, .ref h)] → W p l e ({ frames := 0, cells := 0, slots := 0, locals := 0 } : Room) s m #[Value.ref h] below meth c H locs 0 0 Q (F0 m 0 ls []) := by
    intro S H locs ls hE hp hP hD hS hl
    unfold f_X11_wantsPlace at hE
    unfold p_X11_wantsPlace at hp
    refine lv_iconst (v := 0) hx hb dX11_wantsPlace_0 (by decide) ?_
    refine lv_istore_n (lv' := [(1, .int 0), (0, .ref h)]) hx hb dX11_wantsPlace_1 rfl hl (by decide) rfl (fun ls hl => ?_)
    exact L_2 100000 S 0 _ _ _ hE hp hP hD hS (lv_sub hl [1, 0] rfl)
  exact B_M S0 _ _ _ hX hp hP hD hS hl
theorem gdX11_isAbout_0 : ckS (List.drop 0 cX11_isAbout.data.toList) 0 [(0, .aload_n 0, 1), (1, .getfield 115, 3), (4, .ifCond .ne 5, 3), (7, .iconst 0, 1), (8, .ireturn, 1), (9, .aload_n 0, 1), (10, .getfield 22, 3), (13, .aload_n 0, 1), (14, .invokevirtual 155, 3), (17, .iaload, 1), (18, .istore_n 2, 1), (19, .iload_n 1, 1), (20, .iconst 2, 1), (21, .if_icmp .ne 26, 3), (24, .iload_n 2, 1), (25, .iconst 1, 1), (26, .if_icmp .eq 13, 3), (29, .iload_n 2, 1), (30, .iconst 4, 1), (31, .if_icmp .eq 8, 3), (34, .iload_n 2, 1), (35, .iconst 5, 1), (36, .if_icmp .ne 7, 3), (39, .iconst 1, 1), (40, .goto 17, 3), (43, .iconst 0, 1), (44, .goto 13, 3), (47, .iload_n 2, 1), (48, .iconst 2, 1), (49, .if_icmp .ne 7, 3), (52, .iconst 1, 1), (53, .goto 4, 3), (56, .iconst 0, 1), (57, .ireturn, 1)] = true := by decide +kernel
theorem dX11_isAbout_0 : decode cX11_isAbout 0 = .ok (.aload_n 0, 1) := ckS_g gdX11_isAbout_0 0 rfl
theorem dX11_isAbout_1 : decode cX11_isAbout 1 = .ok (.getfield 115, 3) := ckS_g gdX11_isAbout_0 1 rfl
theorem dX11_isAbout_4 : decode cX11_isAbout 4 = .ok (.ifCond .ne 5, 3) := ckS_g gdX11_isAbout_0 2 rfl
theorem dX11_isAbout_7 : decode cX11_isAbout 7 = .ok (.iconst 0, 1) := ckS_g gdX11_isAbout_0 3 rfl
theorem dX11_isAbout_8 : decode cX11_isAbout 8 = .ok (.ireturn, 1) := ckS_g gdX11_isAbout_0 4 rfl
theorem dX11_isAbout_9 : decode cX11_isAbout 9 = .ok (.aload_n 0, 1) := ckS_g gdX11_isAbout_0 5 rfl
theorem dX11_isAbout_10 : decode cX11_isAbout 10 = .ok (.getfield 22, 3) := ckS_g gdX11_isAbout_0 6 rfl
theorem dX11_isAbout_13 : decode cX11_isAbout 13 = .ok (.aload_n 0, 1) := ckS_g gdX11_isAbout_0 7 rfl
theorem dX11_isAbout_14 : decode cX11_isAbout 14 = .ok (.invokevirtual 155, 3) := ckS_g gdX11_isAbout_0 8 rfl
theorem dX11_isAbout_17 : decode cX11_isAbout 17 = .ok (.iaload, 1) := ckS_g gdX11_isAbout_0 9 rfl
theorem dX11_isAbout_18 : decode cX11_isAbout 18 = .ok (.istore_n 2, 1) := ckS_g gdX11_isAbout_0 10 rfl
theorem dX11_isAbout_19 : decode cX11_isAbout 19 = .ok (.iload_n 1, 1) := ckS_g gdX11_isAbout_0 11 rfl
theorem dX11_isAbout_20 : decode cX11_isAbout 20 = .ok (.iconst 2, 1) := ckS_g gdX11_isAbout_0 12 rfl
theorem dX11_isAbout_21 : decode cX11_isAbout 21 = .ok (.if_icmp .ne 26, 3) := ckS_g gdX11_isAbout_0 13 rfl
theorem dX11_isAbout_24 : decode cX11_isAbout 24 = .ok (.iload_n 2, 1) := ckS_g gdX11_isAbout_0 14 rfl
theorem dX11_isAbout_25 : decode cX11_isAbout 25 = .ok (.iconst 1, 1) := ckS_g gdX11_isAbout_0 15 rfl
theorem dX11_isAbout_26 : decode cX11_isAbout 26 = .ok (.if_icmp .eq 13, 3) := ckS_g gdX11_isAbout_0 16 rfl
theorem dX11_isAbout_29 : decode cX11_isAbout 29 = .ok (.iload_n 2, 1) := ckS_g gdX11_isAbout_0 17 rfl
theorem dX11_isAbout_30 : decode cX11_isAbout 30 = .ok (.iconst 4, 1) := ckS_g gdX11_isAbout_0 18 rfl
theorem dX11_isAbout_31 : decode cX11_isAbout 31 = .ok (.if_icmp .eq 8, 3) := ckS_g gdX11_isAbout_0 19 rfl
theorem dX11_isAbout_34 : decode cX11_isAbout 34 = .ok (.iload_n 2, 1) := ckS_g gdX11_isAbout_0 20 rfl
theorem dX11_isAbout_35 : decode cX11_isAbout 35 = .ok (.iconst 5, 1) := ckS_g gdX11_isAbout_0 21 rfl
theorem dX11_isAbout_36 : decode cX11_isAbout 36 = .ok (.if_icmp .ne 7, 3) := ckS_g gdX11_isAbout_0 22 rfl
theorem dX11_isAbout_39 : decode cX11_isAbout 39 = .ok (.iconst 1, 1) := ckS_g gdX11_isAbout_0 23 rfl
theorem dX11_isAbout_40 : decode cX11_isAbout 40 = .ok (.goto 17, 3) := ckS_g gdX11_isAbout_0 24 rfl
theorem dX11_isAbout_43 : decode cX11_isAbout 43 = .ok (.iconst 0, 1) := ckS_g gdX11_isAbout_0 25 rfl
theorem dX11_isAbout_44 : decode cX11_isAbout 44 = .ok (.goto 13, 3) := ckS_g gdX11_isAbout_0 26 rfl
theorem dX11_isAbout_47 : decode cX11_isAbout 47 = .ok (.iload_n 2, 1) := ckS_g gdX11_isAbout_0 27 rfl
theorem dX11_isAbout_48 : decode cX11_isAbout 48 = .ok (.iconst 2, 1) := ckS_g gdX11_isAbout_0 28 rfl
theorem dX11_isAbout_49 : decode cX11_isAbout 49 = .ok (.if_icmp .ne 7, 3) := ckS_g gdX11_isAbout_0 29 rfl
theorem dX11_isAbout_52 : decode cX11_isAbout 52 = .ok (.iconst 1, 1) := ckS_g gdX11_isAbout_0 30 rfl
theorem dX11_isAbout_53 : decode cX11_isAbout 53 = .ok (.goto 4, 3) := ckS_g gdX11_isAbout_0 31 rfl
theorem dX11_isAbout_56 : decode cX11_isAbout 56 = .ok (.iconst 0, 1) := ckS_g gdX11_isAbout_0 32 rfl
theorem dX11_isAbout_57 : decode cX11_isAbout 57 = .ok (.ireturn, 1) := ckS_g gdX11_isAbout_0 33 rfl
set_option maxRecDepth 100000 in
theorem z89 : wZ (.selects RX11 yX11_top yX11_top) := ⟨wT6 (List.mem_of_getElem? (i := 8) (by decide +kernel)), Or.inl rfl⟩
set_option maxRecDepth 100000 in
theorem z90 : wZ (.instanceMethod yX11_top) := ⟨wT6 (List.mem_of_getElem? (i := 7) (by decide +kernel)), Or.inl rfl⟩
set_option maxRecDepth 100000 in
theorem z91 : wZ (.methodLink RX11 155 yX11_top) := ⟨wT6 (List.mem_of_getElem? (i := 6) (by decide +kernel)), Or.inl rfl⟩
set_option maxRecDepth 100000 in
theorem z92 : wZ (.code yX11_isAbout cX11_isAbout 3 (some .boolean)) := ⟨wT6 (List.mem_of_getElem? (i := 32) rfl), Or.inl rfl⟩
def b_X11_isAbout_57 (S : HS) (x1 x2 y0 : Int32) : Int32 × HS := (y0, S)
def q_X11_isAbout_57 (S : HS) (x1 x2 y0 : Int32) : Prop := (narrow .boolean (.int y0) = .int y0) ∧ True
def b_X11_isAbout_39 (S : HS) (x1 x2 : Int32) : Int32 × HS := (b_X11_isAbout_57 S x1 x2 1)
def q_X11_isAbout_39 (S : HS) (x1 x2 : Int32) : Prop := (q_X11_isAbout_57 S x1 x2 1)
def b_X11_isAbout_a17 (S : HS) (x1 y0 : Int32) : Int32 × HS := if x1 = 2 then if (S.2 14 y0.toNatClampNeg) = 1 then (b_X11_isAbout_39 S x1 (S.2 14 y0.toNatClampNeg)) else if (S.2 14 y0.toNatClampNeg) = 4 then (b_X11_isAbout_39 S x1 (S.2 14 y0.toNatClampNeg)) else if (S.2 14 y0.toNatClampNeg) = 5 then (b_X11_isAbout_39 S x1 (S.2 14 y0.toNatClampNeg)) else (b_X11_isAbout_57 S x1 (S.2 14 y0.toNatClampNeg) 0) else if (S.2 14 y0.toNatClampNeg) = 2 then (b_X11_isAbout_57 S x1 (S.2 14 y0.toNatClampNeg) 1) else (b_X11_isAbout_57 S x1 (S.2 14 y0.toNatClampNeg) 0)
def q_X11_isAbout_a17 (S : HS) (x1 y0 : Int32) : Prop := (vp_in y0 90) ∧ (if x1 = 2 then (if (S.2 14 y0.toNatClampNeg) = 1 then (q_X11_isAbout_39 S x1 (S.2 14 y0.toNatClampNeg)) else (if (S.2 14 y0.toNatClampNeg) = 4 then (q_X11_isAbout_39 S x1 (S.2 14 y0.toNatClampNeg)) else (if (S.2 14 y0.toNatClampNeg) = 5 then (q_X11_isAbout_39 S x1 (S.2 14 y0.toNatClampNeg)) else (q_X11_isAbout_57 S x1 (S.2 14 y0.toNatClampNeg) 0)))) else (if (S.2 14 y0.toNatClampNeg) = 2 then (q_X11_isAbout_57 S x1 (S.2 14 y0.toNatClampNeg) 1) else (q_X11_isAbout_57 S x1 (S.2 14 y0.toNatClampNeg) 0)))
def f_X11_isAbout (S : HS) (x1 : Int32) : Int32 × HS := if (S.1 6) = 0 then (0, S) else (b_X11_isAbout_a17 (f_X11_top S ).2 x1 (f_X11_top S ).1)
def p_X11_isAbout (S : HS) (x1 : Int32) : Prop := (if (S.1 6) = 0 then True else (p_X11_top S ) ∧ (q_X11_isAbout_a17 (f_X11_top S ).2 x1 (f_X11_top S ).1))
def e_X11_isAbout : List Cond := [.fieldLink RX11 115 "MotionFloorModel$Hall" "pending" "I", .fieldLink RX11 22 "MotionFloorModel$Hall" "kind" "[I", .methodLink RX11 155 yX11_top, .instanceMethod yX11_top, .selects RX11 yX11_top yX11_top, .initialized RX11]
def v_X11_isAbout : List Cond := .code yX11_isAbout cX11_isAbout 3 (some .boolean) :: (e_X11_isAbout ++ (wsX110 ++ (v_X11_top ++ [])))
theorem te_X11_isAbout : GoodIn lw_tbl e_X11_isAbout := wGc z56 (wGc z78 (wGc z91 (wGc z90 (wGc z89 (wGc z51 (wG0))))))
theorem t_X11_isAbout : GoodIn lw_tbl v_X11_isAbout := wGc z92 (wGa te_X11_isAbout (wGa zcX11 (wGa t_X11_top (wG0))))
set_option maxHeartbeats 4000000 in
set_option maxRecDepth 100000 in
theorem c_X11_isAbout (l : Launch) (G : va_G) (K : Nat → ClassId) (h : Nat) (g : Nat → Nat) (S0 : HS) (a1 : Int32) (sz : Nat) : Met l yX11_isAbout v_X11_isAbout ({ frames := 1, cells := 0, slots := 0, locals := 20 }) (va_Pc [.ref h, .int a1] (hS G K h g sz S0 (p_X11_isAbout S0 a1))) (va_Qi (fun (r : Int32) (u : HS) => (r, u) = f_X11_isAbout S0 a1) (hB G K h g (va_A (hW K h g S0) sz)) (va_A (hW K h g S0) sz)) 0 0 (va_A (hW K h g S0) sz) := by
  refine Met.ofW (cc := cX11_isAbout) (maxL := 3) (ret := (some .boolean)) (by decide) rfl ?_
  intro p e s m args below meth c s₁ B hml hv
  obtain ⟨rfl, ⟨hsz, hP, hK, hD0, hTE⟩, hp⟩ := hv
  have hx := B.exec
  have hb := B.bytes
  have hr := B.returns
  have hts := atoms_spec (ws := v_X11_isAbout) B.pre
  have t_ := t_X11_isAbout
  have mw : ∀ w ∈ e_X11_isAbout, w ∈ v_X11_isAbout := fun w h => List.mem_cons_of_mem _ (List.mem_append_left _ h)
  have hw := fun w (h : w ∈ e_X11_isAbout) => hts w (mw w h)
  have iX11 : ∀ w ∈ wsX110, w ∈ v_X11_isAbout := fun w h => List.mem_cons_of_mem _ (List.mem_append_right _ (List.mem_append_left _ h))
  have j_X11_top : ∀ w ∈ v_X11_top, w ∈ v_X11_isAbout := fun w h => List.mem_cons_of_mem _ (List.mem_append_right _ (List.mem_append_right _ (List.mem_append_left _ h)))
  have hown : s.vm.findClass RX11 = some m.cls := findClass_of_methodNamed B.named
  have hlocks := B.notSynchronized
  subst hsz
  have hD := hD0.self (sz := s.heap.size)
  generalize hAe : va_A (hW K h g S0) s.heap.size = A at hD ⊢
  have hA : ∀ q : Nat, s.heap.size ≤ q → A q := fun q h => by rw [← hAe]; exact Or.inr h
  have hS : va_S A s.heap s.heap [] := va_S.rf
  have hl := lv_entry ([.ref h, .int a1]) (n := 3) (Nat.le_of_ble_eq_true rfl)
  rw [lg_entry_eq]
  generalize (lg_sl ([.ref h, .int a1]) ++ List.replicate (3 - (lg_sl ([.ref h, .int a1])).length) Slot.unset).toArray = ls at hl ⊢
  have hl : lv_has ls 3 [(0, .ref h), (1, .int a1)] := hl
  refine wGen (fun Q hQ => ?_)
  obtain ⟨X, hX⟩ : ∃ X, f_X11_isAbout S0 a1 = X := ⟨_, rfl⟩
  have B_57 : ∀ (S : HS) (x1 x2 y0 : Int32) (H : Heap) (locs : List Loc) (ls : Array Slot), b_X11_isAbout_57 S x1 x2 y0 = X → q_X11_isAbout_57 S x1 x2 y0 → va_P G vwCl (hW K h g S) H → va_D A (hW K h g S) → va_S A s.heap H locs → lv_has ls 3 [(0, .ref h), (1, .int x1), (2, .int x2)] → W p l e ({ frames := 1, cells := 0, slots := 0, locals := 20 } : Room) s m #[Value.ref h, Value.int a1] below meth c H locs 0 0 Q (F0 m 57 ls [.int y0]) := by
    intro S x1 x2 y0 H locs ls hE hp hP hD hS hl
    unfold b_X11_isAbout_57 at hE
    unfold q_X11_isAbout_57 at hp
    obtain ⟨hy8, hp⟩ := hp
    subst hQ
    exact W.zret (v := y0) (ty := .boolean) hx hb hr hy8 (fun t ht hW => ⟨⟨y0, S, rfl, hE.trans hX.symm, by rw [ht]; exact hP, hD⟩, hS.F ht⟩) hS.2.2 dX11_isAbout_57
  have B_39 : ∀ (S : HS) (x1 x2 : Int32) (H : Heap) (locs : List Loc) (ls : Array Slot), b_X11_isAbout_39 S x1 x2 = X → q_X11_isAbout_39 S x1 x2 → va_P G vwCl (hW K h g S) H → va_D A (hW K h g S) → va_S A s.heap H locs → lv_has ls 3 [(0, .ref h), (1, .int x1), (2, .int x2)] → W p l e ({ frames := 1, cells := 0, slots := 0, locals := 20 } : Room) s m #[Value.ref h, Value.int a1] below meth c H locs 0 0 Q (F0 m 39 ls []) := by
    intro S x1 x2 H locs ls hE hp hP hD hS hl
    unfold b_X11_isAbout_39 at hE
    unfold q_X11_isAbout_39 at hp
    refine lv_iconst (v := 1) hx hb dX11_isAbout_39 (by decide) ?_
    refine lv_goto (tgt := 57) hx hb dX11_isAbout_40 (by decide) ?_
    exact B_57 S x1 x2 1 _ _ _ hE hp hP hD hS (lv_sub hl [0, 1, 2] rfl)
  have B_M : ∀ (S : HS) (x1 : Int32) (H : Heap) (locs : List Loc) (ls : Array Slot), f_X11_isAbout S x1 = X → p_X11_isAbout S x1 → va_P G vwCl (hW K h g S) H → va_D A (hW K h g S) → va_S A s.heap H locs → lv_has ls 3 [(0, .ref h), (1, .int x1)] → W p l e ({ frames := 1, cells := 0, slots := 0, locals := 20 } : Room) s m #[Value.ref h, Value.int a1] below meth c H locs 0 0 Q (F0 m 0 ls []) := by
    intro S x1 H locs ls hE hp hP hD hS hl
    unfold f_X11_isAbout at hE
    unfold p_X11_isAbout at hp
    refine lv_aload_n hx hb dX11_isAbout_0 rfl (lv_at hl 0 rfl) ?_
    refine va_get (D := G) (ci := 8) (v := .int (S.1 6)) (C := RX11) (T := TX11) (N := 42) hx hb hts iX11 hown hK hP 0 rfl rfl 6 (by decide) (hw (.fieldLink RX11 115 "MotionFloorModel$Hall" "pending" "I") (List.mem_of_getElem? (i := 0) rfl)) (fun _ h9 => h9) rfl dX11_isAbout_1 ?_
    refine lv_if_ne (tgt := 9) hx hb dX11_isAbout_4 (by decide) (fun c1 => ?_) (fun c1 => ?_)
    · rw [if_neg c1] at hE hp
      refine lv_aload_n hx hb dX11_isAbout_9 rfl (lv_at hl 0 rfl) ?_
      refine va_get (D := G) (ci := 8) (v := .ref (g 14)) (C := RX11) (T := TX11) (N := 42) hx hb hts iX11 hown hK hP 0 rfl rfl 14 (by decide) (hw (.fieldLink RX11 22 "MotionFloorModel$Hall" "kind" "[I") (List.mem_of_getElem? (i := 1) rfl)) (fun _ h9 => h9) rfl dX11_isAbout_10 ?_
      refine lv_aload_n hx hb dX11_isAbout_13 rfl (lv_at hl 0 rfl) ?_
      obtain ⟨hy2, hp⟩ := hp
      refine hGoi (va_runV (As := []) (rest := [.ref (g 14)]) ⟨hx, hb, hml, hown, hts⟩ (c_X11_top l G K h g S _) (cwV 0 hts (wGV t_ (mw (.methodLink RX11 155 yX11_top) (List.mem_of_getElem? (i := 2) rfl)) (mw (.instanceMethod yX11_top) (List.mem_of_getElem? (i := 3) rfl)) (mw (.selects RX11 yX11_top yX11_top) (List.mem_of_getElem? (i := 4) rfl)) (mw (.initialized RX11) (List.mem_of_getElem? (i := 5) rfl)) j_X11_top) rfl rfl rfl (by decide +kernel) ⟨Nat.le_of_ble_eq_true rfl, Nat.le_of_ble_eq_true rfl⟩) (hPV hK hTE hP hD hy2) rfl rfl hl.1 rfl (lv_room (Nat.le_of_ble_eq_true rfl)) dX11_isAbout_14 ⟨Nat.le_of_ble_eq_true rfl, Nat.le_of_ble_eq_true rfl⟩) hP hD hS hA (fun r4 u3 H locs hv hP hD hS => ?_)
      rw [← hv] at hE hp
      dsimp only at hE hp
      unfold b_X11_isAbout_a17 at hE
      unfold q_X11_isAbout_a17 at hp
      obtain ⟨hy5, hp⟩ := hp
      refine va_iald hx hb hK hP 4 0 rfl rfl hy5 dX11_isAbout_17 ?_
      refine lv_istore_n (lv' := [(2, .int (u3.2 14 r4.toNatClampNeg)), (0, .ref h), (1, .int x1)]) hx hb dX11_isAbout_18 rfl hl (by decide) rfl (fun ls hl => ?_)
      refine lv_iload_n hx hb dX11_isAbout_19 rfl (lv_at hl 2 rfl) ?_
      refine lv_iconst (v := 2) hx hb dX11_isAbout_20 (by decide) ?_
      refine lv_icmp_ne (tgt := 47) hx hb dX11_isAbout_21 (by decide) (fun c6 => ?_) (fun c6 => ?_)
      · rw [if_neg c6] at hE hp
        refine lv_iload_n hx hb dX11_isAbout_47 rfl (lv_at hl 0 rfl) ?_
        refine lv_iconst (v := 2) hx hb dX11_isAbout_48 (by decide) ?_
        refine lv_icmp_ne (tgt := 56) hx hb dX11_isAbout_49 (by decide) (fun c7 => ?_) (fun c7 => ?_)
        · rw [if_neg c7] at hE hp
          refine lv_iconst (v := 0) hx hb dX11_isAbout_56 (by decide) ?_
          exact B_57 u3 x1 (u3.2 14 r4.toNatClampNeg) 0 _ _ _ hE hp hP hD hS (lv_sub hl [1, 2, 0] rfl)
        · rw [if_pos c7] at hE hp
          refine lv_iconst (v := 1) hx hb dX11_isAbout_52 (by decide) ?_
          refine lv_goto (tgt := 57) hx hb dX11_isAbout_53 (by decide) ?_
          exact B_57 u3 x1 (u3.2 14 r4.toNatClampNeg) 1 _ _ _ hE hp hP hD hS (lv_sub hl [1, 2, 0] rfl)
      · rw [if_pos c6] at hE hp
        refine lv_iload_n hx hb dX11_isAbout_24 rfl (lv_at hl 0 rfl) ?_
        refine lv_iconst (v := 1) hx hb dX11_isAbout_25 (by decide) ?_
        refine lv_icmp_eq (tgt := 39) hx hb dX11_isAbout_26 (by decide) (fun c9 => ?_) (fun c9 => ?_)
        · rw [if_pos c9] at hE hp
          exact B_39 u3 x1 (u3.2 14 r4.toNatClampNeg) _ _ _ hE hp hP hD hS (lv_sub hl [1, 2, 0] rfl)
        · rw [if_neg c9] at hE hp
          refine lv_iload_n hx hb dX11_isAbout_29 rfl (lv_at hl 0 rfl) ?_
          refine lv_iconst (v := 4) hx hb dX11_isAbout_30 (by decide) ?_
          refine lv_icmp_eq (tgt := 39) hx hb dX11_isAbout_31 (by decide) (fun c10 => ?_) (fun c10 => ?_)
          · rw [if_pos c10] at hE hp
            exact B_39 u3 x1 (u3.2 14 r4.toNatClampNeg) _ _ _ hE hp hP hD hS (lv_sub hl [1, 2, 0] rfl)
          · rw [if_neg c10] at hE hp
            refine lv_iload_n hx hb dX11_isAbout_34 rfl (lv_at hl 0 rfl) ?_
            refine lv_iconst (v := 5) hx hb dX11_isAbout_35 (by decide) ?_
            refine lv_icmp_ne (tgt := 43) hx hb dX11_isAbout_36 (by decide) (fun c11 => ?_) (fun c11 => ?_)
            · rw [if_neg c11] at hE hp
              refine lv_iconst (v := 0) hx hb dX11_isAbout_43 (by decide) ?_
              refine lv_goto (tgt := 57) hx hb dX11_isAbout_44 (by decide) ?_
              exact B_57 u3 x1 (u3.2 14 r4.toNatClampNeg) 0 _ _ _ hE hp hP hD hS (lv_sub hl [1, 2, 0] rfl)
            · rw [if_pos c11] at hE hp
              exact B_39 u3 x1 (u3.2 14 r4.toNatClampNeg) _ _ _ hE hp hP hD hS (lv_sub hl [1, 2, 0] rfl)
    · rw [if_pos c1] at hE hp
      refine lv_iconst (v := 0) hx hb dX11_isAbout_7 (by decide) ?_
      subst hQ
      exact W.zret (v := 0) (ty := .boolean) hx hb hr rfl (fun t ht hW => ⟨⟨0, S, rfl, hE.trans hX.symm, by rw [ht]; exact hP, hD⟩, hS.F ht⟩) hS.2.2 dX11_isAbout_8
  exact B_M S0 a1 _ _ _ hX hp hP hD hS hl
theorem gdX11_hasSeconder_0 : ckS (List.drop 0 cX11_hasSeconder.data.toList) 0 [(0, .aload_n 0, 1), (1, .getfield 28, 3), (4, .aload_n 0, 1), (5, .invokevirtual 155, 3), (8, .iaload, 1), (9, .iconst (-1), 1), (10, .if_icmp .eq 7, 3), (13, .iconst 1, 1), (14, .goto 4, 3), (17, .iconst 0, 1), (18, .ireturn, 1)] = true := by decide +kernel
theorem dX11_hasSeconder_0 : decode cX11_hasSeconder 0 = .ok (.aload_n 0, 1) := ckS_g gdX11_hasSeconder_0 0 rfl
theorem dX11_hasSeconder_1 : decode cX11_hasSeconder 1 = .ok (.getfield 28, 3) := ckS_g gdX11_hasSeconder_0 1 rfl
theorem dX11_hasSeconder_4 : decode cX11_hasSeconder 4 = .ok (.aload_n 0, 1) := ckS_g gdX11_hasSeconder_0 2 rfl
theorem dX11_hasSeconder_5 : decode cX11_hasSeconder 5 = .ok (.invokevirtual 155, 3) := ckS_g gdX11_hasSeconder_0 3 rfl
theorem dX11_hasSeconder_8 : decode cX11_hasSeconder 8 = .ok (.iaload, 1) := ckS_g gdX11_hasSeconder_0 4 rfl
theorem dX11_hasSeconder_9 : decode cX11_hasSeconder 9 = .ok (.iconst (-1), 1) := ckS_g gdX11_hasSeconder_0 5 rfl
theorem dX11_hasSeconder_10 : decode cX11_hasSeconder 10 = .ok (.if_icmp .eq 7, 3) := ckS_g gdX11_hasSeconder_0 6 rfl
theorem dX11_hasSeconder_13 : decode cX11_hasSeconder 13 = .ok (.iconst 1, 1) := ckS_g gdX11_hasSeconder_0 7 rfl
theorem dX11_hasSeconder_14 : decode cX11_hasSeconder 14 = .ok (.goto 4, 3) := ckS_g gdX11_hasSeconder_0 8 rfl
theorem dX11_hasSeconder_17 : decode cX11_hasSeconder 17 = .ok (.iconst 0, 1) := ckS_g gdX11_hasSeconder_0 9 rfl
theorem dX11_hasSeconder_18 : decode cX11_hasSeconder 18 = .ok (.ireturn, 1) := ckS_g gdX11_hasSeconder_0 10 rfl
set_option maxRecDepth 100000 in
theorem z93 : wZ (.code yX11_hasSeconder cX11_hasSeconder 1 (some .boolean)) := ⟨wT6 (List.mem_of_getElem? (i := 13) rfl), Or.inl rfl⟩
def b_X11_hasSeconder_18 (S : HS) (y0 : Int32) : Int32 × HS := (y0, S)
def q_X11_hasSeconder_18 (S : HS) (y0 : Int32) : Prop := (narrow .boolean (.int y0) = .int y0) ∧ True
def b_X11_hasSeconder_a8 (S : HS) (y0 : Int32) : Int32 × HS := if (S.2 16 y0.toNatClampNeg) = (-1) then (b_X11_hasSeconder_18 S 0) else (b_X11_hasSeconder_18 S 1)
def q_X11_hasSeconder_a8 (S : HS) (y0 : Int32) : Prop := (vp_in y0 90) ∧ (if (S.2 16 y0.toNatClampNeg) = (-1) then (q_X11_hasSeconder_18 S 0) else (q_X11_hasSeconder_18 S 1))
def f_X11_hasSeconder (S : HS)  : Int32 × HS := (b_X11_hasSeconder_a8 (f_X11_top S ).2 (f_X11_top S ).1)
def p_X11_hasSeconder (S : HS)  : Prop := (p_X11_top S ) ∧ (q_X11_hasSeconder_a8 (f_X11_top S ).2 (f_X11_top S ).1)
def e_X11_hasSeconder : List Cond := [.fieldLink RX11 28 "MotionFloorModel$Hall" "seconder" "[I", .methodLink RX11 155 yX11_top, .instanceMethod yX11_top, .selects RX11 yX11_top yX11_top, .initialized RX11]
def v_X11_hasSeconder : List Cond := .code yX11_hasSeconder cX11_hasSeconder 1 (some .boolean) :: (e_X11_hasSeconder ++ (wsX110 ++ (v_X11_top ++ [])))
theorem te_X11_hasSeconder : GoodIn lw_tbl e_X11_hasSeconder := wGc z66 (wGc z91 (wGc z90 (wGc z89 (wGc z51 (wG0)))))
theorem t_X11_hasSeconder : GoodIn lw_tbl v_X11_hasSeconder := wGc z93 (wGa te_X11_hasSeconder (wGa zcX11 (wGa t_X11_top (wG0))))
set_option maxHeartbeats 4000000 in
set_option maxRecDepth 100000 in
theorem c_X11_hasSeconder (l : Launch) (G : va_G) (K : Nat → ClassId) (h : Nat) (g : Nat → Nat) (S0 : HS)  (sz : Nat) : Met l yX11_hasSeconder v_X11_hasSeconder ({ frames := 1, cells := 0, slots := 0, locals := 20 }) (va_Pc [.ref h] (hS G K h g sz S0 (p_X11_hasSeconder S0))) (va_Qi (fun (r : Int32) (u : HS) => (r, u) = f_X11_hasSeconder S0) (hB G K h g (va_A (hW K h g S0) sz)) (va_A (hW K h g S0) sz)) 0 0 (va_A (hW K h g S0) sz) := by
  refine Met.ofW (cc := cX11_hasSeconder) (maxL := 1) (ret := (some .boolean)) (by decide) rfl ?_
  intro p e s m args below meth c s₁ B hml hv
  obtain ⟨rfl, ⟨hsz, hP, hK, hD0, hTE⟩, hp⟩ := hv
  have hx := B.exec
  have hb := B.bytes
  have hr := B.returns
  have hts := atoms_spec (ws := v_X11_hasSeconder) B.pre
  have t_ := t_X11_hasSeconder
  have mw : ∀ w ∈ e_X11_hasSeconder, w ∈ v_X11_hasSeconder := fun w h => List.mem_cons_of_mem _ (List.mem_append_left _ h)
  have hw := fun w (h : w ∈ e_X11_hasSeconder) => hts w (mw w h)
  have iX11 : ∀ w ∈ wsX110, w ∈ v_X11_hasSeconder := fun w h => List.mem_cons_of_mem _ (List.mem_append_right _ (List.mem_append_left _ h))
  have j_X11_top : ∀ w ∈ v_X11_top, w ∈ v_X11_hasSeconder := fun w h => List.mem_cons_of_mem _ (List.mem_append_right _ (List.mem_append_right _ (List.mem_append_left _ h)))
  have hown : s.vm.findClass RX11 = some m.cls := findClass_of_methodNamed B.named
  have hlocks := B.notSynchronized
  subst hsz
  have hD := hD0.self (sz := s.heap.size)
  generalize hAe : va_A (hW K h g S0) s.heap.size = A at hD ⊢
  have hA : ∀ q : Nat, s.heap.size ≤ q → A q := fun q h => by rw [← hAe]; exact Or.inr h
  have hS : va_S A s.heap s.heap [] := va_S.rf
  have hl := lv_entry ([.ref h]) (n := 1) (Nat.le_of_ble_eq_true rfl)
  rw [lg_entry_eq]
  generalize (lg_sl ([.ref h]) ++ List.replicate (1 - (lg_sl ([.ref h])).length) Slot.unset).toArray = ls at hl ⊢
  have hl : lv_has ls 1 [(0, .ref h)] := hl
  refine wGen (fun Q hQ => ?_)
  obtain ⟨X, hX⟩ : ∃ X, f_X11_hasSeconder S0 = X := ⟨_, rfl⟩
  have B_18 : ∀ (S : HS) (y0 : Int32) (H : Heap) (locs : List Loc) (ls : Array Slot), b_X11_hasSeconder_18 S y0 = X → q_X11_hasSeconder_18 S y0 → va_P G vwCl (hW K h g S) H → va_D A (hW K h g S) → va_S A s.heap H locs → lv_has ls 1 [(0, .ref h)] → W p l e ({ frames := 1, cells := 0, slots := 0, locals := 20 } : Room) s m #[Value.ref h] below meth c H locs 0 0 Q (F0 m 18 ls [.int y0]) := by
    intro S y0 H locs ls hE hp hP hD hS hl
    unfold b_X11_hasSeconder_18 at hE
    unfold q_X11_hasSeconder_18 at hp
    obtain ⟨hy6, hp⟩ := hp
    subst hQ
    exact W.zret (v := y0) (ty := .boolean) hx hb hr hy6 (fun t ht hW => ⟨⟨y0, S, rfl, hE.trans hX.symm, by rw [ht]; exact hP, hD⟩, hS.F ht⟩) hS.2.2 dX11_hasSeconder_18
  have B_M : ∀ (S : HS) (H : Heap) (locs : List Loc) (ls : Array Slot), f_X11_hasSeconder S = X → p_X11_hasSeconder S → va_P G vwCl (hW K h g S) H → va_D A (hW K h g S) → va_S A s.heap H locs → lv_has ls 1 [(0, .ref h)] → W p l e ({ frames := 1, cells := 0, slots := 0, locals := 20 } : Room) s m #[Value.ref h] below meth c H locs 0 0 Q (F0 m 0 ls []) := by
    intro S H locs ls hE hp hP hD hS hl
    unfold f_X11_hasSeconder at hE
    unfold p_X11_hasSeconder at hp
    refine lv_aload_n hx hb dX11_hasSeconder_0 rfl (lv_at hl 0 rfl) ?_
    refine va_get (D := G) (ci := 8) (v := .ref (g 16)) (C := RX11) (T := TX11) (N := 42) hx hb hts iX11 hown hK hP 0 rfl rfl 16 (by decide) (hw (.fieldLink RX11 28 "MotionFloorModel$Hall" "seconder" "[I") (List.mem_of_getElem? (i := 0) rfl)) (fun _ h9 => h9) rfl dX11_hasSeconder_1 ?_
    refine lv_aload_n hx hb dX11_hasSeconder_4 rfl (lv_at hl 0 rfl) ?_
    obtain ⟨hy1, hp⟩ := hp
    refine hGoi (va_runV (As := []) (rest := [.ref (g 16)]) ⟨hx, hb, hml, hown, hts⟩ (c_X11_top l G K h g S _) (cwV 0 hts (wGV t_ (mw (.methodLink RX11 155 yX11_top) (List.mem_of_getElem? (i := 1) rfl)) (mw (.instanceMethod yX11_top) (List.mem_of_getElem? (i := 2) rfl)) (mw (.selects RX11 yX11_top yX11_top) (List.mem_of_getElem? (i := 3) rfl)) (mw (.initialized RX11) (List.mem_of_getElem? (i := 4) rfl)) j_X11_top) rfl rfl rfl (by decide +kernel) ⟨Nat.le_of_ble_eq_true rfl, Nat.le_of_ble_eq_true rfl⟩) (hPV hK hTE hP hD hy1) rfl rfl hl.1 rfl (lv_room (Nat.le_of_ble_eq_true rfl)) dX11_hasSeconder_5 ⟨Nat.le_of_ble_eq_true rfl, Nat.le_of_ble_eq_true rfl⟩) hP hD hS hA (fun r3 u2 H locs hv hP hD hS => ?_)
    rw [← hv] at hE hp
    dsimp only at hE hp
    unfold b_X11_hasSeconder_a8 at hE
    unfold q_X11_hasSeconder_a8 at hp
    obtain ⟨hy4, hp⟩ := hp
    refine va_iald hx hb hK hP 6 0 rfl rfl hy4 dX11_hasSeconder_8 ?_
    refine lv_iconst (v := (-1)) hx hb dX11_hasSeconder_9 (by decide) ?_
    refine lv_icmp_eq (tgt := 17) hx hb dX11_hasSeconder_10 (by decide) (fun c5 => ?_) (fun c5 => ?_)
    · rw [if_pos c5] at hE hp
      refine lv_iconst (v := 0) hx hb dX11_hasSeconder_17 (by decide) ?_
      exact B_18 u2 0 _ _ _ hE hp hP hD hS (lv_sub hl [0] rfl)
    · rw [if_neg c5] at hE hp
      refine lv_iconst (v := 1) hx hb dX11_hasSeconder_13 (by decide) ?_
      refine lv_goto (tgt := 18) hx hb dX11_hasSeconder_14 (by decide) ?_
      exact B_18 u2 1 _ _ _ hE hp hP hD hS (lv_sub hl [0] rfl)
  exact B_M S0 _ _ _ hX hp hP hD hS hl
theorem gdX11_reasonOfWord_0 : ckS (List.drop 0 cX11_reasonOfWord.data.toList) 0 [(0, .aload_n 0, 1), (1, .iconst 1, 1), (2, .iconst 5, 1), (3, .invokevirtual 163, 3), (6, .ifCond .eq 17, 3), (9, .aload_n 0, 1), (10, .getfield 55, 3), (13, .aload_n 0, 1), (14, .getfield 75, 3), (17, .iconst 0, 1), (18, .iaload, 1), (19, .baload, 1), (20, .ifCond .eq 6, 3), (23, .bipush 11, 2), (25, .ireturn, 1), (26, .iload_n 1, 1), (27, .invokestatic 181, 3), (30, .ifCond .eq 38, 3), (33, .iload_n 2, 1), (34, .ifCond .eq 10, 3), (37, .iload_n 2, 1), (38, .invokestatic 181, 3), (41, .ifCond .eq 27, 3), (44, .iload_n 3, 1), (45, .ifCond .eq 10, 3), (48, .iload_n 3, 1), (49, .invokestatic 181, 3), (52, .ifCond .eq 16, 3), (55, .iload 4, 2), (57, .ifCond .eq 14, 3), (60, .iload 4, 2), (62, .invokestatic 181, 3), (65, .ifCond .ne 6, 3), (68, .bipush 9, 2), (70, .ireturn, 1), (71, .iconst 1, 1), (72, .iload_n 2, 1), (73, .ifCond .eq 7, 3), (76, .iconst 1, 1), (77, .goto 4, 3)] = true := by decide +kernel
theorem dX11_reasonOfWord_0 : decode cX11_reasonOfWord 0 = .ok (.aload_n 0, 1) := ckS_g gdX11_reasonOfWord_0 0 rfl
theorem dX11_reasonOfWord_1 : decode cX11_reasonOfWord 1 = .ok (.iconst 1, 1) := ckS_g gdX11_reasonOfWord_0 1 rfl
theorem dX11_reasonOfWord_2 : decode cX11_reasonOfWord 2 = .ok (.iconst 5, 1) := ckS_g gdX11_reasonOfWord_0 2 rfl
theorem dX11_reasonOfWord_3 : decode cX11_reasonOfWord 3 = .ok (.invokevirtual 163, 3) := ckS_g gdX11_reasonOfWord_0 3 rfl
theorem dX11_reasonOfWord_6 : decode cX11_reasonOfWord 6 = .ok (.ifCond .eq 17, 3) := ckS_g gdX11_reasonOfWord_0 4 rfl
theorem dX11_reasonOfWord_9 : decode cX11_reasonOfWord 9 = .ok (.aload_n 0, 1) := ckS_g gdX11_reasonOfWord_0 5 rfl
theorem dX11_reasonOfWord_10 : decode cX11_reasonOfWord 10 = .ok (.getfield 55, 3) := ckS_g gdX11_reasonOfWord_0 6 rfl
theorem dX11_reasonOfWord_13 : decode cX11_reasonOfWord 13 = .ok (.aload_n 0, 1) := ckS_g gdX11_reasonOfWord_0 7 rfl
theorem dX11_reasonOfWord_14 : decode cX11_reasonOfWord 14 = .ok (.getfield 75, 3) := ckS_g gdX11_reasonOfWord_0 8 rfl
theorem dX11_reasonOfWord_17 : decode cX11_reasonOfWord 17 = .ok (.iconst 0, 1) := ckS_g gdX11_reasonOfWord_0 9 rfl
theorem dX11_reasonOfWord_18 : decode cX11_reasonOfWord 18 = .ok (.iaload, 1) := ckS_g gdX11_reasonOfWord_0 10 rfl
theorem dX11_reasonOfWord_19 : decode cX11_reasonOfWord 19 = .ok (.baload, 1) := ckS_g gdX11_reasonOfWord_0 11 rfl
theorem dX11_reasonOfWord_20 : decode cX11_reasonOfWord 20 = .ok (.ifCond .eq 6, 3) := ckS_g gdX11_reasonOfWord_0 12 rfl
theorem dX11_reasonOfWord_23 : decode cX11_reasonOfWord 23 = .ok (.bipush 11, 2) := ckS_g gdX11_reasonOfWord_0 13 rfl
theorem dX11_reasonOfWord_25 : decode cX11_reasonOfWord 25 = .ok (.ireturn, 1) := ckS_g gdX11_reasonOfWord_0 14 rfl
theorem dX11_reasonOfWord_26 : decode cX11_reasonOfWord 26 = .ok (.iload_n 1, 1) := ckS_g gdX11_reasonOfWord_0 15 rfl
theorem dX11_reasonOfWord_27 : decode cX11_reasonOfWord 27 = .ok (.invokestatic 181, 3) := ckS_g gdX11_reasonOfWord_0 16 rfl
theorem dX11_reasonOfWord_30 : decode cX11_reasonOfWord 30 = .ok (.ifCond .eq 38, 3) := ckS_g gdX11_reasonOfWord_0 17 rfl
theorem dX11_reasonOfWord_33 : decode cX11_reasonOfWord 33 = .ok (.iload_n 2, 1) := ckS_g gdX11_reasonOfWord_0 18 rfl
theorem dX11_reasonOfWord_34 : decode cX11_reasonOfWord 34 = .ok (.ifCond .eq 10, 3) := ckS_g gdX11_reasonOfWord_0 19 rfl
theorem dX11_reasonOfWord_37 : decode cX11_reasonOfWord 37 = .ok (.iload_n 2, 1) := ckS_g gdX11_reasonOfWord_0 20 rfl
theorem dX11_reasonOfWord_38 : decode cX11_reasonOfWord 38 = .ok (.invokestatic 181, 3) := ckS_g gdX11_reasonOfWord_0 21 rfl
theorem dX11_reasonOfWord_41 : decode cX11_reasonOfWord 41 = .ok (.ifCond .eq 27, 3) := ckS_g gdX11_reasonOfWord_0 22 rfl
theorem dX11_reasonOfWord_44 : decode cX11_reasonOfWord 44 = .ok (.iload_n 3, 1) := ckS_g gdX11_reasonOfWord_0 23 rfl
theorem dX11_reasonOfWord_45 : decode cX11_reasonOfWord 45 = .ok (.ifCond .eq 10, 3) := ckS_g gdX11_reasonOfWord_0 24 rfl
theorem dX11_reasonOfWord_48 : decode cX11_reasonOfWord 48 = .ok (.iload_n 3, 1) := ckS_g gdX11_reasonOfWord_0 25 rfl
theorem dX11_reasonOfWord_49 : decode cX11_reasonOfWord 49 = .ok (.invokestatic 181, 3) := ckS_g gdX11_reasonOfWord_0 26 rfl
theorem dX11_reasonOfWord_52 : decode cX11_reasonOfWord 52 = .ok (.ifCond .eq 16, 3) := ckS_g gdX11_reasonOfWord_0 27 rfl
theorem dX11_reasonOfWord_55 : decode cX11_reasonOfWord 55 = .ok (.iload 4, 2) := ckS_g gdX11_reasonOfWord_0 28 rfl
theorem dX11_reasonOfWord_57 : decode cX11_reasonOfWord 57 = .ok (.ifCond .eq 14, 3) := ckS_g gdX11_reasonOfWord_0 29 rfl
theorem dX11_reasonOfWord_60 : decode cX11_reasonOfWord 60 = .ok (.iload 4, 2) := ckS_g gdX11_reasonOfWord_0 30 rfl
theorem dX11_reasonOfWord_62 : decode cX11_reasonOfWord 62 = .ok (.invokestatic 181, 3) := ckS_g gdX11_reasonOfWord_0 31 rfl
theorem dX11_reasonOfWord_65 : decode cX11_reasonOfWord 65 = .ok (.ifCond .ne 6, 3) := ckS_g gdX11_reasonOfWord_0 32 rfl
theorem dX11_reasonOfWord_68 : decode cX11_reasonOfWord 68 = .ok (.bipush 9, 2) := ckS_g gdX11_reasonOfWord_0 33 rfl
theorem dX11_reasonOfWord_70 : decode cX11_reasonOfWord 70 = .ok (.ireturn, 1) := ckS_g gdX11_reasonOfWord_0 34 rfl
theorem dX11_reasonOfWord_71 : decode cX11_reasonOfWord 71 = .ok (.iconst 1, 1) := ckS_g gdX11_reasonOfWord_0 35 rfl
theorem dX11_reasonOfWord_72 : decode cX11_reasonOfWord 72 = .ok (.iload_n 2, 1) := ckS_g gdX11_reasonOfWord_0 36 rfl
theorem dX11_reasonOfWord_73 : decode cX11_reasonOfWord 73 = .ok (.ifCond .eq 7, 3) := ckS_g gdX11_reasonOfWord_0 37 rfl
theorem dX11_reasonOfWord_76 : decode cX11_reasonOfWord 76 = .ok (.iconst 1, 1) := ckS_g gdX11_reasonOfWord_0 38 rfl
theorem dX11_reasonOfWord_77 : decode cX11_reasonOfWord 77 = .ok (.goto 4, 3) := ckS_g gdX11_reasonOfWord_0 39 rfl
theorem gdX11_reasonOfWord_80 : ckS (List.drop 80 cX11_reasonOfWord.data.toList) 80 [(80, .iconst 0, 1), (81, .iadd, 1), (82, .iload_n 3, 1), (83, .ifCond .eq 7, 3), (86, .iconst 1, 1), (87, .goto 4, 3), (90, .iconst 0, 1), (91, .iadd, 1), (92, .iload 4, 2), (94, .ifCond .eq 7, 3), (97, .iconst 1, 1), (98, .goto 4, 3), (101, .iconst 0, 1), (102, .iadd, 1), (103, .istore 5, 2), (105, .aload_n 0, 1), (106, .getfield 37, 3), (109, .aload_n 0, 1), (110, .getfield 75, 3), (113, .iconst 0, 1), (114, .iaload, 1), (115, .iaload, 1), (116, .iload 5, 2), (118, .iadd, 1), (119, .sipush 400, 3), (122, .if_icmp .le 8, 3), (125, .bipush 10, 2), (127, .goto 4, 3), (130, .iconst 0, 1), (131, .ireturn, 1)] = true := by decide +kernel
theorem dX11_reasonOfWord_80 : decode cX11_reasonOfWord 80 = .ok (.iconst 0, 1) := ckS_g gdX11_reasonOfWord_80 0 rfl
theorem dX11_reasonOfWord_81 : decode cX11_reasonOfWord 81 = .ok (.iadd, 1) := ckS_g gdX11_reasonOfWord_80 1 rfl
theorem dX11_reasonOfWord_82 : decode cX11_reasonOfWord 82 = .ok (.iload_n 3, 1) := ckS_g gdX11_reasonOfWord_80 2 rfl
theorem dX11_reasonOfWord_83 : decode cX11_reasonOfWord 83 = .ok (.ifCond .eq 7, 3) := ckS_g gdX11_reasonOfWord_80 3 rfl
theorem dX11_reasonOfWord_86 : decode cX11_reasonOfWord 86 = .ok (.iconst 1, 1) := ckS_g gdX11_reasonOfWord_80 4 rfl
theorem dX11_reasonOfWord_87 : decode cX11_reasonOfWord 87 = .ok (.goto 4, 3) := ckS_g gdX11_reasonOfWord_80 5 rfl
theorem dX11_reasonOfWord_90 : decode cX11_reasonOfWord 90 = .ok (.iconst 0, 1) := ckS_g gdX11_reasonOfWord_80 6 rfl
theorem dX11_reasonOfWord_91 : decode cX11_reasonOfWord 91 = .ok (.iadd, 1) := ckS_g gdX11_reasonOfWord_80 7 rfl
theorem dX11_reasonOfWord_92 : decode cX11_reasonOfWord 92 = .ok (.iload 4, 2) := ckS_g gdX11_reasonOfWord_80 8 rfl
theorem dX11_reasonOfWord_94 : decode cX11_reasonOfWord 94 = .ok (.ifCond .eq 7, 3) := ckS_g gdX11_reasonOfWord_80 9 rfl
theorem dX11_reasonOfWord_97 : decode cX11_reasonOfWord 97 = .ok (.iconst 1, 1) := ckS_g gdX11_reasonOfWord_80 10 rfl
theorem dX11_reasonOfWord_98 : decode cX11_reasonOfWord 98 = .ok (.goto 4, 3) := ckS_g gdX11_reasonOfWord_80 11 rfl
theorem dX11_reasonOfWord_101 : decode cX11_reasonOfWord 101 = .ok (.iconst 0, 1) := ckS_g gdX11_reasonOfWord_80 12 rfl
theorem dX11_reasonOfWord_102 : decode cX11_reasonOfWord 102 = .ok (.iadd, 1) := ckS_g gdX11_reasonOfWord_80 13 rfl
theorem dX11_reasonOfWord_103 : decode cX11_reasonOfWord 103 = .ok (.istore 5, 2) := ckS_g gdX11_reasonOfWord_80 14 rfl
theorem dX11_reasonOfWord_105 : decode cX11_reasonOfWord 105 = .ok (.aload_n 0, 1) := ckS_g gdX11_reasonOfWord_80 15 rfl
theorem dX11_reasonOfWord_106 : decode cX11_reasonOfWord 106 = .ok (.getfield 37, 3) := ckS_g gdX11_reasonOfWord_80 16 rfl
theorem dX11_reasonOfWord_109 : decode cX11_reasonOfWord 109 = .ok (.aload_n 0, 1) := ckS_g gdX11_reasonOfWord_80 17 rfl
theorem dX11_reasonOfWord_110 : decode cX11_reasonOfWord 110 = .ok (.getfield 75, 3) := ckS_g gdX11_reasonOfWord_80 18 rfl
theorem dX11_reasonOfWord_113 : decode cX11_reasonOfWord 113 = .ok (.iconst 0, 1) := ckS_g gdX11_reasonOfWord_80 19 rfl
theorem dX11_reasonOfWord_114 : decode cX11_reasonOfWord 114 = .ok (.iaload, 1) := ckS_g gdX11_reasonOfWord_80 20 rfl
theorem dX11_reasonOfWord_115 : decode cX11_reasonOfWord 115 = .ok (.iaload, 1) := ckS_g gdX11_reasonOfWord_80 21 rfl
theorem dX11_reasonOfWord_116 : decode cX11_reasonOfWord 116 = .ok (.iload 5, 2) := ckS_g gdX11_reasonOfWord_80 22 rfl
theorem dX11_reasonOfWord_118 : decode cX11_reasonOfWord 118 = .ok (.iadd, 1) := ckS_g gdX11_reasonOfWord_80 23 rfl
theorem dX11_reasonOfWord_119 : decode cX11_reasonOfWord 119 = .ok (.sipush 400, 3) := ckS_g gdX11_reasonOfWord_80 24 rfl
theorem dX11_reasonOfWord_122 : decode cX11_reasonOfWord 122 = .ok (.if_icmp .le 8, 3) := ckS_g gdX11_reasonOfWord_80 25 rfl
theorem dX11_reasonOfWord_125 : decode cX11_reasonOfWord 125 = .ok (.bipush 10, 2) := ckS_g gdX11_reasonOfWord_80 26 rfl
theorem dX11_reasonOfWord_127 : decode cX11_reasonOfWord 127 = .ok (.goto 4, 3) := ckS_g gdX11_reasonOfWord_80 27 rfl
theorem dX11_reasonOfWord_130 : decode cX11_reasonOfWord 130 = .ok (.iconst 0, 1) := ckS_g gdX11_reasonOfWord_80 28 rfl
theorem dX11_reasonOfWord_131 : decode cX11_reasonOfWord 131 = .ok (.ireturn, 1) := ckS_g gdX11_reasonOfWord_80 29 rfl
set_option maxRecDepth 100000 in
theorem z94 : wZ (.static yX11_isWord) := ⟨wT6 (List.mem_of_getElem? (i := 23) (by decide +kernel)), Or.inl rfl⟩
set_option maxRecDepth 100000 in
theorem z95 : wZ (.methodLink RX11 181 yX11_isWord) := ⟨wT6 (List.mem_of_getElem? (i := 22) (by decide +kernel)), Or.inl rfl⟩
set_option maxRecDepth 100000 in
theorem z96 : wZ (.selects RX11 yX11_hasDraft yX11_hasDraft) := ⟨List.mem_append_left _ (List.mem_of_getElem? (i := 5) (by decide +kernel)), Or.inl rfl⟩
set_option maxRecDepth 100000 in
theorem z97 : wZ (.instanceMethod yX11_hasDraft) := ⟨wT6 (List.mem_of_getElem? (i := 16) (by decide +kernel)), Or.inl rfl⟩
set_option maxRecDepth 100000 in
theorem z98 : wZ (.methodLink RX11 163 yX11_hasDraft) := ⟨wT6 (List.mem_of_getElem? (i := 14) (by decide +kernel)), Or.inl rfl⟩
set_option maxRecDepth 100000 in
theorem z99 : wZ (.code yX11_reasonOfWord cX11_reasonOfWord 6 (some .int)) := ⟨wT6 (List.mem_of_getElem? (i := 21) rfl), Or.inl rfl⟩
def b_X11_reasonOfWord_23 (S : HS) (x1 x2 x3 x4 : Int32) : Int32 × HS := (11, S)
def q_X11_reasonOfWord_23 (S : HS) (x1 x2 x3 x4 : Int32) : Prop := True
def b_X11_reasonOfWord_68 (S : HS) (x1 x2 x3 x4 : Int32) : Int32 × HS := (9, S)
def q_X11_reasonOfWord_68 (S : HS) (x1 x2 x3 x4 : Int32) : Prop := True
def b_X11_reasonOfWord_131 (S : HS) (x1 x2 x3 x4 x5 y0 : Int32) : Int32 × HS := (y0, S)
def q_X11_reasonOfWord_131 (S : HS) (x1 x2 x3 x4 x5 y0 : Int32) : Prop := True
def b_X11_reasonOfWord_102 (S : HS) (x1 x2 x3 x4 y0 y1 : Int32) : Int32 × HS := if ((S.2 19 (S.2 32 (0 : Int32).toNatClampNeg).toNatClampNeg) + (y1 + y0)) ≤ 400 then (b_X11_reasonOfWord_131 S x1 x2 x3 x4 (y1 + y0) 0) else (b_X11_reasonOfWord_131 S x1 x2 x3 x4 (y1 + y0) 10)
def q_X11_reasonOfWord_102 (S : HS) (x1 x2 x3 x4 y0 y1 : Int32) : Prop := (vp_in 0 9) ∧ (vp_in (S.2 32 (0 : Int32).toNatClampNeg) 90) ∧ (if ((S.2 19 (S.2 32 (0 : Int32).toNatClampNeg).toNatClampNeg) + (y1 + y0)) ≤ 400 then (q_X11_reasonOfWord_131 S x1 x2 x3 x4 (y1 + y0) 0) else (q_X11_reasonOfWord_131 S x1 x2 x3 x4 (y1 + y0) 10))
def b_X11_reasonOfWord_91 (S : HS) (x1 x2 x3 x4 y0 y1 : Int32) : Int32 × HS := if x4 = 0 then (b_X11_reasonOfWord_102 S x1 x2 x3 x4 0 (y1 + y0)) else (b_X11_reasonOfWord_102 S x1 x2 x3 x4 1 (y1 + y0))
def q_X11_reasonOfWord_91 (S : HS) (x1 x2 x3 x4 y0 y1 : Int32) : Prop := (if x4 = 0 then (q_X11_reasonOfWord_102 S x1 x2 x3 x4 0 (y1 + y0)) else (q_X11_reasonOfWord_102 S x1 x2 x3 x4 1 (y1 + y0)))
def b_X11_reasonOfWord_81 (S : HS) (x1 x2 x3 x4 y0 y1 : Int32) : Int32 × HS := if x3 = 0 then (b_X11_reasonOfWord_91 S x1 x2 x3 x4 0 (y1 + y0)) else (b_X11_reasonOfWord_91 S x1 x2 x3 x4 1 (y1 + y0))
def q_X11_reasonOfWord_81 (S : HS) (x1 x2 x3 x4 y0 y1 : Int32) : Prop := (if x3 = 0 then (q_X11_reasonOfWord_91 S x1 x2 x3 x4 0 (y1 + y0)) else (q_X11_reasonOfWord_91 S x1 x2 x3 x4 1 (y1 + y0)))
def b_X11_reasonOfWord_71 (S : HS) (x1 x2 x3 x4 : Int32) : Int32 × HS := if x2 = 0 then (b_X11_reasonOfWord_81 S x1 x2 x3 x4 0 1) else (b_X11_reasonOfWord_81 S x1 x2 x3 x4 1 1)
def q_X11_reasonOfWord_71 (S : HS) (x1 x2 x3 x4 : Int32) : Prop := (if x2 = 0 then (q_X11_reasonOfWord_81 S x1 x2 x3 x4 0 1) else (q_X11_reasonOfWord_81 S x1 x2 x3 x4 1 1))
def b_X11_reasonOfWord_55 (S : HS) (x1 x2 x3 x4 : Int32) : Int32 × HS := if x4 = 0 then (b_X11_reasonOfWord_71 S x1 x2 x3 x4) else if (f_X11_isWord x4) = 0 then (b_X11_reasonOfWord_68 S x1 x2 x3 x4) else (b_X11_reasonOfWord_71 S x1 x2 x3 x4)
def q_X11_reasonOfWord_55 (S : HS) (x1 x2 x3 x4 : Int32) : Prop := (if x4 = 0 then (q_X11_reasonOfWord_71 S x1 x2 x3 x4) else (p_X11_isWord x4) ∧ (if (f_X11_isWord x4) = 0 then (q_X11_reasonOfWord_68 S x1 x2 x3 x4) else (q_X11_reasonOfWord_71 S x1 x2 x3 x4)))
def b_X11_reasonOfWord_44 (S : HS) (x1 x2 x3 x4 : Int32) : Int32 × HS := if x3 = 0 then (b_X11_reasonOfWord_55 S x1 x2 x3 x4) else if (f_X11_isWord x3) = 0 then (b_X11_reasonOfWord_68 S x1 x2 x3 x4) else (b_X11_reasonOfWord_55 S x1 x2 x3 x4)
def q_X11_reasonOfWord_44 (S : HS) (x1 x2 x3 x4 : Int32) : Prop := (if x3 = 0 then (q_X11_reasonOfWord_55 S x1 x2 x3 x4) else (p_X11_isWord x3) ∧ (if (f_X11_isWord x3) = 0 then (q_X11_reasonOfWord_68 S x1 x2 x3 x4) else (q_X11_reasonOfWord_55 S x1 x2 x3 x4)))
def b_X11_reasonOfWord_a6 (S : HS) (x1 x2 x3 x4 y0 : Int32) : Int32 × HS := if y0 = 0 then (b_X11_reasonOfWord_23 S x1 x2 x3 x4) else if (S.2 25 (S.2 32 (0 : Int32).toNatClampNeg).toNatClampNeg) = 0 then if (f_X11_isWord x1) = 0 then (b_X11_reasonOfWord_68 S x1 x2 x3 x4) else if x2 = 0 then (b_X11_reasonOfWord_44 S x1 x2 x3 x4) else if (f_X11_isWord x2) = 0 then (b_X11_reasonOfWord_68 S x1 x2 x3 x4) else (b_X11_reasonOfWord_44 S x1 x2 x3 x4) else (b_X11_reasonOfWord_23 S x1 x2 x3 x4)
def q_X11_reasonOfWord_a6 (S : HS) (x1 x2 x3 x4 y0 : Int32) : Prop := (if y0 = 0 then (q_X11_reasonOfWord_23 S x1 x2 x3 x4) else (vp_in 0 9) ∧ (vp_in (S.2 32 (0 : Int32).toNatClampNeg) 90) ∧ (if (S.2 25 (S.2 32 (0 : Int32).toNatClampNeg).toNatClampNeg) = 0 then (p_X11_isWord x1) ∧ (if (f_X11_isWord x1) = 0 then (q_X11_reasonOfWord_68 S x1 x2 x3 x4) else (if x2 = 0 then (q_X11_reasonOfWord_44 S x1 x2 x3 x4) else (p_X11_isWord x2) ∧ (if (f_X11_isWord x2) = 0 then (q_X11_reasonOfWord_68 S x1 x2 x3 x4) else (q_X11_reasonOfWord_44 S x1 x2 x3 x4)))) else (q_X11_reasonOfWord_23 S x1 x2 x3 x4)))
def f_X11_reasonOfWord (S : HS) (x1 x2 x3 x4 : Int32) : Int32 × HS := (b_X11_reasonOfWord_a6 (f_X11_hasDraft S 1 5).2 x1 x2 x3 x4 (f_X11_hasDraft S 1 5).1)
def p_X11_reasonOfWord (S : HS) (x1 x2 x3 x4 : Int32) : Prop := (p_X11_hasDraft S 1 5) ∧ (q_X11_reasonOfWord_a6 (f_X11_hasDraft S 1 5).2 x1 x2 x3 x4 (f_X11_hasDraft S 1 5).1)
def e_X11_reasonOfWord : List Cond := [.methodLink RX11 163 yX11_hasDraft, .instanceMethod yX11_hasDraft, .selects RX11 yX11_hasDraft yX11_hasDraft, .initialized RX11, .fieldLink RX11 55 "MotionFloorModel$Hall" "laid" "[Z", .fieldLink RX11 75 "MotionFloorModel$Hall" "draft" "[I", .methodLink RX11 181 yX11_isWord, .static yX11_isWord, .fieldLink RX11 37 "MotionFloorModel$Hall" "words" "[I"]
def v_X11_reasonOfWord : List Cond := .code yX11_reasonOfWord cX11_reasonOfWord 6 (some .int) :: (e_X11_reasonOfWord ++ (wsX110 ++ (v_X11_hasDraft ++ (v_X11_isWord ++ []))))
theorem te_X11_reasonOfWord : GoodIn lw_tbl e_X11_reasonOfWord := wGc z98 (wGc z97 (wGc z96 (wGc z51 (wGc z72 (wGc z84 (wGc z95 (wGc z94 (wGc z76 (wG0)))))))))
theorem t_X11_reasonOfWord : GoodIn lw_tbl v_X11_reasonOfWord := wGc z99 (wGa te_X11_reasonOfWord (wGa zcX11 (wGa t_X11_hasDraft (wGa t_X11_isWord (wG0)))))
set_option maxHeartbeats 4000000 in
set_option maxRecDepth 100000 in
theorem c_X11_reasonOfWord (l : Launch) (G : va_G) (K : Nat → ClassId) (h : Nat) (g : Nat → Nat) (S0 : HS) (a1 a2 a3 a4 : Int32) (sz : Nat) : Met l yX11_reasonOfWord v_X11_reasonOfWord ({ frames := 2, cells := 0, slots := 0, locals := 44 }) (va_Pc [.ref h, .int a1, .int a2, .int a3, .int a4] (hS G K h g sz S0 (p_X11_reasonOfWord S0 a1 a2 a3 a4))) (va_Qi (fun (r : Int32) (u : HS) => (r, u) = f_X11_reasonOfWord S0 a1 a2 a3 a4) (hB G K h g (va_A (hW K h g S0) sz)) (va_A (hW K h g S0) sz)) 0 0 (va_A (hW K h g S0) sz) := by
  refine Met.ofW (cc := cX11_reasonOfWord) (maxL := 6) (ret := (some .int)) (by decide) rfl ?_
  intro p e s m args below meth c s₁ B hml hv
  obtain ⟨rfl, ⟨hsz, hP, hK, hD0, hTE⟩, hp⟩ := hv
  have hx := B.exec
  have hb := B.bytes
  have hr := B.returns
  have hts := atoms_spec (ws := v_X11_reasonOfWord) B.pre
  have t_ := t_X11_reasonOfWord
  have mw : ∀ w ∈ e_X11_reasonOfWord, w ∈ v_X11_reasonOfWord := fun w h => List.mem_cons_of_mem _ (List.mem_append_left _ h)
  have hw := fun w (h : w ∈ e_X11_reasonOfWord) => hts w (mw w h)
  have iX11 : ∀ w ∈ wsX110, w ∈ v_X11_reasonOfWord := fun w h => List.mem_cons_of_mem _ (List.mem_append_right _ (List.mem_append_left _ h))
  have j_X11_hasDraft : ∀ w ∈ v_X11_hasDraft, w ∈ v_X11_reasonOfWord := fun w h => List.mem_cons_of_mem _ (List.mem_append_right _ (List.mem_append_right _ (List.mem_append_left _ h)))
  have j_X11_isWord : ∀ w ∈ v_X11_isWord, w ∈ v_X11_reasonOfWord := fun w h => List.mem_cons_of_mem _ (List.mem_append_right _ (List.mem_append_right _ (List.mem_append_right _ (List.mem_append_left _ h))))
  have hown : s.vm.findClass RX11 = some m.cls := findClass_of_methodNamed B.named
  have hlocks := B.notSynchronized
  subst hsz
  have hD := hD0.self (sz := s.heap.size)
  generalize hAe : va_A (hW K h g S0) s.heap.size = A at hD ⊢
  have hA : ∀ q : Nat, s.heap.size ≤ q → A q := fun q h => by rw [← hAe]; exact Or.inr h
  have hS : va_S A s.heap s.heap [] := va_S.rf
  have hl := lv_entry ([.ref h, .int a1, .int a2, .int a3, .int a4]) (n := 6) (Nat.le_of_ble_eq_true rfl)
  rw [lg_entry_eq]
  generalize (lg_sl ([.ref h, .int a1, .int a2, .int a3, .int a4]) ++ List.replicate (6 - (lg_sl ([.ref h, .int a1, .int a2, .int a3, .int a4])).length) Slot.unset).toArray = ls at hl ⊢
  have hl : lv_has ls 6 [(0, .ref h), (1, .int a1), (2, .int a2), (3, .int a3), (4, .int a4)] := hl
  refine wGen (fun Q hQ => ?_)
  obtain ⟨X, hX⟩ : ∃ X, f_X11_reasonOfWord S0 a1 a2 a3 a4 = X := ⟨_, rfl⟩
  have B_23 : ∀ (S : HS) (x1 x2 x3 x4 : Int32) (H : Heap) (locs : List Loc) (ls : Array Slot), b_X11_reasonOfWord_23 S x1 x2 x3 x4 = X → q_X11_reasonOfWord_23 S x1 x2 x3 x4 → va_P G vwCl (hW K h g S) H → va_D A (hW K h g S) → va_S A s.heap H locs → lv_has ls 6 [(0, .ref h), (1, .int x1), (2, .int x2), (3, .int x3), (4, .int x4)] → W p l e ({ frames := 2, cells := 0, slots := 0, locals := 44 } : Room) s m #[Value.ref h, Value.int a1, Value.int a2, Value.int a3, Value.int a4] below meth c H locs 0 0 Q (F0 m 23 ls []) := by
    intro S x1 x2 x3 x4 H locs ls hE hp hP hD hS hl
    unfold b_X11_reasonOfWord_23 at hE
    unfold q_X11_reasonOfWord_23 at hp
    refine lv_bipush (v := 11) hx hb dX11_reasonOfWord_23 (by decide) ?_
    subst hQ
    exact W.iret (v := 11) hx hb hr (fun t ht hW => ⟨⟨11, S, rfl, hE.trans hX.symm, by rw [ht]; exact hP, hD⟩, hS.F ht⟩) hS.2.2 dX11_reasonOfWord_25
  have B_68 : ∀ (S : HS) (x1 x2 x3 x4 : Int32) (H : Heap) (locs : List Loc) (ls : Array Slot), b_X11_reasonOfWord_68 S x1 x2 x3 x4 = X → q_X11_reasonOfWord_68 S x1 x2 x3 x4 → va_P G vwCl (hW K h g S) H → va_D A (hW K h g S) → va_S A s.heap H locs → lv_has ls 6 [(0, .ref h), (1, .int x1), (2, .int x2), (3, .int x3), (4, .int x4)] → W p l e ({ frames := 2, cells := 0, slots := 0, locals := 44 } : Room) s m #[Value.ref h, Value.int a1, Value.int a2, Value.int a3, Value.int a4] below meth c H locs 0 0 Q (F0 m 68 ls []) := by
    intro S x1 x2 x3 x4 H locs ls hE hp hP hD hS hl
    unfold b_X11_reasonOfWord_68 at hE
    unfold q_X11_reasonOfWord_68 at hp
    refine lv_bipush (v := 9) hx hb dX11_reasonOfWord_68 (by decide) ?_
    subst hQ
    exact W.iret (v := 9) hx hb hr (fun t ht hW => ⟨⟨9, S, rfl, hE.trans hX.symm, by rw [ht]; exact hP, hD⟩, hS.F ht⟩) hS.2.2 dX11_reasonOfWord_70
  have B_131 : ∀ (S : HS) (x1 x2 x3 x4 x5 y0 : Int32) (H : Heap) (locs : List Loc) (ls : Array Slot), b_X11_reasonOfWord_131 S x1 x2 x3 x4 x5 y0 = X → q_X11_reasonOfWord_131 S x1 x2 x3 x4 x5 y0 → va_P G vwCl (hW K h g S) H → va_D A (hW K h g S) → va_S A s.heap H locs → lv_has ls 6 [(0, .ref h), (1, .int x1), (2, .int x2), (3, .int x3), (4, .int x4), (5, .int x5)] → W p l e ({ frames := 2, cells := 0, slots := 0, locals := 44 } : Room) s m #[Value.ref h, Value.int a1, Value.int a2, Value.int a3, Value.int a4] below meth c H locs 0 0 Q (F0 m 131 ls [.int y0]) := by
    intro S x1 x2 x3 x4 x5 y0 H locs ls hE hp hP hD hS hl
    unfold b_X11_reasonOfWord_131 at hE
    unfold q_X11_reasonOfWord_131 at hp
    subst hQ
    exact W.iret (v := y0) hx hb hr (fun t ht hW => ⟨⟨y0, S, rfl, hE.trans hX.symm, by rw [ht]; exact hP, hD⟩, hS.F ht⟩) hS.2.2 dX11_reasonOfWord_131
  have B_102 : ∀ (S : HS) (x1 x2 x3 x4 y0 y1 : Int32) (H : Heap) (locs : List Loc) (ls : Array Slot), b_X11_reasonOfWord_102 S x1 x2 x3 x4 y0 y1 = X → q_X11_reasonOfWord_102 S x1 x2 x3 x4 y0 y1 → va_P G vwCl (hW K h g S) H → va_D A (hW K h g S) → va_S A s.heap H locs → lv_has ls 6 [(0, .ref h), (1, .int x1), (2, .int x2), (3, .int x3), (4, .int x4)] → W p l e ({ frames := 2, cells := 0, slots := 0, locals := 44 } : Room) s m #[Value.ref h, Value.int a1, Value.int a2, Value.int a3, Value.int a4] below meth c H locs 0 0 Q (F0 m 102 ls [.int y0, .int y1]) := by
    intro S x1 x2 x3 x4 y0 y1 H locs ls hE hp hP hD hS hl
    unfold b_X11_reasonOfWord_102 at hE
    unfold q_X11_reasonOfWord_102 at hp
    refine lv_iadd hx hb dX11_reasonOfWord_102 ?_
    refine lv_istore (lv' := [(5, .int (y1 + y0)), (0, .ref h), (1, .int x1), (2, .int x2), (3, .int x3), (4, .int x4)]) hx hb dX11_reasonOfWord_103 hl (by decide) rfl (fun ls hl => ?_)
    refine lv_aload_n hx hb dX11_reasonOfWord_105 rfl (lv_at hl 1 rfl) ?_
    refine va_get (D := G) (ci := 8) (v := .ref (g 19)) (C := RX11) (T := TX11) (N := 42) hx hb hts iX11 hown hK hP 0 rfl rfl 19 (by decide) (hw (.fieldLink RX11 37 "MotionFloorModel$Hall" "words" "[I") (List.mem_of_getElem? (i := 8) rfl)) (fun _ h9 => h9) rfl dX11_reasonOfWord_106 ?_
    refine lv_aload_n hx hb dX11_reasonOfWord_109 rfl (lv_at hl 1 rfl) ?_
    refine va_get (D := G) (ci := 8) (v := .ref (g 32)) (C := RX11) (T := TX11) (N := 42) hx hb hts iX11 hown hK hP 0 rfl rfl 32 (by decide) (hw (.fieldLink RX11 75 "MotionFloorModel$Hall" "draft" "[I") (List.mem_of_getElem? (i := 5) rfl)) (fun _ h9 => h9) rfl dX11_reasonOfWord_110 ?_
    refine lv_iconst (v := 0) hx hb dX11_reasonOfWord_113 (by decide) ?_
    obtain ⟨hy16, hp⟩ := hp
    refine va_iald hx hb hK hP 21 0 rfl rfl hy16 dX11_reasonOfWord_114 ?_
    obtain ⟨hy17, hp⟩ := hp
    refine va_iald hx hb hK hP 9 0 rfl rfl hy17 dX11_reasonOfWord_115 ?_
    refine lv_iload hx hb dX11_reasonOfWord_116 (lv_at hl 0 rfl) ?_
    refine lv_iadd hx hb dX11_reasonOfWord_118 ?_
    refine lv_sipush (v := 400) hx hb dX11_reasonOfWord_119 (by decide) ?_
    refine lv_icmp_le (tgt := 130) hx hb dX11_reasonOfWord_122 (by decide) (fun c18 => ?_) (fun c18 => ?_)
    · rw [if_pos c18] at hE hp
      refine lv_iconst (v := 0) hx hb dX11_reasonOfWord_130 (by decide) ?_
      exact B_131 S x1 x2 x3 x4 (y1 + y0) 0 _ _ _ hE hp hP hD hS (lv_sub hl [1, 2, 3, 4, 5, 0] rfl)
    · rw [if_neg c18] at hE hp
      refine lv_bipush (v := 10) hx hb dX11_reasonOfWord_125 (by decide) ?_
      refine lv_goto (tgt := 131) hx hb dX11_reasonOfWord_127 (by decide) ?_
      exact B_131 S x1 x2 x3 x4 (y1 + y0) 10 _ _ _ hE hp hP hD hS (lv_sub hl [1, 2, 3, 4, 5, 0] rfl)
  have B_91 : ∀ (S : HS) (x1 x2 x3 x4 y0 y1 : Int32) (H : Heap) (locs : List Loc) (ls : Array Slot), b_X11_reasonOfWord_91 S x1 x2 x3 x4 y0 y1 = X → q_X11_reasonOfWord_91 S x1 x2 x3 x4 y0 y1 → va_P G vwCl (hW K h g S) H → va_D A (hW K h g S) → va_S A s.heap H locs → lv_has ls 6 [(0, .ref h), (1, .int x1), (2, .int x2), (3, .int x3), (4, .int x4)] → W p l e ({ frames := 2, cells := 0, slots := 0, locals := 44 } : Room) s m #[Value.ref h, Value.int a1, Value.int a2, Value.int a3, Value.int a4] below meth c H locs 0 0 Q (F0 m 91 ls [.int y0, .int y1]) := by
    intro S x1 x2 x3 x4 y0 y1 H locs ls hE hp hP hD hS hl
    unfold b_X11_reasonOfWord_91 at hE
    unfold q_X11_reasonOfWord_91 at hp
    refine lv_iadd hx hb dX11_reasonOfWord_91 ?_
    refine lv_iload hx hb dX11_reasonOfWord_92 (lv_at hl 4 rfl) ?_
    refine lv_if_eq (tgt := 101) hx hb dX11_reasonOfWord_94 (by decide) (fun c15 => ?_) (fun c15 => ?_)
    · rw [if_pos c15] at hE hp
      refine lv_iconst (v := 0) hx hb dX11_reasonOfWord_101 (by decide) ?_
      exact B_102 S x1 x2 x3 x4 0 (y1 + y0) _ _ _ hE hp hP hD hS (lv_sub hl [0, 1, 2, 3, 4] rfl)
    · rw [if_neg c15] at hE hp
      refine lv_iconst (v := 1) hx hb dX11_reasonOfWord_97 (by decide) ?_
      refine lv_goto (tgt := 102) hx hb dX11_reasonOfWord_98 (by decide) ?_
      exact B_102 S x1 x2 x3 x4 1 (y1 + y0) _ _ _ hE hp hP hD hS (lv_sub hl [0, 1, 2, 3, 4] rfl)
  have B_81 : ∀ (S : HS) (x1 x2 x3 x4 y0 y1 : Int32) (H : Heap) (locs : List Loc) (ls : Array Slot), b_X11_reasonOfWord_81 S x1 x2 x3 x4 y0 y1 = X → q_X11_reasonOfWord_81 S x1 x2 x3 x4 y0 y1 → va_P G vwCl (hW K h g S) H → va_D A (hW K h g S) → va_S A s.heap H locs → lv_has ls 6 [(0, .ref h), (1, .int x1), (2, .int x2), (3, .int x3), (4, .int x4)] → W p l e ({ frames := 2, cells := 0, slots := 0, locals := 44 } : Room) s m #[Value.ref h, Value.int a1, Value.int a2, Value.int a3, Value.int a4] below meth c H locs 0 0 Q (F0 m 81 ls [.int y0, .int y1]) := by
    intro S x1 x2 x3 x4 y0 y1 H locs ls hE hp hP hD hS hl
    unfold b_X11_reasonOfWord_81 at hE
    unfold q_X11_reasonOfWord_81 at hp
    refine lv_iadd hx hb dX11_reasonOfWord_81 ?_
    refine lv_iload_n hx hb dX11_reasonOfWord_82 rfl (lv_at hl 3 rfl) ?_
    refine lv_if_eq (tgt := 90) hx hb dX11_reasonOfWord_83 (by decide) (fun c14 => ?_) (fun c14 => ?_)
    · rw [if_pos c14] at hE hp
      refine lv_iconst (v := 0) hx hb dX11_reasonOfWord_90 (by decide) ?_
      exact B_91 S x1 x2 x3 x4 0 (y1 + y0) _ _ _ hE hp hP hD hS (lv_sub hl [0, 1, 2, 3, 4] rfl)
    · rw [if_neg c14] at hE hp
      refine lv_iconst (v := 1) hx hb dX11_reasonOfWord_86 (by decide) ?_
      refine lv_goto (tgt := 91) hx hb dX11_reasonOfWord_87 (by decide) ?_
      exact B_91 S x1 x2 x3 x4 1 (y1 + y0) _ _ _ hE hp hP hD hS (lv_sub hl [0, 1, 2, 3, 4] rfl)
  have B_71 : ∀ (S : HS) (x1 x2 x3 x4 : Int32) (H : Heap) (locs : List Loc) (ls : Array Slot), b_X11_reasonOfWord_71 S x1 x2 x3 x4 = X → q_X11_reasonOfWord_71 S x1 x2 x3 x4 → va_P G vwCl (hW K h g S) H → va_D A (hW K h g S) → va_S A s.heap H locs → lv_has ls 6 [(0, .ref h), (1, .int x1), (2, .int x2), (3, .int x3), (4, .int x4)] → W p l e ({ frames := 2, cells := 0, slots := 0, locals := 44 } : Room) s m #[Value.ref h, Value.int a1, Value.int a2, Value.int a3, Value.int a4] below meth c H locs 0 0 Q (F0 m 71 ls []) := by
    intro S x1 x2 x3 x4 H locs ls hE hp hP hD hS hl
    unfold b_X11_reasonOfWord_71 at hE
    unfold q_X11_reasonOfWord_71 at hp
    refine lv_iconst (v := 1) hx hb dX11_reasonOfWord_71 (by decide) ?_
    refine lv_iload_n hx hb dX11_reasonOfWord_72 rfl (lv_at hl 2 rfl) ?_
    refine lv_if_eq (tgt := 80) hx hb dX11_reasonOfWord_73 (by decide) (fun c13 => ?_) (fun c13 => ?_)
    · rw [if_pos c13] at hE hp
      refine lv_iconst (v := 0) hx hb dX11_reasonOfWord_80 (by decide) ?_
      exact B_81 S x1 x2 x3 x4 0 1 _ _ _ hE hp hP hD hS (lv_sub hl [0, 1, 2, 3, 4] rfl)
    · rw [if_neg c13] at hE hp
      refine lv_iconst (v := 1) hx hb dX11_reasonOfWord_76 (by decide) ?_
      refine lv_goto (tgt := 81) hx hb dX11_reasonOfWord_77 (by decide) ?_
      exact B_81 S x1 x2 x3 x4 1 1 _ _ _ hE hp hP hD hS (lv_sub hl [0, 1, 2, 3, 4] rfl)
  have B_55 : ∀ (S : HS) (x1 x2 x3 x4 : Int32) (H : Heap) (locs : List Loc) (ls : Array Slot), b_X11_reasonOfWord_55 S x1 x2 x3 x4 = X → q_X11_reasonOfWord_55 S x1 x2 x3 x4 → va_P G vwCl (hW K h g S) H → va_D A (hW K h g S) → va_S A s.heap H locs → lv_has ls 6 [(0, .ref h), (1, .int x1), (2, .int x2), (3, .int x3), (4, .int x4)] → W p l e ({ frames := 2, cells := 0, slots := 0, locals := 44 } : Room) s m #[Value.ref h, Value.int a1, Value.int a2, Value.int a3, Value.int a4] below meth c H locs 0 0 Q (F0 m 55 ls []) := by
    intro S x1 x2 x3 x4 H locs ls hE hp hP hD hS hl
    unfold b_X11_reasonOfWord_55 at hE
    unfold q_X11_reasonOfWord_55 at hp
    refine lv_iload hx hb dX11_reasonOfWord_55 (lv_at hl 4 rfl) ?_
    refine lv_if_eq (tgt := 71) hx hb dX11_reasonOfWord_57 (by decide) (fun c12 => ?_) (fun c12 => ?_)
    · rw [if_pos c12] at hE hp
      exact B_71 S x1 x2 x3 x4 _ _ _ hE hp hP hD hS (lv_sub hl [0, 1, 2, 3, 4] rfl)
    · rw [if_neg c12] at hE hp
      refine lv_iload hx hb dX11_reasonOfWord_60 (lv_at hl 4 rfl) ?_
      obtain ⟨hy19, hp⟩ := hp
      refine nGoi (va_runS (As := [.int x4]) (rest := []) ⟨hx, hb, hml, hown, hts⟩ (c_X11_isWord l G K x4 _) (va_cwS 1 hts (wGS t_ (mw (.methodLink RX11 181 yX11_isWord) (List.mem_of_getElem? (i := 6) rfl)) (mw (.static yX11_isWord) (List.mem_of_getElem? (i := 7) rfl)) (mw (.initialized RX11) (List.mem_of_getElem? (i := 3) rfl)) j_X11_isWord) rfl rfl rfl (by decide +kernel) ⟨Nat.le_of_ble_eq_true rfl, Nat.le_of_ble_eq_true rfl⟩) (nPS hK hTE hy19) rfl rfl hl.1 rfl (lv_room (Nat.le_of_ble_eq_true rfl)) dX11_reasonOfWord_62 ⟨Nat.le_of_ble_eq_true rfl, Nat.le_of_ble_eq_true rfl⟩) hP hS hA (fun r H locs hv hP hS => ?_)
      subst hv
      refine lv_if_ne (tgt := 71) hx hb dX11_reasonOfWord_65 (by decide) (fun c20 => ?_) (fun c20 => ?_)
      · rw [if_neg c20] at hE hp
        exact B_71 S x1 x2 x3 x4 _ _ _ hE hp hP hD hS (lv_sub hl [0, 1, 2, 3, 4] rfl)
      · rw [if_pos c20] at hE hp
        exact B_68 S x1 x2 x3 x4 _ _ _ hE hp hP hD hS (lv_sub hl [0, 1, 2, 3, 4] rfl)
  have B_44 : ∀ (S : HS) (x1 x2 x3 x4 : Int32) (H : Heap) (locs : List Loc) (ls : Array Slot), b_X11_reasonOfWord_44 S x1 x2 x3 x4 = X → q_X11_reasonOfWord_44 S x1 x2 x3 x4 → va_P G vwCl (hW K h g S) H → va_D A (hW K h g S) → va_S A s.heap H locs → lv_has ls 6 [(0, .ref h), (1, .int x1), (2, .int x2), (3, .int x3), (4, .int x4)] → W p l e ({ frames := 2, cells := 0, slots := 0, locals := 44 } : Room) s m #[Value.ref h, Value.int a1, Value.int a2, Value.int a3, Value.int a4] below meth c H locs 0 0 Q (F0 m 44 ls []) := by
    intro S x1 x2 x3 x4 H locs ls hE hp hP hD hS hl
    unfold b_X11_reasonOfWord_44 at hE
    unfold q_X11_reasonOfWord_44 at hp
    refine lv_iload_n hx hb dX11_reasonOfWord_44 rfl (lv_at hl 3 rfl) ?_
    refine lv_if_eq (tgt := 55) hx hb dX11_reasonOfWord_45 (by decide) (fun c11 => ?_) (fun c11 => ?_)
    · rw [if_pos c11] at hE hp
      exact B_55 S x1 x2 x3 x4 _ _ _ hE hp hP hD hS (lv_sub hl [0, 1, 2, 3, 4] rfl)
    · rw [if_neg c11] at hE hp
      refine lv_iload_n hx hb dX11_reasonOfWord_48 rfl (lv_at hl 3 rfl) ?_
      obtain ⟨hy21, hp⟩ := hp
      refine nGoi (va_runS (As := [.int x3]) (rest := []) ⟨hx, hb, hml, hown, hts⟩ (c_X11_isWord l G K x3 _) (va_cwS 1 hts (wGS t_ (mw (.methodLink RX11 181 yX11_isWord) (List.mem_of_getElem? (i := 6) rfl)) (mw (.static yX11_isWord) (List.mem_of_getElem? (i := 7) rfl)) (mw (.initialized RX11) (List.mem_of_getElem? (i := 3) rfl)) j_X11_isWord) rfl rfl rfl (by decide +kernel) ⟨Nat.le_of_ble_eq_true rfl, Nat.le_of_ble_eq_true rfl⟩) (nPS hK hTE hy21) rfl rfl hl.1 rfl (lv_room (Nat.le_of_ble_eq_true rfl)) dX11_reasonOfWord_49 ⟨Nat.le_of_ble_eq_true rfl, Nat.le_of_ble_eq_true rfl⟩) hP hS hA (fun r H locs hv hP hS => ?_)
      subst hv
      refine lv_if_eq (tgt := 68) hx hb dX11_reasonOfWord_52 (by decide) (fun c22 => ?_) (fun c22 => ?_)
      · rw [if_pos c22] at hE hp
        exact B_68 S x1 x2 x3 x4 _ _ _ hE hp hP hD hS (lv_sub hl [0, 1, 2, 3, 4] rfl)
      · rw [if_neg c22] at hE hp
        exact B_55 S x1 x2 x3 x4 _ _ _ hE hp hP hD hS (lv_sub hl [0, 1, 2, 3, 4] rfl)
  have B_M : ∀ (S : HS) (x1 x2 x3 x4 : Int32) (H : Heap) (locs : List Loc) (ls : Array Slot), f_X11_reasonOfWord S x1 x2 x3 x4 = X → p_X11_reasonOfWord S x1 x2 x3 x4 → va_P G vwCl (hW K h g S) H → va_D A (hW K h g S) → va_S A s.heap H locs → lv_has ls 6 [(0, .ref h), (1, .int x1), (2, .int x2), (3, .int x3), (4, .int x4)] → W p l e ({ frames := 2, cells := 0, slots := 0, locals := 44 } : Room) s m #[Value.ref h, Value.int a1, Value.int a2, Value.int a3, Value.int a4] below meth c H locs 0 0 Q (F0 m 0 ls []) := by
    intro S x1 x2 x3 x4 H locs ls hE hp hP hD hS hl
    unfold f_X11_reasonOfWord at hE
    unfold p_X11_reasonOfWord at hp
    refine lv_aload_n hx hb dX11_reasonOfWord_0 rfl (lv_at hl 0 rfl) ?_
    refine lv_iconst (v := 1) hx hb dX11_reasonOfWord_1 (by decide) ?_
    refine lv_iconst (v := 5) hx hb dX11_reasonOfWord_2 (by decide) ?_
    obtain ⟨hy1, hp⟩ := hp
    refine hGoi (va_runV (As := [.int 1, .int 5]) (rest := []) ⟨hx, hb, hml, hown, hts⟩ (c_X11_hasDraft l G K h g S 1 5 _) (cwV 2 hts (wGV t_ (mw (.methodLink RX11 163 yX11_hasDraft) (List.mem_of_getElem? (i := 0) rfl)) (mw (.instanceMethod yX11_hasDraft) (List.mem_of_getElem? (i := 1) rfl)) (mw (.selects RX11 yX11_hasDraft yX11_hasDraft) (List.mem_of_getElem? (i := 2) rfl)) (mw (.initialized RX11) (List.mem_of_getElem? (i := 3) rfl)) j_X11_hasDraft) rfl rfl rfl (by decide +kernel) ⟨Nat.le_of_ble_eq_true rfl, Nat.le_of_ble_eq_true rfl⟩) (hPV hK hTE hP hD hy1) rfl rfl hl.1 rfl (lv_room (Nat.le_of_ble_eq_true rfl)) dX11_reasonOfWord_3 ⟨Nat.le_of_ble_eq_true rfl, Nat.le_of_ble_eq_true rfl⟩) hP hD hS hA (fun r3 u2 H locs hv hP hD hS => ?_)
    rw [← hv] at hE hp
    dsimp only at hE hp
    unfold b_X11_reasonOfWord_a6 at hE
    unfold q_X11_reasonOfWord_a6 at hp
    refine lv_if_eq (tgt := 23) hx hb dX11_reasonOfWord_6 (by decide) (fun c4 => ?_) (fun c4 => ?_)
    · rw [if_pos c4] at hE hp
      exact B_23 u2 x1 x2 x3 x4 _ _ _ hE hp hP hD hS (lv_sub hl [0, 1, 2, 3, 4] rfl)
    · rw [if_neg c4] at hE hp
      refine lv_aload_n hx hb dX11_reasonOfWord_9 rfl (lv_at hl 0 rfl) ?_
      refine va_get (D := G) (ci := 8) (v := .ref (g 25)) (C := RX11) (T := TX11) (N := 42) hx hb hts iX11 hown hK hP 0 rfl rfl 25 (by decide) (hw (.fieldLink RX11 55 "MotionFloorModel$Hall" "laid" "[Z") (List.mem_of_getElem? (i := 4) rfl)) (fun _ h9 => h9) rfl dX11_reasonOfWord_10 ?_
      refine lv_aload_n hx hb dX11_reasonOfWord_13 rfl (lv_at hl 0 rfl) ?_
      refine va_get (D := G) (ci := 8) (v := .ref (g 32)) (C := RX11) (T := TX11) (N := 42) hx hb hts iX11 hown hK hP 0 rfl rfl 32 (by decide) (hw (.fieldLink RX11 75 "MotionFloorModel$Hall" "draft" "[I") (List.mem_of_getElem? (i := 5) rfl)) (fun _ h9 => h9) rfl dX11_reasonOfWord_14 ?_
      refine lv_iconst (v := 0) hx hb dX11_reasonOfWord_17 (by decide) ?_
      obtain ⟨hy5, hp⟩ := hp
      refine va_iald hx hb hK hP 21 0 rfl rfl hy5 dX11_reasonOfWord_18 ?_
      obtain ⟨hy6, hp⟩ := hp
      refine va_zald hx hb hK hP 15 1 rfl rfl hy6 dX11_reasonOfWord_19 ?_
      refine lv_if_eq (tgt := 26) hx hb dX11_reasonOfWord_20 (by decide) (fun c7 => ?_) (fun c7 => ?_)
      · rw [if_pos c7] at hE hp
        refine lv_iload_n hx hb dX11_reasonOfWord_26 rfl (lv_at hl 1 rfl) ?_
        obtain ⟨hy8, hp⟩ := hp
        refine nGoi (va_runS (As := [.int x1]) (rest := []) ⟨hx, hb, hml, hown, hts⟩ (c_X11_isWord l G K x1 _) (va_cwS 1 hts (wGS t_ (mw (.methodLink RX11 181 yX11_isWord) (List.mem_of_getElem? (i := 6) rfl)) (mw (.static yX11_isWord) (List.mem_of_getElem? (i := 7) rfl)) (mw (.initialized RX11) (List.mem_of_getElem? (i := 3) rfl)) j_X11_isWord) rfl rfl rfl (by decide +kernel) ⟨Nat.le_of_ble_eq_true rfl, Nat.le_of_ble_eq_true rfl⟩) (nPS hK hTE hy8) rfl rfl hl.1 rfl (lv_room (Nat.le_of_ble_eq_true rfl)) dX11_reasonOfWord_27 ⟨Nat.le_of_ble_eq_true rfl, Nat.le_of_ble_eq_true rfl⟩) hP hS hA (fun r H locs hv hP hS => ?_)
        subst hv
        refine lv_if_eq (tgt := 68) hx hb dX11_reasonOfWord_30 (by decide) (fun c9 => ?_) (fun c9 => ?_)
        · rw [if_pos c9] at hE hp
          exact B_68 u2 x1 x2 x3 x4 _ _ _ hE hp hP hD hS (lv_sub hl [0, 1, 2, 3, 4] rfl)
        · rw [if_neg c9] at hE hp
          refine lv_iload_n hx hb dX11_reasonOfWord_33 rfl (lv_at hl 2 rfl) ?_
          refine lv_if_eq (tgt := 44) hx hb dX11_reasonOfWord_34 (by decide) (fun c10 => ?_) (fun c10 => ?_)
          · rw [if_pos c10] at hE hp
            exact B_44 u2 x1 x2 x3 x4 _ _ _ hE hp hP hD hS (lv_sub hl [0, 1, 2, 3, 4] rfl)
          · rw [if_neg c10] at hE hp
            refine lv_iload_n hx hb dX11_reasonOfWord_37 rfl (lv_at hl 2 rfl) ?_
            obtain ⟨hy23, hp⟩ := hp
            refine nGoi (va_runS (As := [.int x2]) (rest := []) ⟨hx, hb, hml, hown, hts⟩ (c_X11_isWord l G K x2 _) (va_cwS 1 hts (wGS t_ (mw (.methodLink RX11 181 yX11_isWord) (List.mem_of_getElem? (i := 6) rfl)) (mw (.static yX11_isWord) (List.mem_of_getElem? (i := 7) rfl)) (mw (.initialized RX11) (List.mem_of_getElem? (i := 3) rfl)) j_X11_isWord) rfl rfl rfl (by decide +kernel) ⟨Nat.le_of_ble_eq_true rfl, Nat.le_of_ble_eq_true rfl⟩) (nPS hK hTE hy23) rfl rfl hl.1 rfl (lv_room (Nat.le_of_ble_eq_true rfl)) dX11_reasonOfWord_38 ⟨Nat.le_of_ble_eq_true rfl, Nat.le_of_ble_eq_true rfl⟩) hP hS hA (fun r H locs hv hP hS => ?_)
            subst hv
            refine lv_if_eq (tgt := 68) hx hb dX11_reasonOfWord_41 (by decide) (fun c24 => ?_) (fun c24 => ?_)
            · rw [if_pos c24] at hE hp
              exact B_68 u2 x1 x2 x3 x4 _ _ _ hE hp hP hD hS (lv_sub hl [0, 1, 2, 3, 4] rfl)
            · rw [if_neg c24] at hE hp
              exact B_44 u2 x1 x2 x3 x4 _ _ _ hE hp hP hD hS (lv_sub hl [0, 1, 2, 3, 4] rfl)
      · rw [if_neg c7] at hE hp
        exact B_23 u2 x1 x2 x3 x4 _ _ _ hE hp hP hD hS (lv_sub hl [0, 1, 2, 3, 4] rfl)
  exact B_M S0 a1 a2 a3 a4 _ _ _ hX hp hP hD hS hl
theorem gdX11_reasonOfLay_0 : ckS (List.drop 0 cX11_reasonOfLay.data.toList) 0 [(0, .iload_n 1, 1), (1, .iconst 0, 1), (2, .bipush 7, 2), (4, .invokestatic 136, 3), (7, .ifCond .ne 6, 3), (10, .bipush 9, 2), (12, .ireturn, 1), (13, .aload_n 0, 1), (14, .getfield 130, 3), (17, .ifCond .eq 12, 3), (20, .aload_n 0, 1), (21, .getfield 81, 3), (24, .iload_n 1, 1), (25, .iaload, 1), (26, .ifCond .le 6, 3), (29, .bipush 11, 2), (31, .ireturn, 1), (32, .aload_n 0, 1), (33, .iconst 2, 1), (34, .iconst 3, 1), (35, .invokevirtual 163, 3), (38, .ifCond .eq 62, 3), (41, .aload_n 0, 1), (42, .getfield 55, 3), (45, .aload_n 0, 1), (46, .getfield 75, 3), (49, .iconst 0, 1), (50, .iaload, 1), (51, .baload, 1), (52, .ifCond .ne 48, 3), (55, .aload_n 0, 1), (56, .aload_n 0, 1), (57, .getfield 22, 3), (60, .aload_n 0, 1), (61, .getfield 75, 3), (64, .iconst 0, 1), (65, .iaload, 1), (66, .iaload, 1), (67, .invokevirtual 184, 3), (70, .ifCond .ne 5, 3)] = true := by decide +kernel
theorem dX11_reasonOfLay_0 : decode cX11_reasonOfLay 0 = .ok (.iload_n 1, 1) := ckS_g gdX11_reasonOfLay_0 0 rfl
theorem dX11_reasonOfLay_1 : decode cX11_reasonOfLay 1 = .ok (.iconst 0, 1) := ckS_g gdX11_reasonOfLay_0 1 rfl
theorem dX11_reasonOfLay_2 : decode cX11_reasonOfLay 2 = .ok (.bipush 7, 2) := ckS_g gdX11_reasonOfLay_0 2 rfl
theorem dX11_reasonOfLay_4 : decode cX11_reasonOfLay 4 = .ok (.invokestatic 136, 3) := ckS_g gdX11_reasonOfLay_0 3 rfl
theorem dX11_reasonOfLay_7 : decode cX11_reasonOfLay 7 = .ok (.ifCond .ne 6, 3) := ckS_g gdX11_reasonOfLay_0 4 rfl
theorem dX11_reasonOfLay_10 : decode cX11_reasonOfLay 10 = .ok (.bipush 9, 2) := ckS_g gdX11_reasonOfLay_0 5 rfl
theorem dX11_reasonOfLay_12 : decode cX11_reasonOfLay 12 = .ok (.ireturn, 1) := ckS_g gdX11_reasonOfLay_0 6 rfl
theorem dX11_reasonOfLay_13 : decode cX11_reasonOfLay 13 = .ok (.aload_n 0, 1) := ckS_g gdX11_reasonOfLay_0 7 rfl
theorem dX11_reasonOfLay_14 : decode cX11_reasonOfLay 14 = .ok (.getfield 130, 3) := ckS_g gdX11_reasonOfLay_0 8 rfl
theorem dX11_reasonOfLay_17 : decode cX11_reasonOfLay 17 = .ok (.ifCond .eq 12, 3) := ckS_g gdX11_reasonOfLay_0 9 rfl
theorem dX11_reasonOfLay_20 : decode cX11_reasonOfLay 20 = .ok (.aload_n 0, 1) := ckS_g gdX11_reasonOfLay_0 10 rfl
theorem dX11_reasonOfLay_21 : decode cX11_reasonOfLay 21 = .ok (.getfield 81, 3) := ckS_g gdX11_reasonOfLay_0 11 rfl
theorem dX11_reasonOfLay_24 : decode cX11_reasonOfLay 24 = .ok (.iload_n 1, 1) := ckS_g gdX11_reasonOfLay_0 12 rfl
theorem dX11_reasonOfLay_25 : decode cX11_reasonOfLay 25 = .ok (.iaload, 1) := ckS_g gdX11_reasonOfLay_0 13 rfl
theorem dX11_reasonOfLay_26 : decode cX11_reasonOfLay 26 = .ok (.ifCond .le 6, 3) := ckS_g gdX11_reasonOfLay_0 14 rfl
theorem dX11_reasonOfLay_29 : decode cX11_reasonOfLay 29 = .ok (.bipush 11, 2) := ckS_g gdX11_reasonOfLay_0 15 rfl
theorem dX11_reasonOfLay_31 : decode cX11_reasonOfLay 31 = .ok (.ireturn, 1) := ckS_g gdX11_reasonOfLay_0 16 rfl
theorem dX11_reasonOfLay_32 : decode cX11_reasonOfLay 32 = .ok (.aload_n 0, 1) := ckS_g gdX11_reasonOfLay_0 17 rfl
theorem dX11_reasonOfLay_33 : decode cX11_reasonOfLay 33 = .ok (.iconst 2, 1) := ckS_g gdX11_reasonOfLay_0 18 rfl
theorem dX11_reasonOfLay_34 : decode cX11_reasonOfLay 34 = .ok (.iconst 3, 1) := ckS_g gdX11_reasonOfLay_0 19 rfl
theorem dX11_reasonOfLay_35 : decode cX11_reasonOfLay 35 = .ok (.invokevirtual 163, 3) := ckS_g gdX11_reasonOfLay_0 20 rfl
theorem dX11_reasonOfLay_38 : decode cX11_reasonOfLay 38 = .ok (.ifCond .eq 62, 3) := ckS_g gdX11_reasonOfLay_0 21 rfl
theorem dX11_reasonOfLay_41 : decode cX11_reasonOfLay 41 = .ok (.aload_n 0, 1) := ckS_g gdX11_reasonOfLay_0 22 rfl
theorem dX11_reasonOfLay_42 : decode cX11_reasonOfLay 42 = .ok (.getfield 55, 3) := ckS_g gdX11_reasonOfLay_0 23 rfl
theorem dX11_reasonOfLay_45 : decode cX11_reasonOfLay 45 = .ok (.aload_n 0, 1) := ckS_g gdX11_reasonOfLay_0 24 rfl
theorem dX11_reasonOfLay_46 : decode cX11_reasonOfLay 46 = .ok (.getfield 75, 3) := ckS_g gdX11_reasonOfLay_0 25 rfl
theorem dX11_reasonOfLay_49 : decode cX11_reasonOfLay 49 = .ok (.iconst 0, 1) := ckS_g gdX11_reasonOfLay_0 26 rfl
theorem dX11_reasonOfLay_50 : decode cX11_reasonOfLay 50 = .ok (.iaload, 1) := ckS_g gdX11_reasonOfLay_0 27 rfl
theorem dX11_reasonOfLay_51 : decode cX11_reasonOfLay 51 = .ok (.baload, 1) := ckS_g gdX11_reasonOfLay_0 28 rfl
theorem dX11_reasonOfLay_52 : decode cX11_reasonOfLay 52 = .ok (.ifCond .ne 48, 3) := ckS_g gdX11_reasonOfLay_0 29 rfl
theorem dX11_reasonOfLay_55 : decode cX11_reasonOfLay 55 = .ok (.aload_n 0, 1) := ckS_g gdX11_reasonOfLay_0 30 rfl
theorem dX11_reasonOfLay_56 : decode cX11_reasonOfLay 56 = .ok (.aload_n 0, 1) := ckS_g gdX11_reasonOfLay_0 31 rfl
theorem dX11_reasonOfLay_57 : decode cX11_reasonOfLay 57 = .ok (.getfield 22, 3) := ckS_g gdX11_reasonOfLay_0 32 rfl
theorem dX11_reasonOfLay_60 : decode cX11_reasonOfLay 60 = .ok (.aload_n 0, 1) := ckS_g gdX11_reasonOfLay_0 33 rfl
theorem dX11_reasonOfLay_61 : decode cX11_reasonOfLay 61 = .ok (.getfield 75, 3) := ckS_g gdX11_reasonOfLay_0 34 rfl
theorem dX11_reasonOfLay_64 : decode cX11_reasonOfLay 64 = .ok (.iconst 0, 1) := ckS_g gdX11_reasonOfLay_0 35 rfl
theorem dX11_reasonOfLay_65 : decode cX11_reasonOfLay 65 = .ok (.iaload, 1) := ckS_g gdX11_reasonOfLay_0 36 rfl
theorem dX11_reasonOfLay_66 : decode cX11_reasonOfLay 66 = .ok (.iaload, 1) := ckS_g gdX11_reasonOfLay_0 37 rfl
theorem dX11_reasonOfLay_67 : decode cX11_reasonOfLay 67 = .ok (.invokevirtual 184, 3) := ckS_g gdX11_reasonOfLay_0 38 rfl
theorem dX11_reasonOfLay_70 : decode cX11_reasonOfLay 70 = .ok (.ifCond .ne 5, 3) := ckS_g gdX11_reasonOfLay_0 39 rfl
theorem gdX11_reasonOfLay_73 : ckS (List.drop 73 cX11_reasonOfLay.data.toList) 73 [(73, .iconst 1, 1), (74, .ireturn, 1), (75, .aload_n 0, 1), (76, .getfield 43, 3), (79, .aload_n 0, 1), (80, .getfield 75, 3), (83, .iconst 0, 1), (84, .iaload, 1), (85, .iaload, 1), (86, .aload_n 0, 1), (87, .getfield 37, 3), (90, .aload_n 0, 1), (91, .invokevirtual 155, 3), (94, .iaload, 1), (95, .if_icmp .le 5, 3), (98, .iconst 5, 1), (99, .ireturn, 1), (100, .aload_n 0, 1), (101, .invokevirtual 187, 3), (104, .iconst 1, 1), (105, .if_icmp .ne 15, 3), (108, .aload_n 0, 1), (109, .invokevirtual 190, 3), (112, .ifCond .eq 8, 3), (115, .bipush 10, 2), (117, .goto 4, 3), (120, .iconst 0, 1), (121, .ireturn, 1)] = true := by decide +kernel
theorem dX11_reasonOfLay_73 : decode cX11_reasonOfLay 73 = .ok (.iconst 1, 1) := ckS_g gdX11_reasonOfLay_73 0 rfl
theorem dX11_reasonOfLay_74 : decode cX11_reasonOfLay 74 = .ok (.ireturn, 1) := ckS_g gdX11_reasonOfLay_73 1 rfl
theorem dX11_reasonOfLay_75 : decode cX11_reasonOfLay 75 = .ok (.aload_n 0, 1) := ckS_g gdX11_reasonOfLay_73 2 rfl
theorem dX11_reasonOfLay_76 : decode cX11_reasonOfLay 76 = .ok (.getfield 43, 3) := ckS_g gdX11_reasonOfLay_73 3 rfl
theorem dX11_reasonOfLay_79 : decode cX11_reasonOfLay 79 = .ok (.aload_n 0, 1) := ckS_g gdX11_reasonOfLay_73 4 rfl
theorem dX11_reasonOfLay_80 : decode cX11_reasonOfLay 80 = .ok (.getfield 75, 3) := ckS_g gdX11_reasonOfLay_73 5 rfl
theorem dX11_reasonOfLay_83 : decode cX11_reasonOfLay 83 = .ok (.iconst 0, 1) := ckS_g gdX11_reasonOfLay_73 6 rfl
theorem dX11_reasonOfLay_84 : decode cX11_reasonOfLay 84 = .ok (.iaload, 1) := ckS_g gdX11_reasonOfLay_73 7 rfl
theorem dX11_reasonOfLay_85 : decode cX11_reasonOfLay 85 = .ok (.iaload, 1) := ckS_g gdX11_reasonOfLay_73 8 rfl
theorem dX11_reasonOfLay_86 : decode cX11_reasonOfLay 86 = .ok (.aload_n 0, 1) := ckS_g gdX11_reasonOfLay_73 9 rfl
theorem dX11_reasonOfLay_87 : decode cX11_reasonOfLay 87 = .ok (.getfield 37, 3) := ckS_g gdX11_reasonOfLay_73 10 rfl
theorem dX11_reasonOfLay_90 : decode cX11_reasonOfLay 90 = .ok (.aload_n 0, 1) := ckS_g gdX11_reasonOfLay_73 11 rfl
theorem dX11_reasonOfLay_91 : decode cX11_reasonOfLay 91 = .ok (.invokevirtual 155, 3) := ckS_g gdX11_reasonOfLay_73 12 rfl
theorem dX11_reasonOfLay_94 : decode cX11_reasonOfLay 94 = .ok (.iaload, 1) := ckS_g gdX11_reasonOfLay_73 13 rfl
theorem dX11_reasonOfLay_95 : decode cX11_reasonOfLay 95 = .ok (.if_icmp .le 5, 3) := ckS_g gdX11_reasonOfLay_73 14 rfl
theorem dX11_reasonOfLay_98 : decode cX11_reasonOfLay 98 = .ok (.iconst 5, 1) := ckS_g gdX11_reasonOfLay_73 15 rfl
theorem dX11_reasonOfLay_99 : decode cX11_reasonOfLay 99 = .ok (.ireturn, 1) := ckS_g gdX11_reasonOfLay_73 16 rfl
theorem dX11_reasonOfLay_100 : decode cX11_reasonOfLay 100 = .ok (.aload_n 0, 1) := ckS_g gdX11_reasonOfLay_73 17 rfl
theorem dX11_reasonOfLay_101 : decode cX11_reasonOfLay 101 = .ok (.invokevirtual 187, 3) := ckS_g gdX11_reasonOfLay_73 18 rfl
theorem dX11_reasonOfLay_104 : decode cX11_reasonOfLay 104 = .ok (.iconst 1, 1) := ckS_g gdX11_reasonOfLay_73 19 rfl
theorem dX11_reasonOfLay_105 : decode cX11_reasonOfLay 105 = .ok (.if_icmp .ne 15, 3) := ckS_g gdX11_reasonOfLay_73 20 rfl
theorem dX11_reasonOfLay_108 : decode cX11_reasonOfLay 108 = .ok (.aload_n 0, 1) := ckS_g gdX11_reasonOfLay_73 21 rfl
theorem dX11_reasonOfLay_109 : decode cX11_reasonOfLay 109 = .ok (.invokevirtual 190, 3) := ckS_g gdX11_reasonOfLay_73 22 rfl
theorem dX11_reasonOfLay_112 : decode cX11_reasonOfLay 112 = .ok (.ifCond .eq 8, 3) := ckS_g gdX11_reasonOfLay_73 23 rfl
theorem dX11_reasonOfLay_115 : decode cX11_reasonOfLay 115 = .ok (.bipush 10, 2) := ckS_g gdX11_reasonOfLay_73 24 rfl
theorem dX11_reasonOfLay_117 : decode cX11_reasonOfLay 117 = .ok (.goto 4, 3) := ckS_g gdX11_reasonOfLay_73 25 rfl
theorem dX11_reasonOfLay_120 : decode cX11_reasonOfLay 120 = .ok (.iconst 0, 1) := ckS_g gdX11_reasonOfLay_73 26 rfl
theorem dX11_reasonOfLay_121 : decode cX11_reasonOfLay 121 = .ok (.ireturn, 1) := ckS_g gdX11_reasonOfLay_73 27 rfl
set_option maxRecDepth 100000 in
theorem z100 : wZ (.selects RX11 yX11_isAbout yX11_isAbout) := ⟨List.mem_append_left _ (List.mem_of_getElem? (i := 8) (by decide +kernel)), Or.inl rfl⟩
set_option maxRecDepth 100000 in
theorem z101 : wZ (.instanceMethod yX11_isAbout) := ⟨wT6 (List.mem_of_getElem? (i := 31) (by decide +kernel)), Or.inl rfl⟩
set_option maxRecDepth 100000 in
theorem z102 : wZ (.methodLink RX11 184 yX11_isAbout) := ⟨wT6 (List.mem_of_getElem? (i := 29) (by decide +kernel)), Or.inl rfl⟩
set_option maxRecDepth 100000 in
theorem z103 : wZ (.selects RX11 yX11_wantsPlace yX11_wantsPlace) := ⟨List.mem_append_left _ (List.mem_of_getElem? (i := 10) (by decide +kernel)), Or.inl rfl⟩
set_option maxRecDepth 100000 in
theorem z104 : wZ (.instanceMethod yX11_wantsPlace) := ⟨wT6 (List.mem_of_getElem? (i := 39) (by decide +kernel)), Or.inl rfl⟩
set_option maxRecDepth 100000 in
theorem z105 : wZ (.methodLink RX11 190 yX11_wantsPlace) := ⟨wT6 (List.mem_of_getElem? (i := 37) (by decide +kernel)), Or.inl rfl⟩
set_option maxRecDepth 100000 in
theorem z106 : wZ (.selects RX11 yX11_freePlaces yX11_freePlaces) := ⟨List.mem_append_left _ (List.mem_of_getElem? (i := 9) (by decide +kernel)), Or.inl rfl⟩
set_option maxRecDepth 100000 in
theorem z107 : wZ (.instanceMethod yX11_freePlaces) := ⟨wT6 (List.mem_of_getElem? (i := 35) (by decide +kernel)), Or.inl rfl⟩
set_option maxRecDepth 100000 in
theorem z108 : wZ (.methodLink RX11 187 yX11_freePlaces) := ⟨wT6 (List.mem_of_getElem? (i := 33) (by decide +kernel)), Or.inl rfl⟩
set_option maxRecDepth 100000 in
theorem z109 : wZ (.code yX11_reasonOfLay cX11_reasonOfLay 2 (some .int)) := ⟨wT6 (List.mem_of_getElem? (i := 28) rfl), Or.inl rfl⟩
def b_X11_reasonOfLay_29 (S : HS) (x1 : Int32) : Int32 × HS := (11, S)
def q_X11_reasonOfLay_29 (S : HS) (x1 : Int32) : Prop := True
def b_X11_reasonOfLay_121 (S : HS) (x1 y0 : Int32) : Int32 × HS := (y0, S)
def q_X11_reasonOfLay_121 (S : HS) (x1 y0 : Int32) : Prop := True
def b_X11_reasonOfLay_120 (S : HS) (x1 : Int32) : Int32 × HS := (b_X11_reasonOfLay_121 S x1 0)
def q_X11_reasonOfLay_120 (S : HS) (x1 : Int32) : Prop := (q_X11_reasonOfLay_121 S x1 0)
def b_X11_reasonOfLay_a112 (S : HS) (x1 y0 : Int32) : Int32 × HS := if y0 = 0 then (b_X11_reasonOfLay_120 S x1) else (b_X11_reasonOfLay_121 S x1 10)
def q_X11_reasonOfLay_a112 (S : HS) (x1 y0 : Int32) : Prop := (if y0 = 0 then (q_X11_reasonOfLay_120 S x1) else (q_X11_reasonOfLay_121 S x1 10))
def b_X11_reasonOfLay_a104 (S : HS) (x1 y0 : Int32) : Int32 × HS := if y0 = 1 then (b_X11_reasonOfLay_a112 (f_X11_wantsPlace S ).2 x1 (f_X11_wantsPlace S ).1) else (b_X11_reasonOfLay_120 S x1)
def q_X11_reasonOfLay_a104 (S : HS) (x1 y0 : Int32) : Prop := (if y0 = 1 then (p_X11_wantsPlace S ) ∧ (q_X11_reasonOfLay_a112 (f_X11_wantsPlace S ).2 x1 (f_X11_wantsPlace S ).1) else (q_X11_reasonOfLay_120 S x1))
def b_X11_reasonOfLay_100 (S : HS) (x1 : Int32) : Int32 × HS := (b_X11_reasonOfLay_a104 (f_X11_freePlaces S ).2 x1 (f_X11_freePlaces S ).1)
def q_X11_reasonOfLay_100 (S : HS) (x1 : Int32) : Prop := (p_X11_freePlaces S ) ∧ (q_X11_reasonOfLay_a104 (f_X11_freePlaces S ).2 x1 (f_X11_freePlaces S ).1)
def b_X11_reasonOfLay_a94 (S : HS) (x1 y0 y1 : Int32) : Int32 × HS := if y1 ≤ (S.2 19 y0.toNatClampNeg) then (b_X11_reasonOfLay_100 S x1) else (5, S)
def q_X11_reasonOfLay_a94 (S : HS) (x1 y0 y1 : Int32) : Prop := (vp_in y0 90) ∧ (if y1 ≤ (S.2 19 y0.toNatClampNeg) then (q_X11_reasonOfLay_100 S x1) else True)
def b_X11_reasonOfLay_a70 (S : HS) (x1 y0 : Int32) : Int32 × HS := if y0 = 0 then (1, S) else (b_X11_reasonOfLay_a94 (f_X11_top S ).2 x1 (f_X11_top S ).1 (S.2 21 (S.2 32 (0 : Int32).toNatClampNeg).toNatClampNeg))
def q_X11_reasonOfLay_a70 (S : HS) (x1 y0 : Int32) : Prop := (if y0 = 0 then True else (vp_in 0 9) ∧ (vp_in (S.2 32 (0 : Int32).toNatClampNeg) 90) ∧ (p_X11_top S ) ∧ (q_X11_reasonOfLay_a94 (f_X11_top S ).2 x1 (f_X11_top S ).1 (S.2 21 (S.2 32 (0 : Int32).toNatClampNeg).toNatClampNeg)))
def b_X11_reasonOfLay_a38 (S : HS) (x1 y0 : Int32) : Int32 × HS := if y0 = 0 then (b_X11_reasonOfLay_100 S x1) else if (S.2 25 (S.2 32 (0 : Int32).toNatClampNeg).toNatClampNeg) = 0 then (b_X11_reasonOfLay_a70 (f_X11_isAbout S (S.2 14 (S.2 32 (0 : Int32).toNatClampNeg).toNatClampNeg)).2 x1 (f_X11_isAbout S (S.2 14 (S.2 32 (0 : Int32).toNatClampNeg).toNatClampNeg)).1) else (b_X11_reasonOfLay_100 S x1)
def q_X11_reasonOfLay_a38 (S : HS) (x1 y0 : Int32) : Prop := (if y0 = 0 then (q_X11_reasonOfLay_100 S x1) else (vp_in 0 9) ∧ (vp_in (S.2 32 (0 : Int32).toNatClampNeg) 90) ∧ (if (S.2 25 (S.2 32 (0 : Int32).toNatClampNeg).toNatClampNeg) = 0 then (vp_in 0 9) ∧ (vp_in (S.2 32 (0 : Int32).toNatClampNeg) 90) ∧ (p_X11_isAbout S (S.2 14 (S.2 32 (0 : Int32).toNatClampNeg).toNatClampNeg)) ∧ (q_X11_reasonOfLay_a70 (f_X11_isAbout S (S.2 14 (S.2 32 (0 : Int32).toNatClampNeg).toNatClampNeg)).2 x1 (f_X11_isAbout S (S.2 14 (S.2 32 (0 : Int32).toNatClampNeg).toNatClampNeg)).1) else (q_X11_reasonOfLay_100 S x1)))
def f_X11_reasonOfLay (S : HS) (x1 : Int32) : Int32 × HS := if (f_X12_in x1 0 7) = 0 then (9, S) else if (S.1 35) = 0 then (b_X11_reasonOfLay_29 S x1) else if (S.2 34 x1.toNatClampNeg) ≤ 0 then (b_X11_reasonOfLay_a38 (f_X11_hasDraft S 2 3).2 x1 (f_X11_hasDraft S 2 3).1) else (b_X11_reasonOfLay_29 S x1)
def p_X11_reasonOfLay (S : HS) (x1 : Int32) : Prop := (p_X12_in x1 0 7) ∧ (if (f_X12_in x1 0 7) = 0 then True else (if (S.1 35) = 0 then (q_X11_reasonOfLay_29 S x1) else (vp_in x1 8) ∧ (if (S.2 34 x1.toNatClampNeg) ≤ 0 then (p_X11_hasDraft S 2 3) ∧ (q_X11_reasonOfLay_a38 (f_X11_hasDraft S 2 3).2 x1 (f_X11_hasDraft S 2 3).1) else (q_X11_reasonOfLay_29 S x1))))
def e_X11_reasonOfLay : List Cond := [.initialized RX12, .static yX12_in, .fieldLink RX11 130 "MotionFloorModel$Hall" "drafted" "I", .fieldLink RX11 81 "MotionFloorModel$Hall" "lying" "[I", .methodLink RX11 163 yX11_hasDraft, .instanceMethod yX11_hasDraft, .selects RX11 yX11_hasDraft yX11_hasDraft, .initialized RX11, .methodLink RX11 187 yX11_freePlaces, .instanceMethod yX11_freePlaces, .selects RX11 yX11_freePlaces yX11_freePlaces, .methodLink RX11 190 yX11_wantsPlace, .instanceMethod yX11_wantsPlace, .selects RX11 yX11_wantsPlace yX11_wantsPlace, .fieldLink RX11 55 "MotionFloorModel$Hall" "laid" "[Z", .fieldLink RX11 75 "MotionFloorModel$Hall" "draft" "[I", .fieldLink RX11 22 "MotionFloorModel$Hall" "kind" "[I", .methodLink RX11 184 yX11_isAbout, .instanceMethod yX11_isAbout, .selects RX11 yX11_isAbout yX11_isAbout, .fieldLink RX11 43 "MotionFloorModel$Hall" "to" "[I", .fieldLink RX11 37 "MotionFloorModel$Hall" "words" "[I", .methodLink RX11 155 yX11_top, .instanceMethod yX11_top, .selects RX11 yX11_top yX11_top]
def v_X11_reasonOfLay : List Cond := .code yX11_reasonOfLay cX11_reasonOfLay 2 (some .int) :: (e_X11_reasonOfLay ++ (wsX110 ++ (v_X12_in ++ (v_X11_hasDraft ++ (v_X11_freePlaces ++ (v_X11_wantsPlace ++ (v_X11_isAbout ++ (v_X11_top ++ []))))))))
theorem te_X11_reasonOfLay : GoodIn lw_tbl e_X11_reasonOfLay := wGc z1 (wGc z2 (wGc z86 (wGc z81 (wGc z98 (wGc z97 (wGc z96 (wGc z51 (wGc z108 (wGc z107 (wGc z106 (wGc z105 (wGc z104 (wGc z103 (wGc z72 (wGc z84 (wGc z78 (wGc z102 (wGc z101 (wGc z100 (wGc z74 (wGc z76 (wGc z91 (wGc z90 (wGc z89 (wG0)))))))))))))))))))))))))
theorem t_X11_reasonOfLay : GoodIn lw_tbl v_X11_reasonOfLay := wGc z109 (wGa te_X11_reasonOfLay (wGa zcX11 (wGa t_X12_in (wGa t_X11_hasDraft (wGa t_X11_freePlaces (wGa t_X11_wantsPlace (wGa t_X11_isAbout (wGa t_X11_top (wG0)))))))))
set_option maxHeartbeats 4000000 in
set_option maxRecDepth 100000 in
theorem c_X11_reasonOfLay (l : Launch) (G : va_G) (K : Nat → ClassId) (h : Nat) (g : Nat → Nat) (S0 : HS) (a1 : Int32) (sz : Nat) : Met l yX11_reasonOfLay v_X11_reasonOfLay ({ frames := 2, cells := 0, slots := 0, locals := 44 }) (va_Pc [.ref h, .int a1] (hS G K h g sz S0 (p_X11_reasonOfLay S0 a1))) (va_Qi (fun (r : Int32) (u : HS) => (r, u) = f_X11_reasonOfLay S0 a1) (hB G K h g (va_A (hW K h g S0) sz)) (va_A (hW K h g S0) sz)) 0 0 (va_A (hW K h g S0) sz) := by
  refine Met.ofW (cc := cX11_reasonOfLay) (maxL := 2) (ret := (some .int)) (by decide) rfl ?_
  intro p e s m args below meth c s₁ B hml hv
  obtain ⟨rfl, ⟨hsz, hP, hK, hD0, hTE⟩, hp⟩ := hv
  have hx := B.exec
  have hb := B.bytes
  have hr := B.returns
  have hts := atoms_spec (ws := v_X11_reasonOfLay) B.pre
  have t_ := t_X11_reasonOfLay
  have mw : ∀ w ∈ e_X11_reasonOfLay, w ∈ v_X11_reasonOfLay := fun w h => List.mem_cons_of_mem _ (List.mem_append_left _ h)
  have hw := fun w (h : w ∈ e_X11_reasonOfLay) => hts w (mw w h)
  have iX11 : ∀ w ∈ wsX110, w ∈ v_X11_reasonOfLay := fun w h => List.mem_cons_of_mem _ (List.mem_append_right _ (List.mem_append_left _ h))
  have j_X12_in : ∀ w ∈ v_X12_in, w ∈ v_X11_reasonOfLay := fun w h => List.mem_cons_of_mem _ (List.mem_append_right _ (List.mem_append_right _ (List.mem_append_left _ h)))
  have j_X11_hasDraft : ∀ w ∈ v_X11_hasDraft, w ∈ v_X11_reasonOfLay := fun w h => List.mem_cons_of_mem _ (List.mem_append_right _ (List.mem_append_right _ (List.mem_append_right _ (List.mem_append_left _ h))))
  have j_X11_freePlaces : ∀ w ∈ v_X11_freePlaces, w ∈ v_X11_reasonOfLay := fun w h => List.mem_cons_of_mem _ (List.mem_append_right _ (List.mem_append_right _ (List.mem_append_right _ (List.mem_append_right _ (List.mem_append_left _ h)))))
  have j_X11_wantsPlace : ∀ w ∈ v_X11_wantsPlace, w ∈ v_X11_reasonOfLay := fun w h => List.mem_cons_of_mem _ (List.mem_append_right _ (List.mem_append_right _ (List.mem_append_right _ (List.mem_append_right _ (List.mem_append_right _ (List.mem_append_left _ h))))))
  have j_X11_isAbout : ∀ w ∈ v_X11_isAbout, w ∈ v_X11_reasonOfLay := fun w h => List.mem_cons_of_mem _ (List.mem_append_right _ (List.mem_append_right _ (List.mem_append_right _ (List.mem_append_right _ (List.mem_append_right _ (List.mem_append_right _ (List.mem_append_left _ h)))))))
  have j_X11_top : ∀ w ∈ v_X11_top, w ∈ v_X11_reasonOfLay := fun w h => List.mem_cons_of_mem _ (List.mem_append_right _ (List.mem_append_right _ (List.mem_append_right _ (List.mem_append_right _ (List.mem_append_right _ (List.mem_append_right _ (List.mem_append_right _ (List.mem_append_left _ h))))))))
  have hown : s.vm.findClass RX11 = some m.cls := findClass_of_methodNamed B.named
  have hlocks := B.notSynchronized
  subst hsz
  have hD := hD0.self (sz := s.heap.size)
  generalize hAe : va_A (hW K h g S0) s.heap.size = A at hD ⊢
  have hA : ∀ q : Nat, s.heap.size ≤ q → A q := fun q h => by rw [← hAe]; exact Or.inr h
  have hS : va_S A s.heap s.heap [] := va_S.rf
  have hl := lv_entry ([.ref h, .int a1]) (n := 2) (Nat.le_of_ble_eq_true rfl)
  rw [lg_entry_eq]
  generalize (lg_sl ([.ref h, .int a1]) ++ List.replicate (2 - (lg_sl ([.ref h, .int a1])).length) Slot.unset).toArray = ls at hl ⊢
  have hl : lv_has ls 2 [(0, .ref h), (1, .int a1)] := hl
  refine wGen (fun Q hQ => ?_)
  obtain ⟨X, hX⟩ : ∃ X, f_X11_reasonOfLay S0 a1 = X := ⟨_, rfl⟩
  have B_29 : ∀ (S : HS) (x1 : Int32) (H : Heap) (locs : List Loc) (ls : Array Slot), b_X11_reasonOfLay_29 S x1 = X → q_X11_reasonOfLay_29 S x1 → va_P G vwCl (hW K h g S) H → va_D A (hW K h g S) → va_S A s.heap H locs → lv_has ls 2 [(0, .ref h), (1, .int x1)] → W p l e ({ frames := 2, cells := 0, slots := 0, locals := 44 } : Room) s m #[Value.ref h, Value.int a1] below meth c H locs 0 0 Q (F0 m 29 ls []) := by
    intro S x1 H locs ls hE hp hP hD hS hl
    unfold b_X11_reasonOfLay_29 at hE
    unfold q_X11_reasonOfLay_29 at hp
    refine lv_bipush (v := 11) hx hb dX11_reasonOfLay_29 (by decide) ?_
    subst hQ
    exact W.iret (v := 11) hx hb hr (fun t ht hW => ⟨⟨11, S, rfl, hE.trans hX.symm, by rw [ht]; exact hP, hD⟩, hS.F ht⟩) hS.2.2 dX11_reasonOfLay_31
  have B_121 : ∀ (S : HS) (x1 y0 : Int32) (H : Heap) (locs : List Loc) (ls : Array Slot), b_X11_reasonOfLay_121 S x1 y0 = X → q_X11_reasonOfLay_121 S x1 y0 → va_P G vwCl (hW K h g S) H → va_D A (hW K h g S) → va_S A s.heap H locs → lv_has ls 2 [(0, .ref h), (1, .int x1)] → W p l e ({ frames := 2, cells := 0, slots := 0, locals := 44 } : Room) s m #[Value.ref h, Value.int a1] below meth c H locs 0 0 Q (F0 m 121 ls [.int y0]) := by
    intro S x1 y0 H locs ls hE hp hP hD hS hl
    unfold b_X11_reasonOfLay_121 at hE
    unfold q_X11_reasonOfLay_121 at hp
    subst hQ
    exact W.iret (v := y0) hx hb hr (fun t ht hW => ⟨⟨y0, S, rfl, hE.trans hX.symm, by rw [ht]; exact hP, hD⟩, hS.F ht⟩) hS.2.2 dX11_reasonOfLay_121
  have B_120 : ∀ (S : HS) (x1 : Int32) (H : Heap) (locs : List Loc) (ls : Array Slot), b_X11_reasonOfLay_120 S x1 = X → q_X11_reasonOfLay_120 S x1 → va_P G vwCl (hW K h g S) H → va_D A (hW K h g S) → va_S A s.heap H locs → lv_has ls 2 [(0, .ref h), (1, .int x1)] → W p l e ({ frames := 2, cells := 0, slots := 0, locals := 44 } : Room) s m #[Value.ref h, Value.int a1] below meth c H locs 0 0 Q (F0 m 120 ls []) := by
    intro S x1 H locs ls hE hp hP hD hS hl
    unfold b_X11_reasonOfLay_120 at hE
    unfold q_X11_reasonOfLay_120 at hp
    refine lv_iconst (v := 0) hx hb dX11_reasonOfLay_120 (by decide) ?_
    exact B_121 S x1 0 _ _ _ hE hp hP hD hS (lv_sub hl [0, 1] rfl)
  have B_100 : ∀ (S : HS) (x1 : Int32) (H : Heap) (locs : List Loc) (ls : Array Slot), b_X11_reasonOfLay_100 S x1 = X → q_X11_reasonOfLay_100 S x1 → va_P G vwCl (hW K h g S) H → va_D A (hW K h g S) → va_S A s.heap H locs → lv_has ls 2 [(0, .ref h), (1, .int x1)] → W p l e ({ frames := 2, cells := 0, slots := 0, locals := 44 } : Room) s m #[Value.ref h, Value.int a1] below meth c H locs 0 0 Q (F0 m 100 ls []) := by
    intro S x1 H locs ls hE hp hP hD hS hl
    unfold b_X11_reasonOfLay_100 at hE
    unfold q_X11_reasonOfLay_100 at hp
    refine lv_aload_n hx hb dX11_reasonOfLay_100 rfl (lv_at hl 0 rfl) ?_
    obtain ⟨hy10, hp⟩ := hp
    refine hGoi (va_runV (As := []) (rest := []) ⟨hx, hb, hml, hown, hts⟩ (c_X11_freePlaces l G K h g S _) (cwV 0 hts (wGV t_ (mw (.methodLink RX11 187 yX11_freePlaces) (List.mem_of_getElem? (i := 8) rfl)) (mw (.instanceMethod yX11_freePlaces) (List.mem_of_getElem? (i := 9) rfl)) (mw (.selects RX11 yX11_freePlaces yX11_freePlaces) (List.mem_of_getElem? (i := 10) rfl)) (mw (.initialized RX11) (List.mem_of_getElem? (i := 7) rfl)) j_X11_freePlaces) rfl rfl rfl (by decide +kernel) ⟨Nat.le_of_ble_eq_true rfl, Nat.le_of_ble_eq_true rfl⟩) (hPV hK hTE hP hD hy10) rfl rfl hl.1 rfl (lv_room (Nat.le_of_ble_eq_true rfl)) dX11_reasonOfLay_101 ⟨Nat.le_of_ble_eq_true rfl, Nat.le_of_ble_eq_true rfl⟩) hP hD hS hA (fun r12 u11 H locs hv hP hD hS => ?_)
    rw [← hv] at hE hp
    dsimp only at hE hp
    unfold b_X11_reasonOfLay_a104 at hE
    unfold q_X11_reasonOfLay_a104 at hp
    refine lv_iconst (v := 1) hx hb dX11_reasonOfLay_104 (by decide) ?_
    refine lv_icmp_ne (tgt := 120) hx hb dX11_reasonOfLay_105 (by decide) (fun c13 => ?_) (fun c13 => ?_)
    · rw [if_neg c13] at hE hp
      exact B_120 u11 x1 _ _ _ hE hp hP hD hS (lv_sub hl [0, 1] rfl)
    · rw [if_pos c13] at hE hp
      refine lv_aload_n hx hb dX11_reasonOfLay_108 rfl (lv_at hl 0 rfl) ?_
      obtain ⟨hy14, hp⟩ := hp
      refine hGoi (va_runV (As := []) (rest := []) ⟨hx, hb, hml, hown, hts⟩ (c_X11_wantsPlace l G K h g u11 _) (cwV 0 hts (wGV t_ (mw (.methodLink RX11 190 yX11_wantsPlace) (List.mem_of_getElem? (i := 11) rfl)) (mw (.instanceMethod yX11_wantsPlace) (List.mem_of_getElem? (i := 12) rfl)) (mw (.selects RX11 yX11_wantsPlace yX11_wantsPlace) (List.mem_of_getElem? (i := 13) rfl)) (mw (.initialized RX11) (List.mem_of_getElem? (i := 7) rfl)) j_X11_wantsPlace) rfl rfl rfl (by decide +kernel) ⟨Nat.le_of_ble_eq_true rfl, Nat.le_of_ble_eq_true rfl⟩) (hPV hK hTE hP hD hy14) rfl rfl hl.1 rfl (lv_room (Nat.le_of_ble_eq_true rfl)) dX11_reasonOfLay_109 ⟨Nat.le_of_ble_eq_true rfl, Nat.le_of_ble_eq_true rfl⟩) hP hD hS hA (fun r16 u15 H locs hv hP hD hS => ?_)
      rw [← hv] at hE hp
      dsimp only at hE hp
      unfold b_X11_reasonOfLay_a112 at hE
      unfold q_X11_reasonOfLay_a112 at hp
      refine lv_if_eq (tgt := 120) hx hb dX11_reasonOfLay_112 (by decide) (fun c17 => ?_) (fun c17 => ?_)
      · rw [if_pos c17] at hE hp
        exact B_120 u15 x1 _ _ _ hE hp hP hD hS (lv_sub hl [0, 1] rfl)
      · rw [if_neg c17] at hE hp
        refine lv_bipush (v := 10) hx hb dX11_reasonOfLay_115 (by decide) ?_
        refine lv_goto (tgt := 121) hx hb dX11_reasonOfLay_117 (by decide) ?_
        exact B_121 u15 x1 10 _ _ _ hE hp hP hD hS (lv_sub hl [0, 1] rfl)
  have B_M : ∀ (S : HS) (x1 : Int32) (H : Heap) (locs : List Loc) (ls : Array Slot), f_X11_reasonOfLay S x1 = X → p_X11_reasonOfLay S x1 → va_P G vwCl (hW K h g S) H → va_D A (hW K h g S) → va_S A s.heap H locs → lv_has ls 2 [(0, .ref h), (1, .int x1)] → W p l e ({ frames := 2, cells := 0, slots := 0, locals := 44 } : Room) s m #[Value.ref h, Value.int a1] below meth c H locs 0 0 Q (F0 m 0 ls []) := by
    intro S x1 H locs ls hE hp hP hD hS hl
    unfold f_X11_reasonOfLay at hE
    unfold p_X11_reasonOfLay at hp
    refine lv_iload_n hx hb dX11_reasonOfLay_0 rfl (lv_at hl 1 rfl) ?_
    refine lv_iconst (v := 0) hx hb dX11_reasonOfLay_1 (by decide) ?_
    refine lv_bipush (v := 7) hx hb dX11_reasonOfLay_2 (by decide) ?_
    obtain ⟨hy1, hp⟩ := hp
    refine nGoi (va_runSN (As := [.int x1, .int 0, .int 7]) (rest := []) ⟨hx, hb, hml, hown, hts⟩ (c_X12_in l G K x1 0 7 _) ⟨va_cnB (host := "MotionFloorModel") 3 hts (wGP t_ j_X12_in) rfl rfl rfl hTE.2.2.2.2.2.2.2.2.2.1 (hw (.initialized RX12) (List.mem_of_getElem? (i := 0) rfl)) (by decide +kernel) ⟨Nat.le_of_ble_eq_true rfl, Nat.le_of_ble_eq_true rfl⟩, (hw (.static yX12_in) (List.mem_of_getElem? (i := 1) rfl)), trivial⟩ (nPS hK hTE hy1) rfl rfl hl.1 rfl (lv_room (Nat.le_of_ble_eq_true rfl)) dX11_reasonOfLay_4 ⟨Nat.le_of_ble_eq_true rfl, Nat.le_of_ble_eq_true rfl⟩) hP hS hA (fun r H locs hv hP hS => ?_)
    subst hv
    refine lv_if_ne (tgt := 13) hx hb dX11_reasonOfLay_7 (by decide) (fun c2 => ?_) (fun c2 => ?_)
    · rw [if_neg c2] at hE hp
      refine lv_aload_n hx hb dX11_reasonOfLay_13 rfl (lv_at hl 0 rfl) ?_
      refine va_get (D := G) (ci := 8) (v := .int (S.1 35)) (C := RX11) (T := TX11) (N := 42) hx hb hts iX11 hown hK hP 0 rfl rfl 35 (by decide) (hw (.fieldLink RX11 130 "MotionFloorModel$Hall" "drafted" "I") (List.mem_of_getElem? (i := 2) rfl)) (fun _ h9 => h9) rfl dX11_reasonOfLay_14 ?_
      refine lv_if_eq (tgt := 29) hx hb dX11_reasonOfLay_17 (by decide) (fun c3 => ?_) (fun c3 => ?_)
      · rw [if_pos c3] at hE hp
        exact B_29 S x1 _ _ _ hE hp hP hD hS (lv_sub hl [0, 1] rfl)
      · rw [if_neg c3] at hE hp
        refine lv_aload_n hx hb dX11_reasonOfLay_20 rfl (lv_at hl 0 rfl) ?_
        refine va_get (D := G) (ci := 8) (v := .ref (g 34)) (C := RX11) (T := TX11) (N := 42) hx hb hts iX11 hown hK hP 0 rfl rfl 34 (by decide) (hw (.fieldLink RX11 81 "MotionFloorModel$Hall" "lying" "[I") (List.mem_of_getElem? (i := 3) rfl)) (fun _ h9 => h9) rfl dX11_reasonOfLay_21 ?_
        refine lv_iload_n hx hb dX11_reasonOfLay_24 rfl (lv_at hl 1 rfl) ?_
        obtain ⟨hy4, hp⟩ := hp
        refine va_iald hx hb hK hP 23 0 rfl rfl hy4 dX11_reasonOfLay_25 ?_
        refine lv_if_le (tgt := 32) hx hb dX11_reasonOfLay_26 (by decide) (fun c5 => ?_) (fun c5 => ?_)
        · rw [if_pos c5] at hE hp
          refine lv_aload_n hx hb dX11_reasonOfLay_32 rfl (lv_at hl 0 rfl) ?_
          refine lv_iconst (v := 2) hx hb dX11_reasonOfLay_33 (by decide) ?_
          refine lv_iconst (v := 3) hx hb dX11_reasonOfLay_34 (by decide) ?_
          obtain ⟨hy6, hp⟩ := hp
          refine hGoi (va_runV (As := [.int 2, .int 3]) (rest := []) ⟨hx, hb, hml, hown, hts⟩ (c_X11_hasDraft l G K h g S 2 3 _) (cwV 2 hts (wGV t_ (mw (.methodLink RX11 163 yX11_hasDraft) (List.mem_of_getElem? (i := 4) rfl)) (mw (.instanceMethod yX11_hasDraft) (List.mem_of_getElem? (i := 5) rfl)) (mw (.selects RX11 yX11_hasDraft yX11_hasDraft) (List.mem_of_getElem? (i := 6) rfl)) (mw (.initialized RX11) (List.mem_of_getElem? (i := 7) rfl)) j_X11_hasDraft) rfl rfl rfl (by decide +kernel) ⟨Nat.le_of_ble_eq_true rfl, Nat.le_of_ble_eq_true rfl⟩) (hPV hK hTE hP hD hy6) rfl rfl hl.1 rfl (lv_room (Nat.le_of_ble_eq_true rfl)) dX11_reasonOfLay_35 ⟨Nat.le_of_ble_eq_true rfl, Nat.le_of_ble_eq_true rfl⟩) hP hD hS hA (fun r8 u7 H locs hv hP hD hS => ?_)
          rw [← hv] at hE hp
          dsimp only at hE hp
          unfold b_X11_reasonOfLay_a38 at hE
          unfold q_X11_reasonOfLay_a38 at hp
          refine lv_if_eq (tgt := 100) hx hb dX11_reasonOfLay_38 (by decide) (fun c9 => ?_) (fun c9 => ?_)
          · rw [if_pos c9] at hE hp
            exact B_100 u7 x1 _ _ _ hE hp hP hD hS (lv_sub hl [0, 1] rfl)
          · rw [if_neg c9] at hE hp
            refine lv_aload_n hx hb dX11_reasonOfLay_41 rfl (lv_at hl 0 rfl) ?_
            refine va_get (D := G) (ci := 8) (v := .ref (g 25)) (C := RX11) (T := TX11) (N := 42) hx hb hts iX11 hown hK hP 0 rfl rfl 25 (by decide) (hw (.fieldLink RX11 55 "MotionFloorModel$Hall" "laid" "[Z") (List.mem_of_getElem? (i := 14) rfl)) (fun _ h9 => h9) rfl dX11_reasonOfLay_42 ?_
            refine lv_aload_n hx hb dX11_reasonOfLay_45 rfl (lv_at hl 0 rfl) ?_
            refine va_get (D := G) (ci := 8) (v := .ref (g 32)) (C := RX11) (T := TX11) (N := 42) hx hb hts iX11 hown hK hP 0 rfl rfl 32 (by decide) (hw (.fieldLink RX11 75 "MotionFloorModel$Hall" "draft" "[I") (List.mem_of_getElem? (i := 15) rfl)) (fun _ h9 => h9) rfl dX11_reasonOfLay_46 ?_
            refine lv_iconst (v := 0) hx hb dX11_reasonOfLay_49 (by decide) ?_
            obtain ⟨hy24, hp⟩ := hp
            refine va_iald hx hb hK hP 21 0 rfl rfl hy24 dX11_reasonOfLay_50 ?_
            obtain ⟨hy25, hp⟩ := hp
            refine va_zald hx hb hK hP 15 1 rfl rfl hy25 dX11_reasonOfLay_51 ?_
            refine lv_if_ne (tgt := 100) hx hb dX11_reasonOfLay_52 (by decide) (fun c26 => ?_) (fun c26 => ?_)
            · rw [if_neg c26] at hE hp
              exact B_100 u7 x1 _ _ _ hE hp hP hD hS (lv_sub hl [0, 1] rfl)
            · rw [if_pos c26] at hE hp
              refine lv_aload_n hx hb dX11_reasonOfLay_55 rfl (lv_at hl 0 rfl) ?_
              refine lv_aload_n hx hb dX11_reasonOfLay_56 rfl (lv_at hl 0 rfl) ?_
              refine va_get (D := G) (ci := 8) (v := .ref (g 14)) (C := RX11) (T := TX11) (N := 42) hx hb hts iX11 hown hK hP 0 rfl rfl 14 (by decide) (hw (.fieldLink RX11 22 "MotionFloorModel$Hall" "kind" "[I") (List.mem_of_getElem? (i := 16) rfl)) (fun _ h9 => h9) rfl dX11_reasonOfLay_57 ?_
              refine lv_aload_n hx hb dX11_reasonOfLay_60 rfl (lv_at hl 0 rfl) ?_
              refine va_get (D := G) (ci := 8) (v := .ref (g 32)) (C := RX11) (T := TX11) (N := 42) hx hb hts iX11 hown hK hP 0 rfl rfl 32 (by decide) (hw (.fieldLink RX11 75 "MotionFloorModel$Hall" "draft" "[I") (List.mem_of_getElem? (i := 15) rfl)) (fun _ h9 => h9) rfl dX11_reasonOfLay_61 ?_
              refine lv_iconst (v := 0) hx hb dX11_reasonOfLay_64 (by decide) ?_
              obtain ⟨hy27, hp⟩ := hp
              refine va_iald hx hb hK hP 21 0 rfl rfl hy27 dX11_reasonOfLay_65 ?_
              obtain ⟨hy28, hp⟩ := hp
              refine va_iald hx hb hK hP 4 0 rfl rfl hy28 dX11_reasonOfLay_66 ?_
              obtain ⟨hy29, hp⟩ := hp
              refine hGoi (va_runV (As := [.int (u7.2 14 (u7.2 32 (0 : Int32).toNatClampNeg).toNatClampNeg)]) (rest := []) ⟨hx, hb, hml, hown, hts⟩ (c_X11_isAbout l G K h g u7 (u7.2 14 (u7.2 32 (0 : Int32).toNatClampNeg).toNatClampNeg) _) (cwV 1 hts (wGV t_ (mw (.methodLink RX11 184 yX11_isAbout) (List.mem_of_getElem? (i := 17) rfl)) (mw (.instanceMethod yX11_isAbout) (List.mem_of_getElem? (i := 18) rfl)) (mw (.selects RX11 yX11_isAbout yX11_isAbout) (List.mem_of_getElem? (i := 19) rfl)) (mw (.initialized RX11) (List.mem_of_getElem? (i := 7) rfl)) j_X11_isAbout) rfl rfl rfl (by decide +kernel) ⟨Nat.le_of_ble_eq_true rfl, Nat.le_of_ble_eq_true rfl⟩) (hPV hK hTE hP hD hy29) rfl rfl hl.1 rfl (lv_room (Nat.le_of_ble_eq_true rfl)) dX11_reasonOfLay_67 ⟨Nat.le_of_ble_eq_true rfl, Nat.le_of_ble_eq_true rfl⟩) hP hD hS hA (fun r31 u30 H locs hv hP hD hS => ?_)
              rw [← hv] at hE hp
              dsimp only at hE hp
              unfold b_X11_reasonOfLay_a70 at hE
              unfold q_X11_reasonOfLay_a70 at hp
              refine lv_if_ne (tgt := 75) hx hb dX11_reasonOfLay_70 (by decide) (fun c32 => ?_) (fun c32 => ?_)
              · rw [if_neg c32] at hE hp
                refine lv_aload_n hx hb dX11_reasonOfLay_75 rfl (lv_at hl 0 rfl) ?_
                refine va_get (D := G) (ci := 8) (v := .ref (g 21)) (C := RX11) (T := TX11) (N := 42) hx hb hts iX11 hown hK hP 0 rfl rfl 21 (by decide) (hw (.fieldLink RX11 43 "MotionFloorModel$Hall" "to" "[I") (List.mem_of_getElem? (i := 20) rfl)) (fun _ h9 => h9) rfl dX11_reasonOfLay_76 ?_
                refine lv_aload_n hx hb dX11_reasonOfLay_79 rfl (lv_at hl 0 rfl) ?_
                refine va_get (D := G) (ci := 8) (v := .ref (g 32)) (C := RX11) (T := TX11) (N := 42) hx hb hts iX11 hown hK hP 0 rfl rfl 32 (by decide) (hw (.fieldLink RX11 75 "MotionFloorModel$Hall" "draft" "[I") (List.mem_of_getElem? (i := 15) rfl)) (fun _ h9 => h9) rfl dX11_reasonOfLay_80 ?_
                refine lv_iconst (v := 0) hx hb dX11_reasonOfLay_83 (by decide) ?_
                obtain ⟨hy33, hp⟩ := hp
                refine va_iald hx hb hK hP 21 0 rfl rfl hy33 dX11_reasonOfLay_84 ?_
                obtain ⟨hy34, hp⟩ := hp
                refine va_iald hx hb hK hP 11 0 rfl rfl hy34 dX11_reasonOfLay_85 ?_
                refine lv_aload_n hx hb dX11_reasonOfLay_86 rfl (lv_at hl 0 rfl) ?_
                refine va_get (D := G) (ci := 8) (v := .ref (g 19)) (C := RX11) (T := TX11) (N := 42) hx hb hts iX11 hown hK hP 0 rfl rfl 19 (by decide) (hw (.fieldLink RX11 37 "MotionFloorModel$Hall" "words" "[I") (List.mem_of_getElem? (i := 21) rfl)) (fun _ h9 => h9) rfl dX11_reasonOfLay_87 ?_
                refine lv_aload_n hx hb dX11_reasonOfLay_90 rfl (lv_at hl 0 rfl) ?_
                obtain ⟨hy35, hp⟩ := hp
                refine hGoi (va_runV (As := []) (rest := [.ref (g 19), .int (u30.2 21 (u30.2 32 (0 : Int32).toNatClampNeg).toNatClampNeg)]) ⟨hx, hb, hml, hown, hts⟩ (c_X11_top l G K h g u30 _) (cwV 0 hts (wGV t_ (mw (.methodLink RX11 155 yX11_top) (List.mem_of_getElem? (i := 22) rfl)) (mw (.instanceMethod yX11_top) (List.mem_of_getElem? (i := 23) rfl)) (mw (.selects RX11 yX11_top yX11_top) (List.mem_of_getElem? (i := 24) rfl)) (mw (.initialized RX11) (List.mem_of_getElem? (i := 7) rfl)) j_X11_top) rfl rfl rfl (by decide +kernel) ⟨Nat.le_of_ble_eq_true rfl, Nat.le_of_ble_eq_true rfl⟩) (hPV hK hTE hP hD hy35) rfl rfl hl.1 rfl (lv_room (Nat.le_of_ble_eq_true rfl)) dX11_reasonOfLay_91 ⟨Nat.le_of_ble_eq_true rfl, Nat.le_of_ble_eq_true rfl⟩) hP hD hS hA (fun r37 u36 H locs hv hP hD hS => ?_)
                rw [← hv] at hE hp
                dsimp only at hE hp
                unfold b_X11_reasonOfLay_a94 at hE
                unfold q_X11_reasonOfLay_a94 at hp
                obtain ⟨hy38, hp⟩ := hp
                refine va_iald hx hb hK hP 9 0 rfl rfl hy38 dX11_reasonOfLay_94 ?_
                refine lv_icmp_le (tgt := 100) hx hb dX11_reasonOfLay_95 (by decide) (fun c39 => ?_) (fun c39 => ?_)
                · rw [if_pos c39] at hE hp
                  exact B_100 u36 x1 _ _ _ hE hp hP hD hS (lv_sub hl [0, 1] rfl)
                · rw [if_neg c39] at hE hp
                  refine lv_iconst (v := 5) hx hb dX11_reasonOfLay_98 (by decide) ?_
                  subst hQ
                  exact W.iret (v := 5) hx hb hr (fun t ht hW => ⟨⟨5, u36, rfl, hE.trans hX.symm, by rw [ht]; exact hP, hD⟩, hS.F ht⟩) hS.2.2 dX11_reasonOfLay_99
              · rw [if_pos c32] at hE hp
                refine lv_iconst (v := 1) hx hb dX11_reasonOfLay_73 (by decide) ?_
                subst hQ
                exact W.iret (v := 1) hx hb hr (fun t ht hW => ⟨⟨1, u30, rfl, hE.trans hX.symm, by rw [ht]; exact hP, hD⟩, hS.F ht⟩) hS.2.2 dX11_reasonOfLay_74
        · rw [if_neg c5] at hE hp
          exact B_29 S x1 _ _ _ hE hp hP hD hS (lv_sub hl [0, 1] rfl)
    · rw [if_pos c2] at hE hp
      refine lv_bipush (v := 9) hx hb dX11_reasonOfLay_10 (by decide) ?_
      subst hQ
      exact W.iret (v := 9) hx hb hr (fun t ht hW => ⟨⟨9, S, rfl, hE.trans hX.symm, by rw [ht]; exact hP, hD⟩, hS.F ht⟩) hS.2.2 dX11_reasonOfLay_12
  exact B_M S0 a1 _ _ _ hX hp hP hD hS hl
