theorem gdX12_lying_0 : ckS (List.drop 0 cX12_lying.data.toList) 0 [(0, .iload_n 1, 1), (1, .iconst 0, 1), (2, .bipush 7, 2), (4, .invokestatic 1, 3), (7, .ifCond .eq 15, 3), (10, .aload_n 0, 1), (11, .getfield 16, 3), (14, .getfield 107, 3), (17, .iload_n 1, 1), (18, .iaload, 1), (19, .ifCond .ne 5, 3), (22, .iconst (-1), 1), (23, .ireturn, 1), (24, .aload_n 0, 1), (25, .getfield 16, 3), (28, .getfield 110, 3), (31, .bipush 9, 2), (33, .iload_n 1, 1), (34, .imul, 1), (35, .iaload, 1), (36, .istore_n 3, 1), (37, .iload_n 2, 1), (38, .iconst 0, 1), (39, .aload_n 0, 1), (40, .getfield 16, 3), (43, .getfield 70, 3), (46, .iload_n 3, 1), (47, .iaload, 1), (48, .iconst 1, 1), (49, .isub, 1), (50, .invokestatic 1, 3), (53, .ifCond .eq 21, 3), (56, .aload_n 0, 1), (57, .getfield 16, 3), (60, .getfield 122, 3), (63, .sipush 400, 3), (66, .iload_n 3, 1), (67, .imul, 1), (68, .iload_n 2, 1), (69, .iadd, 1)] = true := by decide +kernel
theorem dX12_lying_0 : decode cX12_lying 0 = .ok (.iload_n 1, 1) := ckS_g gdX12_lying_0 0 rfl
theorem dX12_lying_1 : decode cX12_lying 1 = .ok (.iconst 0, 1) := ckS_g gdX12_lying_0 1 rfl
theorem dX12_lying_2 : decode cX12_lying 2 = .ok (.bipush 7, 2) := ckS_g gdX12_lying_0 2 rfl
theorem dX12_lying_4 : decode cX12_lying 4 = .ok (.invokestatic 1, 3) := ckS_g gdX12_lying_0 3 rfl
theorem dX12_lying_7 : decode cX12_lying 7 = .ok (.ifCond .eq 15, 3) := ckS_g gdX12_lying_0 4 rfl
theorem dX12_lying_10 : decode cX12_lying 10 = .ok (.aload_n 0, 1) := ckS_g gdX12_lying_0 5 rfl
theorem dX12_lying_11 : decode cX12_lying 11 = .ok (.getfield 16, 3) := ckS_g gdX12_lying_0 6 rfl
theorem dX12_lying_14 : decode cX12_lying 14 = .ok (.getfield 107, 3) := ckS_g gdX12_lying_0 7 rfl
theorem dX12_lying_17 : decode cX12_lying 17 = .ok (.iload_n 1, 1) := ckS_g gdX12_lying_0 8 rfl
theorem dX12_lying_18 : decode cX12_lying 18 = .ok (.iaload, 1) := ckS_g gdX12_lying_0 9 rfl
theorem dX12_lying_19 : decode cX12_lying 19 = .ok (.ifCond .ne 5, 3) := ckS_g gdX12_lying_0 10 rfl
theorem dX12_lying_22 : decode cX12_lying 22 = .ok (.iconst (-1), 1) := ckS_g gdX12_lying_0 11 rfl
theorem dX12_lying_23 : decode cX12_lying 23 = .ok (.ireturn, 1) := ckS_g gdX12_lying_0 12 rfl
theorem dX12_lying_24 : decode cX12_lying 24 = .ok (.aload_n 0, 1) := ckS_g gdX12_lying_0 13 rfl
theorem dX12_lying_25 : decode cX12_lying 25 = .ok (.getfield 16, 3) := ckS_g gdX12_lying_0 14 rfl
theorem dX12_lying_28 : decode cX12_lying 28 = .ok (.getfield 110, 3) := ckS_g gdX12_lying_0 15 rfl
theorem dX12_lying_31 : decode cX12_lying 31 = .ok (.bipush 9, 2) := ckS_g gdX12_lying_0 16 rfl
theorem dX12_lying_33 : decode cX12_lying 33 = .ok (.iload_n 1, 1) := ckS_g gdX12_lying_0 17 rfl
theorem dX12_lying_34 : decode cX12_lying 34 = .ok (.imul, 1) := ckS_g gdX12_lying_0 18 rfl
theorem dX12_lying_35 : decode cX12_lying 35 = .ok (.iaload, 1) := ckS_g gdX12_lying_0 19 rfl
theorem dX12_lying_36 : decode cX12_lying 36 = .ok (.istore_n 3, 1) := ckS_g gdX12_lying_0 20 rfl
theorem dX12_lying_37 : decode cX12_lying 37 = .ok (.iload_n 2, 1) := ckS_g gdX12_lying_0 21 rfl
theorem dX12_lying_38 : decode cX12_lying 38 = .ok (.iconst 0, 1) := ckS_g gdX12_lying_0 22 rfl
theorem dX12_lying_39 : decode cX12_lying 39 = .ok (.aload_n 0, 1) := ckS_g gdX12_lying_0 23 rfl
theorem dX12_lying_40 : decode cX12_lying 40 = .ok (.getfield 16, 3) := ckS_g gdX12_lying_0 24 rfl
theorem dX12_lying_43 : decode cX12_lying 43 = .ok (.getfield 70, 3) := ckS_g gdX12_lying_0 25 rfl
theorem dX12_lying_46 : decode cX12_lying 46 = .ok (.iload_n 3, 1) := ckS_g gdX12_lying_0 26 rfl
theorem dX12_lying_47 : decode cX12_lying 47 = .ok (.iaload, 1) := ckS_g gdX12_lying_0 27 rfl
theorem dX12_lying_48 : decode cX12_lying 48 = .ok (.iconst 1, 1) := ckS_g gdX12_lying_0 28 rfl
theorem dX12_lying_49 : decode cX12_lying 49 = .ok (.isub, 1) := ckS_g gdX12_lying_0 29 rfl
theorem dX12_lying_50 : decode cX12_lying 50 = .ok (.invokestatic 1, 3) := ckS_g gdX12_lying_0 30 rfl
theorem dX12_lying_53 : decode cX12_lying 53 = .ok (.ifCond .eq 21, 3) := ckS_g gdX12_lying_0 31 rfl
theorem dX12_lying_56 : decode cX12_lying 56 = .ok (.aload_n 0, 1) := ckS_g gdX12_lying_0 32 rfl
theorem dX12_lying_57 : decode cX12_lying 57 = .ok (.getfield 16, 3) := ckS_g gdX12_lying_0 33 rfl
theorem dX12_lying_60 : decode cX12_lying 60 = .ok (.getfield 122, 3) := ckS_g gdX12_lying_0 34 rfl
theorem dX12_lying_63 : decode cX12_lying 63 = .ok (.sipush 400, 3) := ckS_g gdX12_lying_0 35 rfl
theorem dX12_lying_66 : decode cX12_lying 66 = .ok (.iload_n 3, 1) := ckS_g gdX12_lying_0 36 rfl
theorem dX12_lying_67 : decode cX12_lying 67 = .ok (.imul, 1) := ckS_g gdX12_lying_0 37 rfl
theorem dX12_lying_68 : decode cX12_lying 68 = .ok (.iload_n 2, 1) := ckS_g gdX12_lying_0 38 rfl
theorem dX12_lying_69 : decode cX12_lying 69 = .ok (.iadd, 1) := ckS_g gdX12_lying_0 39 rfl
theorem gdX12_lying_70 : ckS (List.drop 70 cX12_lying.data.toList) 70 [(70, .iaload, 1), (71, .goto 4, 3), (74, .iconst (-1), 1), (75, .ireturn, 1)] = true := by decide +kernel
theorem dX12_lying_70 : decode cX12_lying 70 = .ok (.iaload, 1) := ckS_g gdX12_lying_70 0 rfl
theorem dX12_lying_71 : decode cX12_lying 71 = .ok (.goto 4, 3) := ckS_g gdX12_lying_70 1 rfl
theorem dX12_lying_74 : decode cX12_lying 74 = .ok (.iconst (-1), 1) := ckS_g gdX12_lying_70 2 rfl
theorem dX12_lying_75 : decode cX12_lying 75 = .ok (.ireturn, 1) := ckS_g gdX12_lying_70 3 rfl
set_option maxRecDepth 100000 in
theorem z278 : wZ (.fieldLink RX12 122 "MotionFloorModel$Hall" "text" "[I") := ⟨wT5 (List.mem_of_getElem? (i := 86) (by decide +kernel)), Or.inl rfl⟩
set_option maxRecDepth 100000 in
theorem z279 : wZ (.code yX12_lying cX12_lying 4 (some .int)) := ⟨wT6 (List.mem_of_getElem? (i := 234) rfl), Or.inl rfl⟩
def b_X12_lying_22 (S : MS) (x1 x2 : Int32) : Int32 × MS := ((-1), S)
def q_X12_lying_22 (S : MS) (x1 x2 : Int32) : Prop := True
def b_X12_lying_75 (S : MS) (x1 x2 x3 y0 : Int32) : Int32 × MS := (y0, S)
def q_X12_lying_75 (S : MS) (x1 x2 x3 y0 : Int32) : Prop := True
def f_X12_lying (S : MS) (x1 x2 : Int32) : Int32 × MS := if (f_X12_in x1 0 7) = 0 then (b_X12_lying_22 S x1 x2) else if (S.2.1.2 34 x1.toNatClampNeg) = 0 then (b_X12_lying_22 S x1 x2) else if (f_X12_in x2 0 ((S.2.1.2 19 (S.2.1.2 33 (9 * x1).toNatClampNeg).toNatClampNeg) - 1)) = 0 then (b_X12_lying_75 S x1 x2 (S.2.1.2 33 (9 * x1).toNatClampNeg) (-1)) else (b_X12_lying_75 S x1 x2 (S.2.1.2 33 (9 * x1).toNatClampNeg) (S.2.1.2 28 ((400 * (S.2.1.2 33 (9 * x1).toNatClampNeg)) + x2).toNatClampNeg))
def p_X12_lying (S : MS) (x1 x2 : Int32) : Prop := (p_X12_in x1 0 7) ∧ (if (f_X12_in x1 0 7) = 0 then (q_X12_lying_22 S x1 x2) else (vp_in x1 8) ∧ (if (S.2.1.2 34 x1.toNatClampNeg) = 0 then (q_X12_lying_22 S x1 x2) else (vp_in (9 * x1) 72) ∧ (vp_in (S.2.1.2 33 (9 * x1).toNatClampNeg) 90) ∧ (p_X12_in x2 0 ((S.2.1.2 19 (S.2.1.2 33 (9 * x1).toNatClampNeg).toNatClampNeg) - 1)) ∧ (if (f_X12_in x2 0 ((S.2.1.2 19 (S.2.1.2 33 (9 * x1).toNatClampNeg).toNatClampNeg) - 1)) = 0 then (q_X12_lying_75 S x1 x2 (S.2.1.2 33 (9 * x1).toNatClampNeg) (-1)) else (vp_in ((400 * (S.2.1.2 33 (9 * x1).toNatClampNeg)) + x2) 36000) ∧ (q_X12_lying_75 S x1 x2 (S.2.1.2 33 (9 * x1).toNatClampNeg) (S.2.1.2 28 ((400 * (S.2.1.2 33 (9 * x1).toNatClampNeg)) + x2).toNatClampNeg)))))
def e_X12_lying : List Cond := [.methodLink RX12 1 yX12_in, .static yX12_in, .initialized RX12, .fieldLink RX12 16 "MotionFloorModel" "hall" "LMotionFloorModel$Hall;", .fieldLink RX12 107 "MotionFloorModel$Hall" "lying" "[I", .fieldLink RX12 110 "MotionFloorModel$Hall" "desk" "[I", .fieldLink RX12 70 "MotionFloorModel$Hall" "words" "[I", .fieldLink RX12 122 "MotionFloorModel$Hall" "text" "[I"]
def v_X12_lying : List Cond := .code yX12_lying cX12_lying 4 (some .int) :: (e_X12_lying ++ (wsX120 ++ (wsX110 ++ (v_X12_in ++ []))))
theorem te_X12_lying : GoodIn lw_tbl e_X12_lying := wGc z3 (wGc z2 (wGc z1 (wGc z219 (wGc z276 (wGc z275 (wGc z257 (wGc z278 (wG0))))))))
theorem t_X12_lying : GoodIn lw_tbl v_X12_lying := wGc z279 (wGa te_X12_lying (wGa zcX12 (wGa zcX11 (wGa t_X12_in (wG0)))))
set_option maxHeartbeats 4000000 in
set_option maxRecDepth 100000 in
theorem c_X12_lying (l : Launch) (G : va_G) (K : Nat → ClassId) (m0 : Nat) (gm : Nat → Nat) (h1 : Nat) (g1 : Nat → Nat) (h2 : Nat) (g2 : Nat → Nat) (S0 : MS) (a1 a2 : Int32) (sz : Nat) : Met l yX12_lying v_X12_lying ({ frames := 1, cells := 0, slots := 0, locals := 22 }) (va_Pc [.ref m0, .int a1, .int a2] (mSt G K m0 gm h1 g1 h2 g2 sz S0 (p_X12_lying S0 a1 a2))) (va_Qi (fun (r : Int32) (u : MS) => (r, u) = f_X12_lying S0 a1 a2) (mB G K m0 gm h1 g1 h2 g2 (va_A (mW K m0 gm h1 g1 h2 g2 S0) sz)) (va_A (mW K m0 gm h1 g1 h2 g2 S0) sz)) 0 0 (va_A (mW K m0 gm h1 g1 h2 g2 S0) sz) := by
  refine Met.ofW (cc := cX12_lying) (maxL := 4) (ret := (some .int)) (by decide) rfl ?_
  intro p e s m args below meth c s₁ B hml hv
  obtain ⟨rfl, ⟨hsz, hP, hK, hD0, hTE⟩, hp⟩ := hv
  have hx := B.exec
  have hb := B.bytes
  have hr := B.returns
  have hts := atoms_spec (ws := v_X12_lying) B.pre
  have t_ := t_X12_lying
  have mw : ∀ w ∈ e_X12_lying, w ∈ v_X12_lying := fun w h => List.mem_cons_of_mem _ (List.mem_append_left _ h)
  have hw := fun w (h : w ∈ e_X12_lying) => hts w (mw w h)
  have iX12 : ∀ w ∈ wsX120, w ∈ v_X12_lying := fun w h => List.mem_cons_of_mem _ (List.mem_append_right _ (List.mem_append_left _ h))
  have iX11 : ∀ w ∈ wsX110, w ∈ v_X12_lying := fun w h => List.mem_cons_of_mem _ (List.mem_append_right _ (List.mem_append_right _ (List.mem_append_left _ h)))
  have j_X12_in : ∀ w ∈ v_X12_in, w ∈ v_X12_lying := fun w h => List.mem_cons_of_mem _ (List.mem_append_right _ (List.mem_append_right _ (List.mem_append_right _ (List.mem_append_left _ h))))
  have hown : s.vm.findClass RX12 = some m.cls := findClass_of_methodNamed B.named
  have hlocks := B.notSynchronized
  subst hsz
  have hD := hD0.self (sz := s.heap.size)
  generalize hAe : va_A (mW K m0 gm h1 g1 h2 g2 S0) s.heap.size = A at hD ⊢
  have hA : ∀ q : Nat, s.heap.size ≤ q → A q := fun q h => by rw [← hAe]; exact Or.inr h
  have hS : va_S A s.heap s.heap [] := va_S.rf
  have hl := lv_entry ([.ref m0, .int a1, .int a2]) (n := 4) (Nat.le_of_ble_eq_true rfl)
  rw [lg_entry_eq]
  generalize (lg_sl ([.ref m0, .int a1, .int a2]) ++ List.replicate (4 - (lg_sl ([.ref m0, .int a1, .int a2])).length) Slot.unset).toArray = ls at hl ⊢
  have hl : lv_has ls 4 [(0, .ref m0), (1, .int a1), (2, .int a2)] := hl
  refine wGen (fun Q hQ => ?_)
  obtain ⟨X, hX⟩ : ∃ X, f_X12_lying S0 a1 a2 = X := ⟨_, rfl⟩
  have B_22 : ∀ (S : MS) (x1 x2 : Int32) (H : Heap) (locs : List Loc) (ls : Array Slot), b_X12_lying_22 S x1 x2 = X → q_X12_lying_22 S x1 x2 → va_P G vwCl (mW K m0 gm h1 g1 h2 g2 S) H → va_D A (mW K m0 gm h1 g1 h2 g2 S) → va_S A s.heap H locs → lv_has ls 4 [(0, .ref m0), (1, .int x1), (2, .int x2)] → W p l e ({ frames := 1, cells := 0, slots := 0, locals := 22 } : Room) s m #[Value.ref m0, Value.int a1, Value.int a2] below meth c H locs 0 0 Q (F0 m 22 ls []) := by
    intro S x1 x2 H locs ls hE hp hP hD hS hl
    unfold b_X12_lying_22 at hE
    unfold q_X12_lying_22 at hp
    refine lv_iconst (v := (-1)) hx hb dX12_lying_22 (by decide) ?_
    subst hQ
    exact W.iret (v := (-1)) hx hb hr (fun t ht hW => ⟨⟨(-1), S, rfl, hE.trans hX.symm, by rw [ht]; exact hP, hD⟩, hS.F ht⟩) hS.2.2 dX12_lying_23
  have B_75 : ∀ (S : MS) (x1 x2 x3 y0 : Int32) (H : Heap) (locs : List Loc) (ls : Array Slot), b_X12_lying_75 S x1 x2 x3 y0 = X → q_X12_lying_75 S x1 x2 x3 y0 → va_P G vwCl (mW K m0 gm h1 g1 h2 g2 S) H → va_D A (mW K m0 gm h1 g1 h2 g2 S) → va_S A s.heap H locs → lv_has ls 4 [(0, .ref m0), (1, .int x1), (2, .int x2), (3, .int x3)] → W p l e ({ frames := 1, cells := 0, slots := 0, locals := 22 } : Room) s m #[Value.ref m0, Value.int a1, Value.int a2] below meth c H locs 0 0 Q (F0 m 75 ls [.int y0]) := by
    intro S x1 x2 x3 y0 H locs ls hE hp hP hD hS hl
    unfold b_X12_lying_75 at hE
    unfold q_X12_lying_75 at hp
    subst hQ
    exact W.iret (v := y0) hx hb hr (fun t ht hW => ⟨⟨y0, S, rfl, hE.trans hX.symm, by rw [ht]; exact hP, hD⟩, hS.F ht⟩) hS.2.2 dX12_lying_75
  have B_M : ∀ (S : MS) (x1 x2 : Int32) (H : Heap) (locs : List Loc) (ls : Array Slot), f_X12_lying S x1 x2 = X → p_X12_lying S x1 x2 → va_P G vwCl (mW K m0 gm h1 g1 h2 g2 S) H → va_D A (mW K m0 gm h1 g1 h2 g2 S) → va_S A s.heap H locs → lv_has ls 4 [(0, .ref m0), (1, .int x1), (2, .int x2)] → W p l e ({ frames := 1, cells := 0, slots := 0, locals := 22 } : Room) s m #[Value.ref m0, Value.int a1, Value.int a2] below meth c H locs 0 0 Q (F0 m 0 ls []) := by
    intro S x1 x2 H locs ls hE hp hP hD hS hl
    unfold f_X12_lying at hE
    unfold p_X12_lying at hp
    refine lv_iload_n hx hb dX12_lying_0 rfl (lv_at hl 1 rfl) ?_
    refine lv_iconst (v := 0) hx hb dX12_lying_1 (by decide) ?_
    refine lv_bipush (v := 7) hx hb dX12_lying_2 (by decide) ?_
    obtain ⟨hy1, hp⟩ := hp
    refine nGoi (va_runS (As := [.int x1, .int 0, .int 7]) (rest := []) ⟨hx, hb, hml, hown, hts⟩ (c_X12_in l G K x1 0 7 _) (va_cwS 3 hts (wGS t_ (mw (.methodLink RX12 1 yX12_in) (List.mem_of_getElem? (i := 0) rfl)) (mw (.static yX12_in) (List.mem_of_getElem? (i := 1) rfl)) (mw (.initialized RX12) (List.mem_of_getElem? (i := 2) rfl)) j_X12_in) rfl rfl rfl (by decide +kernel) ⟨Nat.le_of_ble_eq_true rfl, Nat.le_of_ble_eq_true rfl⟩) (nPS hK hTE hy1) rfl rfl hl.1 rfl (lv_room (Nat.le_of_ble_eq_true rfl)) dX12_lying_4 ⟨Nat.le_of_ble_eq_true rfl, Nat.le_of_ble_eq_true rfl⟩) hP hS hA (fun r H locs hv hP hS => ?_)
    subst hv
    refine lv_if_eq (tgt := 22) hx hb dX12_lying_7 (by decide) (fun c2 => ?_) (fun c2 => ?_)
    · rw [if_pos c2] at hE hp
      exact B_22 S x1 x2 _ _ _ hE hp hP hD hS (lv_sub hl [0, 1, 2] rfl)
    · rw [if_neg c2] at hE hp
      refine lv_aload_n hx hb dX12_lying_10 rfl (lv_at hl 0 rfl) ?_
      refine va_get (D := G) (ci := 9) (v := .ref h1) (C := RX12) (T := TX12) (N := 7) hx hb hts iX12 hown hK hP 0 rfl rfl 0 (by decide) (hw (.fieldLink RX12 16 "MotionFloorModel" "hall" "LMotionFloorModel$Hall;") (List.mem_of_getElem? (i := 3) rfl)) (fun _ h9 => h9) rfl dX12_lying_11 ?_
      refine va_get (D := G) (ci := 8) (v := .ref (g1 34)) (C := RX11) (T := TX11) (N := 42) hx hb hts iX11 hown hK hP 5 rfl rfl 34 (by decide) (hw (.fieldLink RX12 107 "MotionFloorModel$Hall" "lying" "[I") (List.mem_of_getElem? (i := 4) rfl)) (fun _ h9 => h9) rfl dX12_lying_14 ?_
      refine lv_iload_n hx hb dX12_lying_17 rfl (lv_at hl 1 rfl) ?_
      obtain ⟨hy3, hp⟩ := hp
      refine va_iald hx hb hK hP 28 0 rfl rfl hy3 dX12_lying_18 ?_
      refine lv_if_ne (tgt := 24) hx hb dX12_lying_19 (by decide) (fun c4 => ?_) (fun c4 => ?_)
      · rw [if_neg c4] at hE hp
        refine lv_aload_n hx hb dX12_lying_24 rfl (lv_at hl 0 rfl) ?_
        refine va_get (D := G) (ci := 9) (v := .ref h1) (C := RX12) (T := TX12) (N := 7) hx hb hts iX12 hown hK hP 0 rfl rfl 0 (by decide) (hw (.fieldLink RX12 16 "MotionFloorModel" "hall" "LMotionFloorModel$Hall;") (List.mem_of_getElem? (i := 3) rfl)) (fun _ h9 => h9) rfl dX12_lying_25 ?_
        refine va_get (D := G) (ci := 8) (v := .ref (g1 33)) (C := RX11) (T := TX11) (N := 42) hx hb hts iX11 hown hK hP 5 rfl rfl 33 (by decide) (hw (.fieldLink RX12 110 "MotionFloorModel$Hall" "desk" "[I") (List.mem_of_getElem? (i := 5) rfl)) (fun _ h9 => h9) rfl dX12_lying_28 ?_
        refine lv_bipush (v := 9) hx hb dX12_lying_31 (by decide) ?_
        refine lv_iload_n hx hb dX12_lying_33 rfl (lv_at hl 1 rfl) ?_
        refine lv_imul hx hb dX12_lying_34 ?_
        obtain ⟨hy5, hp⟩ := hp
        refine va_iald hx hb hK hP 27 0 rfl rfl hy5 dX12_lying_35 ?_
        refine lv_istore_n (lv' := [(3, .int (S.2.1.2 33 (9 * x1).toNatClampNeg)), (0, .ref m0), (1, .int x1), (2, .int x2)]) hx hb dX12_lying_36 rfl hl (by decide) rfl (fun ls hl => ?_)
        refine lv_iload_n hx hb dX12_lying_37 rfl (lv_at hl 3 rfl) ?_
        refine lv_iconst (v := 0) hx hb dX12_lying_38 (by decide) ?_
        refine lv_aload_n hx hb dX12_lying_39 rfl (lv_at hl 1 rfl) ?_
        refine va_get (D := G) (ci := 9) (v := .ref h1) (C := RX12) (T := TX12) (N := 7) hx hb hts iX12 hown hK hP 0 rfl rfl 0 (by decide) (hw (.fieldLink RX12 16 "MotionFloorModel" "hall" "LMotionFloorModel$Hall;") (List.mem_of_getElem? (i := 3) rfl)) (fun _ h9 => h9) rfl dX12_lying_40 ?_
        refine va_get (D := G) (ci := 8) (v := .ref (g1 19)) (C := RX11) (T := TX11) (N := 42) hx hb hts iX11 hown hK hP 5 rfl rfl 19 (by decide) (hw (.fieldLink RX12 70 "MotionFloorModel$Hall" "words" "[I") (List.mem_of_getElem? (i := 6) rfl)) (fun _ h9 => h9) rfl dX12_lying_43 ?_
        refine lv_iload_n hx hb dX12_lying_46 rfl (lv_at hl 0 rfl) ?_
        obtain ⟨hy6, hp⟩ := hp
        refine va_iald hx hb hK hP 14 0 rfl rfl hy6 dX12_lying_47 ?_
        refine lv_iconst (v := 1) hx hb dX12_lying_48 (by decide) ?_
        refine lv_isub hx hb dX12_lying_49 ?_
        obtain ⟨hy7, hp⟩ := hp
        refine nGoi (va_runS (As := [.int x2, .int 0, .int ((S.2.1.2 19 (S.2.1.2 33 (9 * x1).toNatClampNeg).toNatClampNeg) - 1)]) (rest := []) ⟨hx, hb, hml, hown, hts⟩ (c_X12_in l G K x2 0 ((S.2.1.2 19 (S.2.1.2 33 (9 * x1).toNatClampNeg).toNatClampNeg) - 1) _) (va_cwS 3 hts (wGS t_ (mw (.methodLink RX12 1 yX12_in) (List.mem_of_getElem? (i := 0) rfl)) (mw (.static yX12_in) (List.mem_of_getElem? (i := 1) rfl)) (mw (.initialized RX12) (List.mem_of_getElem? (i := 2) rfl)) j_X12_in) rfl rfl rfl (by decide +kernel) ⟨Nat.le_of_ble_eq_true rfl, Nat.le_of_ble_eq_true rfl⟩) (nPS hK hTE hy7) rfl rfl hl.1 rfl (lv_room (Nat.le_of_ble_eq_true rfl)) dX12_lying_50 ⟨Nat.le_of_ble_eq_true rfl, Nat.le_of_ble_eq_true rfl⟩) hP hS hA (fun r H locs hv hP hS => ?_)
        subst hv
        refine lv_if_eq (tgt := 74) hx hb dX12_lying_53 (by decide) (fun c8 => ?_) (fun c8 => ?_)
        · rw [if_pos c8] at hE hp
          refine lv_iconst (v := (-1)) hx hb dX12_lying_74 (by decide) ?_
          exact B_75 S x1 x2 (S.2.1.2 33 (9 * x1).toNatClampNeg) (-1) _ _ _ hE hp hP hD hS (lv_sub hl [1, 2, 3, 0] rfl)
        · rw [if_neg c8] at hE hp
          refine lv_aload_n hx hb dX12_lying_56 rfl (lv_at hl 1 rfl) ?_
          refine va_get (D := G) (ci := 9) (v := .ref h1) (C := RX12) (T := TX12) (N := 7) hx hb hts iX12 hown hK hP 0 rfl rfl 0 (by decide) (hw (.fieldLink RX12 16 "MotionFloorModel" "hall" "LMotionFloorModel$Hall;") (List.mem_of_getElem? (i := 3) rfl)) (fun _ h9 => h9) rfl dX12_lying_57 ?_
          refine va_get (D := G) (ci := 8) (v := .ref (g1 28)) (C := RX11) (T := TX11) (N := 42) hx hb hts iX11 hown hK hP 5 rfl rfl 28 (by decide) (hw (.fieldLink RX12 122 "MotionFloorModel$Hall" "text" "[I") (List.mem_of_getElem? (i := 7) rfl)) (fun _ h9 => h9) rfl dX12_lying_60 ?_
          refine lv_sipush (v := 400) hx hb dX12_lying_63 (by decide) ?_
          refine lv_iload_n hx hb dX12_lying_66 rfl (lv_at hl 0 rfl) ?_
          refine lv_imul hx hb dX12_lying_67 ?_
          refine lv_iload_n hx hb dX12_lying_68 rfl (lv_at hl 3 rfl) ?_
          refine lv_iadd hx hb dX12_lying_69 ?_
          obtain ⟨hy9, hp⟩ := hp
          refine va_iald hx hb hK hP 23 0 rfl rfl hy9 dX12_lying_70 ?_
          refine lv_goto (tgt := 75) hx hb dX12_lying_71 (by decide) ?_
          exact B_75 S x1 x2 (S.2.1.2 33 (9 * x1).toNatClampNeg) (S.2.1.2 28 ((400 * (S.2.1.2 33 (9 * x1).toNatClampNeg)) + x2).toNatClampNeg) _ _ _ hE hp hP hD hS (lv_sub hl [1, 2, 3, 0] rfl)
      · rw [if_pos c4] at hE hp
        exact B_22 S x1 x2 _ _ _ hE hp hP hD hS (lv_sub hl [0, 1, 2] rfl)
  exact B_M S0 a1 a2 _ _ _ hX hp hP hD hS hl
theorem gdX12_result_0 : ckS (List.drop 0 cX12_result.data.toList) 0 [(0, .iload_n 1, 1), (1, .iconst 0, 1), (2, .aload_n 0, 1), (3, .getfield 16, 3), (6, .getfield 124, 3), (9, .iconst 1, 1), (10, .isub, 1), (11, .invokestatic 1, 3), (14, .ifCond .eq 28, 3), (17, .iload_n 2, 1), (18, .iconst 0, 1), (19, .iconst 4, 1), (20, .invokestatic 1, 3), (23, .ifCond .eq 19, 3), (26, .aload_n 0, 1), (27, .getfield 16, 3), (30, .getfield 127, 3), (33, .iconst 5, 1), (34, .iload_n 1, 1), (35, .imul, 1), (36, .iload_n 2, 1), (37, .iadd, 1), (38, .iaload, 1), (39, .goto 4, 3), (42, .iconst (-1), 1), (43, .ireturn, 1)] = true := by decide +kernel
theorem dX12_result_0 : decode cX12_result 0 = .ok (.iload_n 1, 1) := ckS_g gdX12_result_0 0 rfl
theorem dX12_result_1 : decode cX12_result 1 = .ok (.iconst 0, 1) := ckS_g gdX12_result_0 1 rfl
theorem dX12_result_2 : decode cX12_result 2 = .ok (.aload_n 0, 1) := ckS_g gdX12_result_0 2 rfl
theorem dX12_result_3 : decode cX12_result 3 = .ok (.getfield 16, 3) := ckS_g gdX12_result_0 3 rfl
theorem dX12_result_6 : decode cX12_result 6 = .ok (.getfield 124, 3) := ckS_g gdX12_result_0 4 rfl
theorem dX12_result_9 : decode cX12_result 9 = .ok (.iconst 1, 1) := ckS_g gdX12_result_0 5 rfl
theorem dX12_result_10 : decode cX12_result 10 = .ok (.isub, 1) := ckS_g gdX12_result_0 6 rfl
theorem dX12_result_11 : decode cX12_result 11 = .ok (.invokestatic 1, 3) := ckS_g gdX12_result_0 7 rfl
theorem dX12_result_14 : decode cX12_result 14 = .ok (.ifCond .eq 28, 3) := ckS_g gdX12_result_0 8 rfl
theorem dX12_result_17 : decode cX12_result 17 = .ok (.iload_n 2, 1) := ckS_g gdX12_result_0 9 rfl
theorem dX12_result_18 : decode cX12_result 18 = .ok (.iconst 0, 1) := ckS_g gdX12_result_0 10 rfl
theorem dX12_result_19 : decode cX12_result 19 = .ok (.iconst 4, 1) := ckS_g gdX12_result_0 11 rfl
theorem dX12_result_20 : decode cX12_result 20 = .ok (.invokestatic 1, 3) := ckS_g gdX12_result_0 12 rfl
theorem dX12_result_23 : decode cX12_result 23 = .ok (.ifCond .eq 19, 3) := ckS_g gdX12_result_0 13 rfl
theorem dX12_result_26 : decode cX12_result 26 = .ok (.aload_n 0, 1) := ckS_g gdX12_result_0 14 rfl
theorem dX12_result_27 : decode cX12_result 27 = .ok (.getfield 16, 3) := ckS_g gdX12_result_0 15 rfl
theorem dX12_result_30 : decode cX12_result 30 = .ok (.getfield 127, 3) := ckS_g gdX12_result_0 16 rfl
theorem dX12_result_33 : decode cX12_result 33 = .ok (.iconst 5, 1) := ckS_g gdX12_result_0 17 rfl
theorem dX12_result_34 : decode cX12_result 34 = .ok (.iload_n 1, 1) := ckS_g gdX12_result_0 18 rfl
theorem dX12_result_35 : decode cX12_result 35 = .ok (.imul, 1) := ckS_g gdX12_result_0 19 rfl
theorem dX12_result_36 : decode cX12_result 36 = .ok (.iload_n 2, 1) := ckS_g gdX12_result_0 20 rfl
theorem dX12_result_37 : decode cX12_result 37 = .ok (.iadd, 1) := ckS_g gdX12_result_0 21 rfl
theorem dX12_result_38 : decode cX12_result 38 = .ok (.iaload, 1) := ckS_g gdX12_result_0 22 rfl
theorem dX12_result_39 : decode cX12_result 39 = .ok (.goto 4, 3) := ckS_g gdX12_result_0 23 rfl
theorem dX12_result_42 : decode cX12_result 42 = .ok (.iconst (-1), 1) := ckS_g gdX12_result_0 24 rfl
theorem dX12_result_43 : decode cX12_result 43 = .ok (.ireturn, 1) := ckS_g gdX12_result_0 25 rfl
set_option maxRecDepth 100000 in
theorem z280 : wZ (.fieldLink RX12 127 "MotionFloorModel$Hall" "result" "[I") := ⟨wT5 (List.mem_of_getElem? (i := 110) (by decide +kernel)), Or.inl rfl⟩
set_option maxRecDepth 100000 in
theorem z281 : wZ (.fieldLink RX12 124 "MotionFloorModel$Hall" "results" "I") := ⟨wT5 (List.mem_of_getElem? (i := 51) (by decide +kernel)), Or.inl rfl⟩
set_option maxRecDepth 100000 in
theorem z282 : wZ (.code yX12_result cX12_result 3 (some .int)) := ⟨wT6 (List.mem_of_getElem? (i := 238) rfl), Or.inl rfl⟩
def b_X12_result_43 (S : MS) (x1 x2 y0 : Int32) : Int32 × MS := (y0, S)
def q_X12_result_43 (S : MS) (x1 x2 y0 : Int32) : Prop := True
def b_X12_result_42 (S : MS) (x1 x2 : Int32) : Int32 × MS := (b_X12_result_43 S x1 x2 (-1))
def q_X12_result_42 (S : MS) (x1 x2 : Int32) : Prop := (q_X12_result_43 S x1 x2 (-1))
def f_X12_result (S : MS) (x1 x2 : Int32) : Int32 × MS := if (f_X12_in x1 0 ((S.2.1.1 8) - 1)) = 0 then (b_X12_result_42 S x1 x2) else if (f_X12_in x2 0 4) = 0 then (b_X12_result_42 S x1 x2) else (b_X12_result_43 S x1 x2 (S.2.1.2 41 ((5 * x1) + x2).toNatClampNeg))
def p_X12_result (S : MS) (x1 x2 : Int32) : Prop := (p_X12_in x1 0 ((S.2.1.1 8) - 1)) ∧ (if (f_X12_in x1 0 ((S.2.1.1 8) - 1)) = 0 then (q_X12_result_42 S x1 x2) else (p_X12_in x2 0 4) ∧ (if (f_X12_in x2 0 4) = 0 then (q_X12_result_42 S x1 x2) else (vp_in ((5 * x1) + x2) 3000) ∧ (q_X12_result_43 S x1 x2 (S.2.1.2 41 ((5 * x1) + x2).toNatClampNeg))))
def e_X12_result : List Cond := [.fieldLink RX12 16 "MotionFloorModel" "hall" "LMotionFloorModel$Hall;", .fieldLink RX12 124 "MotionFloorModel$Hall" "results" "I", .methodLink RX12 1 yX12_in, .static yX12_in, .initialized RX12, .fieldLink RX12 127 "MotionFloorModel$Hall" "result" "[I"]
def v_X12_result : List Cond := .code yX12_result cX12_result 3 (some .int) :: (e_X12_result ++ (wsX120 ++ (wsX110 ++ (v_X12_in ++ []))))
theorem te_X12_result : GoodIn lw_tbl e_X12_result := wGc z219 (wGc z281 (wGc z3 (wGc z2 (wGc z1 (wGc z280 (wG0))))))
theorem t_X12_result : GoodIn lw_tbl v_X12_result := wGc z282 (wGa te_X12_result (wGa zcX12 (wGa zcX11 (wGa t_X12_in (wG0)))))
set_option maxHeartbeats 4000000 in
set_option maxRecDepth 100000 in
theorem c_X12_result (l : Launch) (G : va_G) (K : Nat → ClassId) (m0 : Nat) (gm : Nat → Nat) (h1 : Nat) (g1 : Nat → Nat) (h2 : Nat) (g2 : Nat → Nat) (S0 : MS) (a1 a2 : Int32) (sz : Nat) : Met l yX12_result v_X12_result ({ frames := 1, cells := 0, slots := 0, locals := 22 }) (va_Pc [.ref m0, .int a1, .int a2] (mSt G K m0 gm h1 g1 h2 g2 sz S0 (p_X12_result S0 a1 a2))) (va_Qi (fun (r : Int32) (u : MS) => (r, u) = f_X12_result S0 a1 a2) (mB G K m0 gm h1 g1 h2 g2 (va_A (mW K m0 gm h1 g1 h2 g2 S0) sz)) (va_A (mW K m0 gm h1 g1 h2 g2 S0) sz)) 0 0 (va_A (mW K m0 gm h1 g1 h2 g2 S0) sz) := by
  refine Met.ofW (cc := cX12_result) (maxL := 3) (ret := (some .int)) (by decide) rfl ?_
  intro p e s m args below meth c s₁ B hml hv
  obtain ⟨rfl, ⟨hsz, hP, hK, hD0, hTE⟩, hp⟩ := hv
  have hx := B.exec
  have hb := B.bytes
  have hr := B.returns
  have hts := atoms_spec (ws := v_X12_result) B.pre
  have t_ := t_X12_result
  have mw : ∀ w ∈ e_X12_result, w ∈ v_X12_result := fun w h => List.mem_cons_of_mem _ (List.mem_append_left _ h)
  have hw := fun w (h : w ∈ e_X12_result) => hts w (mw w h)
  have iX12 : ∀ w ∈ wsX120, w ∈ v_X12_result := fun w h => List.mem_cons_of_mem _ (List.mem_append_right _ (List.mem_append_left _ h))
  have iX11 : ∀ w ∈ wsX110, w ∈ v_X12_result := fun w h => List.mem_cons_of_mem _ (List.mem_append_right _ (List.mem_append_right _ (List.mem_append_left _ h)))
  have j_X12_in : ∀ w ∈ v_X12_in, w ∈ v_X12_result := fun w h => List.mem_cons_of_mem _ (List.mem_append_right _ (List.mem_append_right _ (List.mem_append_right _ (List.mem_append_left _ h))))
  have hown : s.vm.findClass RX12 = some m.cls := findClass_of_methodNamed B.named
  have hlocks := B.notSynchronized
  subst hsz
  have hD := hD0.self (sz := s.heap.size)
  generalize hAe : va_A (mW K m0 gm h1 g1 h2 g2 S0) s.heap.size = A at hD ⊢
  have hA : ∀ q : Nat, s.heap.size ≤ q → A q := fun q h => by rw [← hAe]; exact Or.inr h
  have hS : va_S A s.heap s.heap [] := va_S.rf
  have hl := lv_entry ([.ref m0, .int a1, .int a2]) (n := 3) (Nat.le_of_ble_eq_true rfl)
  rw [lg_entry_eq]
  generalize (lg_sl ([.ref m0, .int a1, .int a2]) ++ List.replicate (3 - (lg_sl ([.ref m0, .int a1, .int a2])).length) Slot.unset).toArray = ls at hl ⊢
  have hl : lv_has ls 3 [(0, .ref m0), (1, .int a1), (2, .int a2)] := hl
  refine wGen (fun Q hQ => ?_)
  obtain ⟨X, hX⟩ : ∃ X, f_X12_result S0 a1 a2 = X := ⟨_, rfl⟩
  have B_43 : ∀ (S : MS) (x1 x2 y0 : Int32) (H : Heap) (locs : List Loc) (ls : Array Slot), b_X12_result_43 S x1 x2 y0 = X → q_X12_result_43 S x1 x2 y0 → va_P G vwCl (mW K m0 gm h1 g1 h2 g2 S) H → va_D A (mW K m0 gm h1 g1 h2 g2 S) → va_S A s.heap H locs → lv_has ls 3 [(0, .ref m0), (1, .int x1), (2, .int x2)] → W p l e ({ frames := 1, cells := 0, slots := 0, locals := 22 } : Room) s m #[Value.ref m0, Value.int a1, Value.int a2] below meth c H locs 0 0 Q (F0 m 43 ls [.int y0]) := by
    intro S x1 x2 y0 H locs ls hE hp hP hD hS hl
    unfold b_X12_result_43 at hE
    unfold q_X12_result_43 at hp
    subst hQ
    exact W.iret (v := y0) hx hb hr (fun t ht hW => ⟨⟨y0, S, rfl, hE.trans hX.symm, by rw [ht]; exact hP, hD⟩, hS.F ht⟩) hS.2.2 dX12_result_43
  have B_42 : ∀ (S : MS) (x1 x2 : Int32) (H : Heap) (locs : List Loc) (ls : Array Slot), b_X12_result_42 S x1 x2 = X → q_X12_result_42 S x1 x2 → va_P G vwCl (mW K m0 gm h1 g1 h2 g2 S) H → va_D A (mW K m0 gm h1 g1 h2 g2 S) → va_S A s.heap H locs → lv_has ls 3 [(0, .ref m0), (1, .int x1), (2, .int x2)] → W p l e ({ frames := 1, cells := 0, slots := 0, locals := 22 } : Room) s m #[Value.ref m0, Value.int a1, Value.int a2] below meth c H locs 0 0 Q (F0 m 42 ls []) := by
    intro S x1 x2 H locs ls hE hp hP hD hS hl
    unfold b_X12_result_42 at hE
    unfold q_X12_result_42 at hp
    refine lv_iconst (v := (-1)) hx hb dX12_result_42 (by decide) ?_
    exact B_43 S x1 x2 (-1) _ _ _ hE hp hP hD hS (lv_sub hl [0, 1, 2] rfl)
  have B_M : ∀ (S : MS) (x1 x2 : Int32) (H : Heap) (locs : List Loc) (ls : Array Slot), f_X12_result S x1 x2 = X → p_X12_result S x1 x2 → va_P G vwCl (mW K m0 gm h1 g1 h2 g2 S) H → va_D A (mW K m0 gm h1 g1 h2 g2 S) → va_S A s.heap H locs → lv_has ls 3 [(0, .ref m0), (1, .int x1), (2, .int x2)] → W p l e ({ frames := 1, cells := 0, slots := 0, locals := 22 } : Room) s m #[Value.ref m0, Value.int a1, Value.int a2] below meth c H locs 0 0 Q (F0 m 0 ls []) := by
    intro S x1 x2 H locs ls hE hp hP hD hS hl
    unfold f_X12_result at hE
    unfold p_X12_result at hp
    refine lv_iload_n hx hb dX12_result_0 rfl (lv_at hl 1 rfl) ?_
    refine lv_iconst (v := 0) hx hb dX12_result_1 (by decide) ?_
    refine lv_aload_n hx hb dX12_result_2 rfl (lv_at hl 0 rfl) ?_
    refine va_get (D := G) (ci := 9) (v := .ref h1) (C := RX12) (T := TX12) (N := 7) hx hb hts iX12 hown hK hP 0 rfl rfl 0 (by decide) (hw (.fieldLink RX12 16 "MotionFloorModel" "hall" "LMotionFloorModel$Hall;") (List.mem_of_getElem? (i := 0) rfl)) (fun _ h9 => h9) rfl dX12_result_3 ?_
    refine va_get (D := G) (ci := 8) (v := .int (S.2.1.1 8)) (C := RX11) (T := TX11) (N := 42) hx hb hts iX11 hown hK hP 5 rfl rfl 8 (by decide) (hw (.fieldLink RX12 124 "MotionFloorModel$Hall" "results" "I") (List.mem_of_getElem? (i := 1) rfl)) (fun _ h9 => h9) rfl dX12_result_6 ?_
    refine lv_iconst (v := 1) hx hb dX12_result_9 (by decide) ?_
    refine lv_isub hx hb dX12_result_10 ?_
    obtain ⟨hy1, hp⟩ := hp
    refine nGoi (va_runS (As := [.int x1, .int 0, .int ((S.2.1.1 8) - 1)]) (rest := []) ⟨hx, hb, hml, hown, hts⟩ (c_X12_in l G K x1 0 ((S.2.1.1 8) - 1) _) (va_cwS 3 hts (wGS t_ (mw (.methodLink RX12 1 yX12_in) (List.mem_of_getElem? (i := 2) rfl)) (mw (.static yX12_in) (List.mem_of_getElem? (i := 3) rfl)) (mw (.initialized RX12) (List.mem_of_getElem? (i := 4) rfl)) j_X12_in) rfl rfl rfl (by decide +kernel) ⟨Nat.le_of_ble_eq_true rfl, Nat.le_of_ble_eq_true rfl⟩) (nPS hK hTE hy1) rfl rfl hl.1 rfl (lv_room (Nat.le_of_ble_eq_true rfl)) dX12_result_11 ⟨Nat.le_of_ble_eq_true rfl, Nat.le_of_ble_eq_true rfl⟩) hP hS hA (fun r H locs hv hP hS => ?_)
    subst hv
    refine lv_if_eq (tgt := 42) hx hb dX12_result_14 (by decide) (fun c2 => ?_) (fun c2 => ?_)
    · rw [if_pos c2] at hE hp
      exact B_42 S x1 x2 _ _ _ hE hp hP hD hS (lv_sub hl [0, 1, 2] rfl)
    · rw [if_neg c2] at hE hp
      refine lv_iload_n hx hb dX12_result_17 rfl (lv_at hl 2 rfl) ?_
      refine lv_iconst (v := 0) hx hb dX12_result_18 (by decide) ?_
      refine lv_iconst (v := 4) hx hb dX12_result_19 (by decide) ?_
      obtain ⟨hy3, hp⟩ := hp
      refine nGoi (va_runS (As := [.int x2, .int 0, .int 4]) (rest := []) ⟨hx, hb, hml, hown, hts⟩ (c_X12_in l G K x2 0 4 _) (va_cwS 3 hts (wGS t_ (mw (.methodLink RX12 1 yX12_in) (List.mem_of_getElem? (i := 2) rfl)) (mw (.static yX12_in) (List.mem_of_getElem? (i := 3) rfl)) (mw (.initialized RX12) (List.mem_of_getElem? (i := 4) rfl)) j_X12_in) rfl rfl rfl (by decide +kernel) ⟨Nat.le_of_ble_eq_true rfl, Nat.le_of_ble_eq_true rfl⟩) (nPS hK hTE hy3) rfl rfl hl.1 rfl (lv_room (Nat.le_of_ble_eq_true rfl)) dX12_result_20 ⟨Nat.le_of_ble_eq_true rfl, Nat.le_of_ble_eq_true rfl⟩) hP hS hA (fun r H locs hv hP hS => ?_)
      subst hv
      refine lv_if_eq (tgt := 42) hx hb dX12_result_23 (by decide) (fun c4 => ?_) (fun c4 => ?_)
      · rw [if_pos c4] at hE hp
        exact B_42 S x1 x2 _ _ _ hE hp hP hD hS (lv_sub hl [0, 1, 2] rfl)
      · rw [if_neg c4] at hE hp
        refine lv_aload_n hx hb dX12_result_26 rfl (lv_at hl 0 rfl) ?_
        refine va_get (D := G) (ci := 9) (v := .ref h1) (C := RX12) (T := TX12) (N := 7) hx hb hts iX12 hown hK hP 0 rfl rfl 0 (by decide) (hw (.fieldLink RX12 16 "MotionFloorModel" "hall" "LMotionFloorModel$Hall;") (List.mem_of_getElem? (i := 0) rfl)) (fun _ h9 => h9) rfl dX12_result_27 ?_
        refine va_get (D := G) (ci := 8) (v := .ref (g1 41)) (C := RX11) (T := TX11) (N := 42) hx hb hts iX11 hown hK hP 5 rfl rfl 41 (by decide) (hw (.fieldLink RX12 127 "MotionFloorModel$Hall" "result" "[I") (List.mem_of_getElem? (i := 5) rfl)) (fun _ h9 => h9) rfl dX12_result_30 ?_
        refine lv_iconst (v := 5) hx hb dX12_result_33 (by decide) ?_
        refine lv_iload_n hx hb dX12_result_34 rfl (lv_at hl 1 rfl) ?_
        refine lv_imul hx hb dX12_result_35 ?_
        refine lv_iload_n hx hb dX12_result_36 rfl (lv_at hl 2 rfl) ?_
        refine lv_iadd hx hb dX12_result_37 ?_
        obtain ⟨hy5, hp⟩ := hp
        refine va_iald hx hb hK hP 32 0 rfl rfl hy5 dX12_result_38 ?_
        refine lv_goto (tgt := 43) hx hb dX12_result_39 (by decide) ?_
        exact B_43 S x1 x2 (S.2.1.2 41 ((5 * x1) + x2).toNatClampNeg) _ _ _ hE hp hP hD hS (lv_sub hl [0, 1, 2] rfl)
  exact B_M S0 a1 a2 _ _ _ hX hp hP hD hS hl
theorem dX12_count_1 : decode cX12_count 1 = .ok (.tableswitch 207 0 12 #[67, 75, 83, 91, 99, 107, 115, 123, 170, 178, 186, 194, 202], 67) := by decide +kernel
theorem gdX12_count_0 : ckS (List.drop 0 cX12_count.data.toList) 0 [(0, .iload_n 1, 1), (68, .aload_n 0, 1), (69, .getfield 16, 3), (72, .getfield 96, 3), (75, .ireturn, 1), (76, .aload_n 0, 1), (77, .getfield 16, 3), (80, .getfield 130, 3), (83, .ireturn, 1), (84, .aload_n 0, 1), (85, .getfield 16, 3), (88, .getfield 133, 3), (91, .ireturn, 1), (92, .aload_n 0, 1), (93, .getfield 16, 3), (96, .getfield 136, 3), (99, .ireturn, 1), (100, .aload_n 0, 1), (101, .getfield 16, 3), (104, .getfield 139, 3), (107, .ireturn, 1), (108, .aload_n 0, 1), (109, .getfield 16, 3), (112, .getfield 142, 3), (115, .ireturn, 1), (116, .aload_n 0, 1), (117, .getfield 16, 3), (120, .getfield 55, 3), (123, .ireturn, 1), (124, .aload_n 0, 1), (125, .getfield 16, 3), (128, .getfield 145, 3), (131, .ifCond .ne 7, 3), (134, .iconst 0, 1), (135, .goto 35, 3), (138, .aload_n 0, 1), (139, .getfield 16, 3), (142, .getfield 148, 3), (145, .ifCond .eq 8, 3), (148, .bipush 7, 2)] = true := by decide +kernel
theorem dX12_count_0 : decode cX12_count 0 = .ok (.iload_n 1, 1) := ckS_g gdX12_count_0 0 rfl
theorem dX12_count_68 : decode cX12_count 68 = .ok (.aload_n 0, 1) := ckS_g gdX12_count_0 1 rfl
theorem dX12_count_69 : decode cX12_count 69 = .ok (.getfield 16, 3) := ckS_g gdX12_count_0 2 rfl
theorem dX12_count_72 : decode cX12_count 72 = .ok (.getfield 96, 3) := ckS_g gdX12_count_0 3 rfl
theorem dX12_count_75 : decode cX12_count 75 = .ok (.ireturn, 1) := ckS_g gdX12_count_0 4 rfl
theorem dX12_count_76 : decode cX12_count 76 = .ok (.aload_n 0, 1) := ckS_g gdX12_count_0 5 rfl
theorem dX12_count_77 : decode cX12_count 77 = .ok (.getfield 16, 3) := ckS_g gdX12_count_0 6 rfl
theorem dX12_count_80 : decode cX12_count 80 = .ok (.getfield 130, 3) := ckS_g gdX12_count_0 7 rfl
theorem dX12_count_83 : decode cX12_count 83 = .ok (.ireturn, 1) := ckS_g gdX12_count_0 8 rfl
theorem dX12_count_84 : decode cX12_count 84 = .ok (.aload_n 0, 1) := ckS_g gdX12_count_0 9 rfl
theorem dX12_count_85 : decode cX12_count 85 = .ok (.getfield 16, 3) := ckS_g gdX12_count_0 10 rfl
theorem dX12_count_88 : decode cX12_count 88 = .ok (.getfield 133, 3) := ckS_g gdX12_count_0 11 rfl
theorem dX12_count_91 : decode cX12_count 91 = .ok (.ireturn, 1) := ckS_g gdX12_count_0 12 rfl
theorem dX12_count_92 : decode cX12_count 92 = .ok (.aload_n 0, 1) := ckS_g gdX12_count_0 13 rfl
theorem dX12_count_93 : decode cX12_count 93 = .ok (.getfield 16, 3) := ckS_g gdX12_count_0 14 rfl
theorem dX12_count_96 : decode cX12_count 96 = .ok (.getfield 136, 3) := ckS_g gdX12_count_0 15 rfl
theorem dX12_count_99 : decode cX12_count 99 = .ok (.ireturn, 1) := ckS_g gdX12_count_0 16 rfl
theorem dX12_count_100 : decode cX12_count 100 = .ok (.aload_n 0, 1) := ckS_g gdX12_count_0 17 rfl
theorem dX12_count_101 : decode cX12_count 101 = .ok (.getfield 16, 3) := ckS_g gdX12_count_0 18 rfl
theorem dX12_count_104 : decode cX12_count 104 = .ok (.getfield 139, 3) := ckS_g gdX12_count_0 19 rfl
theorem dX12_count_107 : decode cX12_count 107 = .ok (.ireturn, 1) := ckS_g gdX12_count_0 20 rfl
theorem dX12_count_108 : decode cX12_count 108 = .ok (.aload_n 0, 1) := ckS_g gdX12_count_0 21 rfl
theorem dX12_count_109 : decode cX12_count 109 = .ok (.getfield 16, 3) := ckS_g gdX12_count_0 22 rfl
theorem dX12_count_112 : decode cX12_count 112 = .ok (.getfield 142, 3) := ckS_g gdX12_count_0 23 rfl
theorem dX12_count_115 : decode cX12_count 115 = .ok (.ireturn, 1) := ckS_g gdX12_count_0 24 rfl
theorem dX12_count_116 : decode cX12_count 116 = .ok (.aload_n 0, 1) := ckS_g gdX12_count_0 25 rfl
theorem dX12_count_117 : decode cX12_count 117 = .ok (.getfield 16, 3) := ckS_g gdX12_count_0 26 rfl
theorem dX12_count_120 : decode cX12_count 120 = .ok (.getfield 55, 3) := ckS_g gdX12_count_0 27 rfl
theorem dX12_count_123 : decode cX12_count 123 = .ok (.ireturn, 1) := ckS_g gdX12_count_0 28 rfl
theorem dX12_count_124 : decode cX12_count 124 = .ok (.aload_n 0, 1) := ckS_g gdX12_count_0 29 rfl
theorem dX12_count_125 : decode cX12_count 125 = .ok (.getfield 16, 3) := ckS_g gdX12_count_0 30 rfl
theorem dX12_count_128 : decode cX12_count 128 = .ok (.getfield 145, 3) := ckS_g gdX12_count_0 31 rfl
theorem dX12_count_131 : decode cX12_count 131 = .ok (.ifCond .ne 7, 3) := ckS_g gdX12_count_0 32 rfl
theorem dX12_count_134 : decode cX12_count 134 = .ok (.iconst 0, 1) := ckS_g gdX12_count_0 33 rfl
theorem dX12_count_135 : decode cX12_count 135 = .ok (.goto 35, 3) := ckS_g gdX12_count_0 34 rfl
theorem dX12_count_138 : decode cX12_count 138 = .ok (.aload_n 0, 1) := ckS_g gdX12_count_0 35 rfl
theorem dX12_count_139 : decode cX12_count 139 = .ok (.getfield 16, 3) := ckS_g gdX12_count_0 36 rfl
theorem dX12_count_142 : decode cX12_count 142 = .ok (.getfield 148, 3) := ckS_g gdX12_count_0 37 rfl
theorem dX12_count_145 : decode cX12_count 145 = .ok (.ifCond .eq 8, 3) := ckS_g gdX12_count_0 38 rfl
theorem dX12_count_148 : decode cX12_count 148 = .ok (.bipush 7, 2) := ckS_g gdX12_count_0 39 rfl
theorem gdX12_count_150 : ckS (List.drop 150 cX12_count.data.toList) 150 [(150, .goto 20, 3), (153, .aload_n 0, 1), (154, .getfield 16, 3), (157, .getfield 61, 3), (160, .aload_n 0, 1), (161, .getfield 16, 3), (164, .getfield 152, 3), (167, .iconst 0, 1), (168, .iaload, 1), (169, .iaload, 1), (170, .ireturn, 1), (171, .aload_n 0, 1), (172, .getfield 16, 3), (175, .getfield 48, 3), (178, .ireturn, 1), (179, .aload_n 0, 1), (180, .getfield 16, 3), (183, .getfield 124, 3), (186, .ireturn, 1), (187, .aload_n 0, 1), (188, .getfield 16, 3), (191, .getfield 155, 3), (194, .ireturn, 1), (195, .aload_n 0, 1), (196, .getfield 16, 3), (199, .getfield 158, 3), (202, .ireturn, 1), (203, .aload_n 0, 1), (204, .getfield 161, 3), (207, .ireturn, 1), (208, .iconst (-1), 1), (209, .ireturn, 1)] = true := by decide +kernel
theorem dX12_count_150 : decode cX12_count 150 = .ok (.goto 20, 3) := ckS_g gdX12_count_150 0 rfl
theorem dX12_count_153 : decode cX12_count 153 = .ok (.aload_n 0, 1) := ckS_g gdX12_count_150 1 rfl
theorem dX12_count_154 : decode cX12_count 154 = .ok (.getfield 16, 3) := ckS_g gdX12_count_150 2 rfl
theorem dX12_count_157 : decode cX12_count 157 = .ok (.getfield 61, 3) := ckS_g gdX12_count_150 3 rfl
theorem dX12_count_160 : decode cX12_count 160 = .ok (.aload_n 0, 1) := ckS_g gdX12_count_150 4 rfl
theorem dX12_count_161 : decode cX12_count 161 = .ok (.getfield 16, 3) := ckS_g gdX12_count_150 5 rfl
theorem dX12_count_164 : decode cX12_count 164 = .ok (.getfield 152, 3) := ckS_g gdX12_count_150 6 rfl
theorem dX12_count_167 : decode cX12_count 167 = .ok (.iconst 0, 1) := ckS_g gdX12_count_150 7 rfl
theorem dX12_count_168 : decode cX12_count 168 = .ok (.iaload, 1) := ckS_g gdX12_count_150 8 rfl
theorem dX12_count_169 : decode cX12_count 169 = .ok (.iaload, 1) := ckS_g gdX12_count_150 9 rfl
theorem dX12_count_170 : decode cX12_count 170 = .ok (.ireturn, 1) := ckS_g gdX12_count_150 10 rfl
theorem dX12_count_171 : decode cX12_count 171 = .ok (.aload_n 0, 1) := ckS_g gdX12_count_150 11 rfl
theorem dX12_count_172 : decode cX12_count 172 = .ok (.getfield 16, 3) := ckS_g gdX12_count_150 12 rfl
theorem dX12_count_175 : decode cX12_count 175 = .ok (.getfield 48, 3) := ckS_g gdX12_count_150 13 rfl
theorem dX12_count_178 : decode cX12_count 178 = .ok (.ireturn, 1) := ckS_g gdX12_count_150 14 rfl
theorem dX12_count_179 : decode cX12_count 179 = .ok (.aload_n 0, 1) := ckS_g gdX12_count_150 15 rfl
theorem dX12_count_180 : decode cX12_count 180 = .ok (.getfield 16, 3) := ckS_g gdX12_count_150 16 rfl
theorem dX12_count_183 : decode cX12_count 183 = .ok (.getfield 124, 3) := ckS_g gdX12_count_150 17 rfl
theorem dX12_count_186 : decode cX12_count 186 = .ok (.ireturn, 1) := ckS_g gdX12_count_150 18 rfl
theorem dX12_count_187 : decode cX12_count 187 = .ok (.aload_n 0, 1) := ckS_g gdX12_count_150 19 rfl
theorem dX12_count_188 : decode cX12_count 188 = .ok (.getfield 16, 3) := ckS_g gdX12_count_150 20 rfl
theorem dX12_count_191 : decode cX12_count 191 = .ok (.getfield 155, 3) := ckS_g gdX12_count_150 21 rfl
theorem dX12_count_194 : decode cX12_count 194 = .ok (.ireturn, 1) := ckS_g gdX12_count_150 22 rfl
theorem dX12_count_195 : decode cX12_count 195 = .ok (.aload_n 0, 1) := ckS_g gdX12_count_150 23 rfl
theorem dX12_count_196 : decode cX12_count 196 = .ok (.getfield 16, 3) := ckS_g gdX12_count_150 24 rfl
theorem dX12_count_199 : decode cX12_count 199 = .ok (.getfield 158, 3) := ckS_g gdX12_count_150 25 rfl
theorem dX12_count_202 : decode cX12_count 202 = .ok (.ireturn, 1) := ckS_g gdX12_count_150 26 rfl
theorem dX12_count_203 : decode cX12_count 203 = .ok (.aload_n 0, 1) := ckS_g gdX12_count_150 27 rfl
theorem dX12_count_204 : decode cX12_count 204 = .ok (.getfield 161, 3) := ckS_g gdX12_count_150 28 rfl
theorem dX12_count_207 : decode cX12_count 207 = .ok (.ireturn, 1) := ckS_g gdX12_count_150 29 rfl
theorem dX12_count_208 : decode cX12_count 208 = .ok (.iconst (-1), 1) := ckS_g gdX12_count_150 30 rfl
theorem dX12_count_209 : decode cX12_count 209 = .ok (.ireturn, 1) := ckS_g gdX12_count_150 31 rfl
set_option maxRecDepth 100000 in
theorem z283 : wZ (.fieldLink RX12 161 "MotionFloorModel" "tolds" "I") := ⟨wT5 (List.mem_of_getElem? (i := 206) (by decide +kernel)), Or.inl rfl⟩
set_option maxRecDepth 100000 in
theorem z284 : wZ (.fieldLink RX12 158 "MotionFloorModel$Hall" "adopted" "I") := ⟨wT5 (List.mem_of_getElem? (i := 53) (by decide +kernel)), Or.inl rfl⟩
set_option maxRecDepth 100000 in
theorem z285 : wZ (.fieldLink RX12 155 "MotionFloorModel$Hall" "lastWords" "I") := ⟨wT5 (List.mem_of_getElem? (i := 106) (by decide +kernel)), Or.inl rfl⟩
set_option maxRecDepth 100000 in
theorem z286 : wZ (.fieldLink RX12 152 "MotionFloorModel$Hall" "draft" "[I") := ⟨wT5 (List.mem_of_getElem? (i := 93) (by decide +kernel)), Or.inl rfl⟩
set_option maxRecDepth 100000 in
theorem z287 : wZ (.fieldLink RX12 148 "MotionFloorModel$Hall" "draftTabled" "Z") := ⟨wT5 (List.mem_of_getElem? (i := 101) (by decide +kernel)), Or.inl rfl⟩
set_option maxRecDepth 100000 in
theorem z288 : wZ (.fieldLink RX12 145 "MotionFloorModel$Hall" "drafted" "I") := ⟨wT5 (List.mem_of_getElem? (i := 99) (by decide +kernel)), Or.inl rfl⟩
set_option maxRecDepth 100000 in
theorem z289 : wZ (.fieldLink RX12 142 "MotionFloorModel$Hall" "floor" "I") := ⟨wT5 (List.mem_of_getElem? (i := 45) (by decide +kernel)), Or.inl rfl⟩
set_option maxRecDepth 100000 in
theorem z290 : wZ (.fieldLink RX12 139 "MotionFloorModel$Hall" "limit" "I") := ⟨wT5 (List.mem_of_getElem? (i := 43) (by decide +kernel)), Or.inl rfl⟩
set_option maxRecDepth 100000 in
theorem z291 : wZ (.fieldLink RX12 136 "MotionFloorModel$Hall" "quorum" "I") := ⟨wT5 (List.mem_of_getElem? (i := 41) (by decide +kernel)), Or.inl rfl⟩
set_option maxRecDepth 100000 in
theorem z292 : wZ (.fieldLink RX12 133 "MotionFloorModel$Hall" "chair" "I") := ⟨wT5 (List.mem_of_getElem? (i := 39) (by decide +kernel)), Or.inl rfl⟩
set_option maxRecDepth 100000 in
theorem z293 : wZ (.fieldLink RX12 130 "MotionFloorModel$Hall" "there" "I") := ⟨wT5 (List.mem_of_getElem? (i := 37) (by decide +kernel)), Or.inl rfl⟩
set_option maxRecDepth 100000 in
theorem z294 : wZ (.code yX12_count cX12_count 2 (some .int)) := ⟨wT7 (List.mem_of_getElem? (i := 2) rfl), Or.inl rfl⟩
def b_X12_count_170 (S : MS) (x1 y0 : Int32) : Int32 × MS := (y0, S)
def q_X12_count_170 (S : MS) (x1 y0 : Int32) : Prop := True
def f_X12_count (S : MS) (x1 : Int32) : Int32 × MS := if x1 = 0 then ((S.2.1.1 0), S) else if x1 = 1 then ((S.2.1.1 1), S) else if x1 = 2 then ((S.2.1.1 2), S) else if x1 = 3 then ((S.2.1.1 3), S) else if x1 = 4 then ((S.2.1.1 4), S) else if x1 = 5 then ((S.2.1.1 5), S) else if x1 = 6 then ((S.2.1.1 6), S) else if x1 = 7 then if (S.2.1.1 35) = 0 then (b_X12_count_170 S x1 0) else if (S.2.1.1 36) = 0 then (b_X12_count_170 S x1 (S.2.1.2 14 (S.2.1.2 32 (0 : Int32).toNatClampNeg).toNatClampNeg)) else (b_X12_count_170 S x1 7) else if x1 = 8 then ((S.2.1.1 7), S) else if x1 = 9 then ((S.2.1.1 8), S) else if x1 = 10 then ((S.2.1.1 39), S) else if x1 = 11 then ((S.2.1.1 9), S) else if x1 = 12 then ((S.1.1 6), S) else ((-1), S)
def p_X12_count (S : MS) (x1 : Int32) : Prop := (if x1 = 0 then True else (if x1 = 1 then True else (if x1 = 2 then True else (if x1 = 3 then True else (if x1 = 4 then True else (if x1 = 5 then True else (if x1 = 6 then True else (if x1 = 7 then (if (S.2.1.1 35) = 0 then (q_X12_count_170 S x1 0) else (if (S.2.1.1 36) = 0 then (vp_in 0 9) ∧ (vp_in (S.2.1.2 32 (0 : Int32).toNatClampNeg) 90) ∧ (q_X12_count_170 S x1 (S.2.1.2 14 (S.2.1.2 32 (0 : Int32).toNatClampNeg).toNatClampNeg)) else (q_X12_count_170 S x1 7))) else (if x1 = 8 then True else (if x1 = 9 then True else (if x1 = 10 then True else (if x1 = 11 then True else (if x1 = 12 then True else True)))))))))))))
def e_X12_count : List Cond := [.fieldLink RX12 16 "MotionFloorModel" "hall" "LMotionFloorModel$Hall;", .fieldLink RX12 96 "MotionFloorModel$Hall" "seats" "I", .fieldLink RX12 130 "MotionFloorModel$Hall" "there" "I", .fieldLink RX12 133 "MotionFloorModel$Hall" "chair" "I", .fieldLink RX12 136 "MotionFloorModel$Hall" "quorum" "I", .fieldLink RX12 139 "MotionFloorModel$Hall" "limit" "I", .fieldLink RX12 142 "MotionFloorModel$Hall" "floor" "I", .fieldLink RX12 55 "MotionFloorModel$Hall" "pending" "I", .fieldLink RX12 145 "MotionFloorModel$Hall" "drafted" "I", .fieldLink RX12 148 "MotionFloorModel$Hall" "draftTabled" "Z", .fieldLink RX12 61 "MotionFloorModel$Hall" "kind" "[I", .fieldLink RX12 152 "MotionFloorModel$Hall" "draft" "[I", .fieldLink RX12 48 "MotionFloorModel$Hall" "entries" "I", .fieldLink RX12 124 "MotionFloorModel$Hall" "results" "I", .fieldLink RX12 155 "MotionFloorModel$Hall" "lastWords" "I", .fieldLink RX12 158 "MotionFloorModel$Hall" "adopted" "I", .fieldLink RX12 161 "MotionFloorModel" "tolds" "I"]
def v_X12_count : List Cond := .code yX12_count cX12_count 2 (some .int) :: (e_X12_count ++ (wsX120 ++ (wsX110 ++ [])))
theorem te_X12_count : GoodIn lw_tbl e_X12_count := wGc z219 (wGc z270 (wGc z293 (wGc z292 (wGc z291 (wGc z290 (wGc z289 (wGc z262 (wGc z288 (wGc z287 (wGc z260 (wGc z286 (wGc z246 (wGc z281 (wGc z285 (wGc z284 (wGc z283 (wG0)))))))))))))))))
theorem t_X12_count : GoodIn lw_tbl v_X12_count := wGc z294 (wGa te_X12_count (wGa zcX12 (wGa zcX11 (wG0))))
set_option maxHeartbeats 4000000 in
set_option maxRecDepth 100000 in
theorem c_X12_count (l : Launch) (G : va_G) (K : Nat → ClassId) (m0 : Nat) (gm : Nat → Nat) (h1 : Nat) (g1 : Nat → Nat) (h2 : Nat) (g2 : Nat → Nat) (S0 : MS) (a1 : Int32) (sz : Nat) : Met l yX12_count v_X12_count ({ frames := 0, cells := 0, slots := 0, locals := 0 }) (va_Pc [.ref m0, .int a1] (mSt G K m0 gm h1 g1 h2 g2 sz S0 (p_X12_count S0 a1))) (va_Qi (fun (r : Int32) (u : MS) => (r, u) = f_X12_count S0 a1) (mB G K m0 gm h1 g1 h2 g2 (va_A (mW K m0 gm h1 g1 h2 g2 S0) sz)) (va_A (mW K m0 gm h1 g1 h2 g2 S0) sz)) 0 0 (va_A (mW K m0 gm h1 g1 h2 g2 S0) sz) := by
  refine Met.ofW (cc := cX12_count) (maxL := 2) (ret := (some .int)) (by decide) rfl ?_
  intro p e s m args below meth c s₁ B hml hv
  obtain ⟨rfl, ⟨hsz, hP, hK, hD0, hTE⟩, hp⟩ := hv
  have hx := B.exec
  have hb := B.bytes
  have hr := B.returns
  have hts := atoms_spec (ws := v_X12_count) B.pre
  have t_ := t_X12_count
  have mw : ∀ w ∈ e_X12_count, w ∈ v_X12_count := fun w h => List.mem_cons_of_mem _ (List.mem_append_left _ h)
  have hw := fun w (h : w ∈ e_X12_count) => hts w (mw w h)
  have iX12 : ∀ w ∈ wsX120, w ∈ v_X12_count := fun w h => List.mem_cons_of_mem _ (List.mem_append_right _ (List.mem_append_left _ h))
  have iX11 : ∀ w ∈ wsX110, w ∈ v_X12_count := fun w h => List.mem_cons_of_mem _ (List.mem_append_right _ (List.mem_append_right _ (List.mem_append_left _ h)))
  have hown : s.vm.findClass RX12 = some m.cls := findClass_of_methodNamed B.named
  have hlocks := B.notSynchronized
  subst hsz
  have hD := hD0.self (sz := s.heap.size)
  generalize hAe : va_A (mW K m0 gm h1 g1 h2 g2 S0) s.heap.size = A at hD ⊢
  have hA : ∀ q : Nat, s.heap.size ≤ q → A q := fun q h => by rw [← hAe]; exact Or.inr h
  have hS : va_S A s.heap s.heap [] := va_S.rf
  have hl := lv_entry ([.ref m0, .int a1]) (n := 2) (Nat.le_of_ble_eq_true rfl)
  rw [lg_entry_eq]
  generalize (lg_sl ([.ref m0, .int a1]) ++ List.replicate (2 - (lg_sl ([.ref m0, .int a1])).length) Slot.unset).toArray = ls at hl ⊢
  have hl : lv_has ls 2 [(0, .ref m0), (1, .int a1)] := hl
  refine wGen (fun Q hQ => ?_)
  obtain ⟨X, hX⟩ : ∃ X, f_X12_count S0 a1 = X := ⟨_, rfl⟩
  have B_170 : ∀ (S : MS) (x1 y0 : Int32) (H : Heap) (locs : List Loc) (ls : Array Slot), b_X12_count_170 S x1 y0 = X → q_X12_count_170 S x1 y0 → va_P G vwCl (mW K m0 gm h1 g1 h2 g2 S) H → va_D A (mW K m0 gm h1 g1 h2 g2 S) → va_S A s.heap H locs → lv_has ls 2 [(0, .ref m0), (1, .int x1)] → W p l e ({ frames := 0, cells := 0, slots := 0, locals := 0 } : Room) s m #[Value.ref m0, Value.int a1] below meth c H locs 0 0 Q (F0 m 170 ls [.int y0]) := by
    intro S x1 y0 H locs ls hE hp hP hD hS hl
    unfold b_X12_count_170 at hE
    unfold q_X12_count_170 at hp
    subst hQ
    exact W.iret (v := y0) hx hb hr (fun t ht hW => ⟨⟨y0, S, rfl, hE.trans hX.symm, by rw [ht]; exact hP, hD⟩, hS.F ht⟩) hS.2.2 dX12_count_170
  have B_M : ∀ (S : MS) (x1 : Int32) (H : Heap) (locs : List Loc) (ls : Array Slot), f_X12_count S x1 = X → p_X12_count S x1 → va_P G vwCl (mW K m0 gm h1 g1 h2 g2 S) H → va_D A (mW K m0 gm h1 g1 h2 g2 S) → va_S A s.heap H locs → lv_has ls 2 [(0, .ref m0), (1, .int x1)] → W p l e ({ frames := 0, cells := 0, slots := 0, locals := 0 } : Room) s m #[Value.ref m0, Value.int a1] below meth c H locs 0 0 Q (F0 m 0 ls []) := by
    intro S x1 H locs ls hE hp hP hD hS hl
    unfold f_X12_count at hE
    unfold p_X12_count at hp
    refine lv_iload_n hx hb dX12_count_0 rfl (lv_at hl 1 rfl) ?_
    by_cases s0 : x1 = 0
    · rw [if_pos s0] at hE hp
      refine lv_tableIn (off := 67) (tgt := 68) hx hb dX12_count_1 (by rw [s0]; decide) (by rw [s0]; decide) (by rw [s0]; decide) (by decide) ?_
      refine lv_aload_n hx hb dX12_count_68 rfl (lv_at hl 0 rfl) ?_
      refine va_get (D := G) (ci := 9) (v := .ref h1) (C := RX12) (T := TX12) (N := 7) hx hb hts iX12 hown hK hP 0 rfl rfl 0 (by decide) (hw (.fieldLink RX12 16 "MotionFloorModel" "hall" "LMotionFloorModel$Hall;") (List.mem_of_getElem? (i := 0) rfl)) (fun _ h9 => h9) rfl dX12_count_69 ?_
      refine va_get (D := G) (ci := 8) (v := .int (S.2.1.1 0)) (C := RX11) (T := TX11) (N := 42) hx hb hts iX11 hown hK hP 5 rfl rfl 0 (by decide) (hw (.fieldLink RX12 96 "MotionFloorModel$Hall" "seats" "I") (List.mem_of_getElem? (i := 1) rfl)) (fun _ h9 => h9) rfl dX12_count_72 ?_
      subst hQ
      exact W.iret (v := (S.2.1.1 0)) hx hb hr (fun t ht hW => ⟨⟨(S.2.1.1 0), S, rfl, hE.trans hX.symm, by rw [ht]; exact hP, hD⟩, hS.F ht⟩) hS.2.2 dX12_count_75
    rw [if_neg s0] at hE hp
    have s0 := wNe (b := 0) rfl (by decide) s0
    by_cases s1 : x1 = 1
    · rw [if_pos s1] at hE hp
      refine lv_tableIn (off := 75) (tgt := 76) hx hb dX12_count_1 (by rw [s1]; decide) (by rw [s1]; decide) (by rw [s1]; decide) (by decide) ?_
      refine lv_aload_n hx hb dX12_count_76 rfl (lv_at hl 0 rfl) ?_
      refine va_get (D := G) (ci := 9) (v := .ref h1) (C := RX12) (T := TX12) (N := 7) hx hb hts iX12 hown hK hP 0 rfl rfl 0 (by decide) (hw (.fieldLink RX12 16 "MotionFloorModel" "hall" "LMotionFloorModel$Hall;") (List.mem_of_getElem? (i := 0) rfl)) (fun _ h9 => h9) rfl dX12_count_77 ?_
      refine va_get (D := G) (ci := 8) (v := .int (S.2.1.1 1)) (C := RX11) (T := TX11) (N := 42) hx hb hts iX11 hown hK hP 5 rfl rfl 1 (by decide) (hw (.fieldLink RX12 130 "MotionFloorModel$Hall" "there" "I") (List.mem_of_getElem? (i := 2) rfl)) (fun _ h9 => h9) rfl dX12_count_80 ?_
      subst hQ
      exact W.iret (v := (S.2.1.1 1)) hx hb hr (fun t ht hW => ⟨⟨(S.2.1.1 1), S, rfl, hE.trans hX.symm, by rw [ht]; exact hP, hD⟩, hS.F ht⟩) hS.2.2 dX12_count_83
    rw [if_neg s1] at hE hp
    have s1 := wNe (b := 1) rfl (by decide) s1
    by_cases s2 : x1 = 2
    · rw [if_pos s2] at hE hp
      refine lv_tableIn (off := 83) (tgt := 84) hx hb dX12_count_1 (by rw [s2]; decide) (by rw [s2]; decide) (by rw [s2]; decide) (by decide) ?_
      refine lv_aload_n hx hb dX12_count_84 rfl (lv_at hl 0 rfl) ?_
      refine va_get (D := G) (ci := 9) (v := .ref h1) (C := RX12) (T := TX12) (N := 7) hx hb hts iX12 hown hK hP 0 rfl rfl 0 (by decide) (hw (.fieldLink RX12 16 "MotionFloorModel" "hall" "LMotionFloorModel$Hall;") (List.mem_of_getElem? (i := 0) rfl)) (fun _ h9 => h9) rfl dX12_count_85 ?_
      refine va_get (D := G) (ci := 8) (v := .int (S.2.1.1 2)) (C := RX11) (T := TX11) (N := 42) hx hb hts iX11 hown hK hP 5 rfl rfl 2 (by decide) (hw (.fieldLink RX12 133 "MotionFloorModel$Hall" "chair" "I") (List.mem_of_getElem? (i := 3) rfl)) (fun _ h9 => h9) rfl dX12_count_88 ?_
      subst hQ
      exact W.iret (v := (S.2.1.1 2)) hx hb hr (fun t ht hW => ⟨⟨(S.2.1.1 2), S, rfl, hE.trans hX.symm, by rw [ht]; exact hP, hD⟩, hS.F ht⟩) hS.2.2 dX12_count_91
    rw [if_neg s2] at hE hp
    have s2 := wNe (b := 2) rfl (by decide) s2
    by_cases s3 : x1 = 3
    · rw [if_pos s3] at hE hp
      refine lv_tableIn (off := 91) (tgt := 92) hx hb dX12_count_1 (by rw [s3]; decide) (by rw [s3]; decide) (by rw [s3]; decide) (by decide) ?_
      refine lv_aload_n hx hb dX12_count_92 rfl (lv_at hl 0 rfl) ?_
      refine va_get (D := G) (ci := 9) (v := .ref h1) (C := RX12) (T := TX12) (N := 7) hx hb hts iX12 hown hK hP 0 rfl rfl 0 (by decide) (hw (.fieldLink RX12 16 "MotionFloorModel" "hall" "LMotionFloorModel$Hall;") (List.mem_of_getElem? (i := 0) rfl)) (fun _ h9 => h9) rfl dX12_count_93 ?_
      refine va_get (D := G) (ci := 8) (v := .int (S.2.1.1 3)) (C := RX11) (T := TX11) (N := 42) hx hb hts iX11 hown hK hP 5 rfl rfl 3 (by decide) (hw (.fieldLink RX12 136 "MotionFloorModel$Hall" "quorum" "I") (List.mem_of_getElem? (i := 4) rfl)) (fun _ h9 => h9) rfl dX12_count_96 ?_
      subst hQ
      exact W.iret (v := (S.2.1.1 3)) hx hb hr (fun t ht hW => ⟨⟨(S.2.1.1 3), S, rfl, hE.trans hX.symm, by rw [ht]; exact hP, hD⟩, hS.F ht⟩) hS.2.2 dX12_count_99
    rw [if_neg s3] at hE hp
    have s3 := wNe (b := 3) rfl (by decide) s3
    by_cases s4 : x1 = 4
    · rw [if_pos s4] at hE hp
      refine lv_tableIn (off := 99) (tgt := 100) hx hb dX12_count_1 (by rw [s4]; decide) (by rw [s4]; decide) (by rw [s4]; decide) (by decide) ?_
      refine lv_aload_n hx hb dX12_count_100 rfl (lv_at hl 0 rfl) ?_
      refine va_get (D := G) (ci := 9) (v := .ref h1) (C := RX12) (T := TX12) (N := 7) hx hb hts iX12 hown hK hP 0 rfl rfl 0 (by decide) (hw (.fieldLink RX12 16 "MotionFloorModel" "hall" "LMotionFloorModel$Hall;") (List.mem_of_getElem? (i := 0) rfl)) (fun _ h9 => h9) rfl dX12_count_101 ?_
      refine va_get (D := G) (ci := 8) (v := .int (S.2.1.1 4)) (C := RX11) (T := TX11) (N := 42) hx hb hts iX11 hown hK hP 5 rfl rfl 4 (by decide) (hw (.fieldLink RX12 139 "MotionFloorModel$Hall" "limit" "I") (List.mem_of_getElem? (i := 5) rfl)) (fun _ h9 => h9) rfl dX12_count_104 ?_
      subst hQ
      exact W.iret (v := (S.2.1.1 4)) hx hb hr (fun t ht hW => ⟨⟨(S.2.1.1 4), S, rfl, hE.trans hX.symm, by rw [ht]; exact hP, hD⟩, hS.F ht⟩) hS.2.2 dX12_count_107
    rw [if_neg s4] at hE hp
    have s4 := wNe (b := 4) rfl (by decide) s4
    by_cases s5 : x1 = 5
    · rw [if_pos s5] at hE hp
      refine lv_tableIn (off := 107) (tgt := 108) hx hb dX12_count_1 (by rw [s5]; decide) (by rw [s5]; decide) (by rw [s5]; decide) (by decide) ?_
      refine lv_aload_n hx hb dX12_count_108 rfl (lv_at hl 0 rfl) ?_
      refine va_get (D := G) (ci := 9) (v := .ref h1) (C := RX12) (T := TX12) (N := 7) hx hb hts iX12 hown hK hP 0 rfl rfl 0 (by decide) (hw (.fieldLink RX12 16 "MotionFloorModel" "hall" "LMotionFloorModel$Hall;") (List.mem_of_getElem? (i := 0) rfl)) (fun _ h9 => h9) rfl dX12_count_109 ?_
      refine va_get (D := G) (ci := 8) (v := .int (S.2.1.1 5)) (C := RX11) (T := TX11) (N := 42) hx hb hts iX11 hown hK hP 5 rfl rfl 5 (by decide) (hw (.fieldLink RX12 142 "MotionFloorModel$Hall" "floor" "I") (List.mem_of_getElem? (i := 6) rfl)) (fun _ h9 => h9) rfl dX12_count_112 ?_
      subst hQ
      exact W.iret (v := (S.2.1.1 5)) hx hb hr (fun t ht hW => ⟨⟨(S.2.1.1 5), S, rfl, hE.trans hX.symm, by rw [ht]; exact hP, hD⟩, hS.F ht⟩) hS.2.2 dX12_count_115
    rw [if_neg s5] at hE hp
    have s5 := wNe (b := 5) rfl (by decide) s5
    by_cases s6 : x1 = 6
    · rw [if_pos s6] at hE hp
      refine lv_tableIn (off := 115) (tgt := 116) hx hb dX12_count_1 (by rw [s6]; decide) (by rw [s6]; decide) (by rw [s6]; decide) (by decide) ?_
      refine lv_aload_n hx hb dX12_count_116 rfl (lv_at hl 0 rfl) ?_
      refine va_get (D := G) (ci := 9) (v := .ref h1) (C := RX12) (T := TX12) (N := 7) hx hb hts iX12 hown hK hP 0 rfl rfl 0 (by decide) (hw (.fieldLink RX12 16 "MotionFloorModel" "hall" "LMotionFloorModel$Hall;") (List.mem_of_getElem? (i := 0) rfl)) (fun _ h9 => h9) rfl dX12_count_117 ?_
      refine va_get (D := G) (ci := 8) (v := .int (S.2.1.1 6)) (C := RX11) (T := TX11) (N := 42) hx hb hts iX11 hown hK hP 5 rfl rfl 6 (by decide) (hw (.fieldLink RX12 55 "MotionFloorModel$Hall" "pending" "I") (List.mem_of_getElem? (i := 7) rfl)) (fun _ h9 => h9) rfl dX12_count_120 ?_
      subst hQ
      exact W.iret (v := (S.2.1.1 6)) hx hb hr (fun t ht hW => ⟨⟨(S.2.1.1 6), S, rfl, hE.trans hX.symm, by rw [ht]; exact hP, hD⟩, hS.F ht⟩) hS.2.2 dX12_count_123
    rw [if_neg s6] at hE hp
    have s6 := wNe (b := 6) rfl (by decide) s6
    by_cases s7 : x1 = 7
    · rw [if_pos s7] at hE hp
      refine lv_tableIn (off := 123) (tgt := 124) hx hb dX12_count_1 (by rw [s7]; decide) (by rw [s7]; decide) (by rw [s7]; decide) (by decide) ?_
      refine lv_aload_n hx hb dX12_count_124 rfl (lv_at hl 0 rfl) ?_
      refine va_get (D := G) (ci := 9) (v := .ref h1) (C := RX12) (T := TX12) (N := 7) hx hb hts iX12 hown hK hP 0 rfl rfl 0 (by decide) (hw (.fieldLink RX12 16 "MotionFloorModel" "hall" "LMotionFloorModel$Hall;") (List.mem_of_getElem? (i := 0) rfl)) (fun _ h9 => h9) rfl dX12_count_125 ?_
      refine va_get (D := G) (ci := 8) (v := .int (S.2.1.1 35)) (C := RX11) (T := TX11) (N := 42) hx hb hts iX11 hown hK hP 5 rfl rfl 35 (by decide) (hw (.fieldLink RX12 145 "MotionFloorModel$Hall" "drafted" "I") (List.mem_of_getElem? (i := 8) rfl)) (fun _ h9 => h9) rfl dX12_count_128 ?_
      refine lv_if_ne (tgt := 138) hx hb dX12_count_131 (by decide) (fun c1 => ?_) (fun c1 => ?_)
      · rw [if_neg c1] at hE hp
        refine lv_aload_n hx hb dX12_count_138 rfl (lv_at hl 0 rfl) ?_
        refine va_get (D := G) (ci := 9) (v := .ref h1) (C := RX12) (T := TX12) (N := 7) hx hb hts iX12 hown hK hP 0 rfl rfl 0 (by decide) (hw (.fieldLink RX12 16 "MotionFloorModel" "hall" "LMotionFloorModel$Hall;") (List.mem_of_getElem? (i := 0) rfl)) (fun _ h9 => h9) rfl dX12_count_139 ?_
        refine va_get (D := G) (ci := 8) (v := .int (S.2.1.1 36)) (C := RX11) (T := TX11) (N := 42) hx hb hts iX11 hown hK hP 5 rfl rfl 36 (by decide) (hw (.fieldLink RX12 148 "MotionFloorModel$Hall" "draftTabled" "Z") (List.mem_of_getElem? (i := 9) rfl)) (fun _ h9 => h9) rfl dX12_count_142 ?_
        refine lv_if_eq (tgt := 153) hx hb dX12_count_145 (by decide) (fun c2 => ?_) (fun c2 => ?_)
        · rw [if_pos c2] at hE hp
          refine lv_aload_n hx hb dX12_count_153 rfl (lv_at hl 0 rfl) ?_
          refine va_get (D := G) (ci := 9) (v := .ref h1) (C := RX12) (T := TX12) (N := 7) hx hb hts iX12 hown hK hP 0 rfl rfl 0 (by decide) (hw (.fieldLink RX12 16 "MotionFloorModel" "hall" "LMotionFloorModel$Hall;") (List.mem_of_getElem? (i := 0) rfl)) (fun _ h9 => h9) rfl dX12_count_154 ?_
          refine va_get (D := G) (ci := 8) (v := .ref (g1 14)) (C := RX11) (T := TX11) (N := 42) hx hb hts iX11 hown hK hP 5 rfl rfl 14 (by decide) (hw (.fieldLink RX12 61 "MotionFloorModel$Hall" "kind" "[I") (List.mem_of_getElem? (i := 10) rfl)) (fun _ h9 => h9) rfl dX12_count_157 ?_
          refine lv_aload_n hx hb dX12_count_160 rfl (lv_at hl 0 rfl) ?_
          refine va_get (D := G) (ci := 9) (v := .ref h1) (C := RX12) (T := TX12) (N := 7) hx hb hts iX12 hown hK hP 0 rfl rfl 0 (by decide) (hw (.fieldLink RX12 16 "MotionFloorModel" "hall" "LMotionFloorModel$Hall;") (List.mem_of_getElem? (i := 0) rfl)) (fun _ h9 => h9) rfl dX12_count_161 ?_
          refine va_get (D := G) (ci := 8) (v := .ref (g1 32)) (C := RX11) (T := TX11) (N := 42) hx hb hts iX11 hown hK hP 5 rfl rfl 32 (by decide) (hw (.fieldLink RX12 152 "MotionFloorModel$Hall" "draft" "[I") (List.mem_of_getElem? (i := 11) rfl)) (fun _ h9 => h9) rfl dX12_count_164 ?_
          refine lv_iconst (v := 0) hx hb dX12_count_167 (by decide) ?_
          obtain ⟨hy3, hp⟩ := hp
          refine va_iald hx hb hK hP 26 0 rfl rfl hy3 dX12_count_168 ?_
          obtain ⟨hy4, hp⟩ := hp
          refine va_iald hx hb hK hP 9 0 rfl rfl hy4 dX12_count_169 ?_
          exact B_170 S x1 (S.2.1.2 14 (S.2.1.2 32 (0 : Int32).toNatClampNeg).toNatClampNeg) _ _ _ hE hp hP hD hS (lv_sub hl [0, 1] rfl)
        · rw [if_neg c2] at hE hp
          refine lv_bipush (v := 7) hx hb dX12_count_148 (by decide) ?_
          refine lv_goto (tgt := 170) hx hb dX12_count_150 (by decide) ?_
          exact B_170 S x1 7 _ _ _ hE hp hP hD hS (lv_sub hl [0, 1] rfl)
      · rw [if_pos c1] at hE hp
        refine lv_iconst (v := 0) hx hb dX12_count_134 (by decide) ?_
        refine lv_goto (tgt := 170) hx hb dX12_count_135 (by decide) ?_
        exact B_170 S x1 0 _ _ _ hE hp hP hD hS (lv_sub hl [0, 1] rfl)
    rw [if_neg s7] at hE hp
    have s7 := wNe (b := 7) rfl (by decide) s7
    by_cases s8 : x1 = 8
    · rw [if_pos s8] at hE hp
      refine lv_tableIn (off := 170) (tgt := 171) hx hb dX12_count_1 (by rw [s8]; decide) (by rw [s8]; decide) (by rw [s8]; decide) (by decide) ?_
      refine lv_aload_n hx hb dX12_count_171 rfl (lv_at hl 0 rfl) ?_
      refine va_get (D := G) (ci := 9) (v := .ref h1) (C := RX12) (T := TX12) (N := 7) hx hb hts iX12 hown hK hP 0 rfl rfl 0 (by decide) (hw (.fieldLink RX12 16 "MotionFloorModel" "hall" "LMotionFloorModel$Hall;") (List.mem_of_getElem? (i := 0) rfl)) (fun _ h9 => h9) rfl dX12_count_172 ?_
      refine va_get (D := G) (ci := 8) (v := .int (S.2.1.1 7)) (C := RX11) (T := TX11) (N := 42) hx hb hts iX11 hown hK hP 5 rfl rfl 7 (by decide) (hw (.fieldLink RX12 48 "MotionFloorModel$Hall" "entries" "I") (List.mem_of_getElem? (i := 12) rfl)) (fun _ h9 => h9) rfl dX12_count_175 ?_
      subst hQ
      exact W.iret (v := (S.2.1.1 7)) hx hb hr (fun t ht hW => ⟨⟨(S.2.1.1 7), S, rfl, hE.trans hX.symm, by rw [ht]; exact hP, hD⟩, hS.F ht⟩) hS.2.2 dX12_count_178
    rw [if_neg s8] at hE hp
    have s8 := wNe (b := 8) rfl (by decide) s8
    by_cases s9 : x1 = 9
    · rw [if_pos s9] at hE hp
      refine lv_tableIn (off := 178) (tgt := 179) hx hb dX12_count_1 (by rw [s9]; decide) (by rw [s9]; decide) (by rw [s9]; decide) (by decide) ?_
      refine lv_aload_n hx hb dX12_count_179 rfl (lv_at hl 0 rfl) ?_
      refine va_get (D := G) (ci := 9) (v := .ref h1) (C := RX12) (T := TX12) (N := 7) hx hb hts iX12 hown hK hP 0 rfl rfl 0 (by decide) (hw (.fieldLink RX12 16 "MotionFloorModel" "hall" "LMotionFloorModel$Hall;") (List.mem_of_getElem? (i := 0) rfl)) (fun _ h9 => h9) rfl dX12_count_180 ?_
      refine va_get (D := G) (ci := 8) (v := .int (S.2.1.1 8)) (C := RX11) (T := TX11) (N := 42) hx hb hts iX11 hown hK hP 5 rfl rfl 8 (by decide) (hw (.fieldLink RX12 124 "MotionFloorModel$Hall" "results" "I") (List.mem_of_getElem? (i := 13) rfl)) (fun _ h9 => h9) rfl dX12_count_183 ?_
      subst hQ
      exact W.iret (v := (S.2.1.1 8)) hx hb hr (fun t ht hW => ⟨⟨(S.2.1.1 8), S, rfl, hE.trans hX.symm, by rw [ht]; exact hP, hD⟩, hS.F ht⟩) hS.2.2 dX12_count_186
    rw [if_neg s9] at hE hp
    have s9 := wNe (b := 9) rfl (by decide) s9
    by_cases s10 : x1 = 10
    · rw [if_pos s10] at hE hp
      refine lv_tableIn (off := 186) (tgt := 187) hx hb dX12_count_1 (by rw [s10]; decide) (by rw [s10]; decide) (by rw [s10]; decide) (by decide) ?_
      refine lv_aload_n hx hb dX12_count_187 rfl (lv_at hl 0 rfl) ?_
      refine va_get (D := G) (ci := 9) (v := .ref h1) (C := RX12) (T := TX12) (N := 7) hx hb hts iX12 hown hK hP 0 rfl rfl 0 (by decide) (hw (.fieldLink RX12 16 "MotionFloorModel" "hall" "LMotionFloorModel$Hall;") (List.mem_of_getElem? (i := 0) rfl)) (fun _ h9 => h9) rfl dX12_count_188 ?_
      refine va_get (D := G) (ci := 8) (v := .int (S.2.1.1 39)) (C := RX11) (T := TX11) (N := 42) hx hb hts iX11 hown hK hP 5 rfl rfl 39 (by decide) (hw (.fieldLink RX12 155 "MotionFloorModel$Hall" "lastWords" "I") (List.mem_of_getElem? (i := 14) rfl)) (fun _ h9 => h9) rfl dX12_count_191 ?_
      subst hQ
      exact W.iret (v := (S.2.1.1 39)) hx hb hr (fun t ht hW => ⟨⟨(S.2.1.1 39), S, rfl, hE.trans hX.symm, by rw [ht]; exact hP, hD⟩, hS.F ht⟩) hS.2.2 dX12_count_194
    rw [if_neg s10] at hE hp
    have s10 := wNe (b := 10) rfl (by decide) s10
    by_cases s11 : x1 = 11
    · rw [if_pos s11] at hE hp
      refine lv_tableIn (off := 194) (tgt := 195) hx hb dX12_count_1 (by rw [s11]; decide) (by rw [s11]; decide) (by rw [s11]; decide) (by decide) ?_
      refine lv_aload_n hx hb dX12_count_195 rfl (lv_at hl 0 rfl) ?_
      refine va_get (D := G) (ci := 9) (v := .ref h1) (C := RX12) (T := TX12) (N := 7) hx hb hts iX12 hown hK hP 0 rfl rfl 0 (by decide) (hw (.fieldLink RX12 16 "MotionFloorModel" "hall" "LMotionFloorModel$Hall;") (List.mem_of_getElem? (i := 0) rfl)) (fun _ h9 => h9) rfl dX12_count_196 ?_
      refine va_get (D := G) (ci := 8) (v := .int (S.2.1.1 9)) (C := RX11) (T := TX11) (N := 42) hx hb hts iX11 hown hK hP 5 rfl rfl 9 (by decide) (hw (.fieldLink RX12 158 "MotionFloorModel$Hall" "adopted" "I") (List.mem_of_getElem? (i := 15) rfl)) (fun _ h9 => h9) rfl dX12_count_199 ?_
      subst hQ
      exact W.iret (v := (S.2.1.1 9)) hx hb hr (fun t ht hW => ⟨⟨(S.2.1.1 9), S, rfl, hE.trans hX.symm, by rw [ht]; exact hP, hD⟩, hS.F ht⟩) hS.2.2 dX12_count_202
    rw [if_neg s11] at hE hp
    have s11 := wNe (b := 11) rfl (by decide) s11
    by_cases s12 : x1 = 12
    · rw [if_pos s12] at hE hp
      refine lv_tableIn (off := 202) (tgt := 203) hx hb dX12_count_1 (by rw [s12]; decide) (by rw [s12]; decide) (by rw [s12]; decide) (by decide) ?_
      refine lv_aload_n hx hb dX12_count_203 rfl (lv_at hl 0 rfl) ?_
      refine va_get (D := G) (ci := 9) (v := .int (S.1.1 6)) (C := RX12) (T := TX12) (N := 7) hx hb hts iX12 hown hK hP 0 rfl rfl 6 (by decide) (hw (.fieldLink RX12 161 "MotionFloorModel" "tolds" "I") (List.mem_of_getElem? (i := 16) rfl)) (fun _ h9 => h9) rfl dX12_count_204 ?_
      subst hQ
      exact W.iret (v := (S.1.1 6)) hx hb hr (fun t ht hW => ⟨⟨(S.1.1 6), S, rfl, hE.trans hX.symm, by rw [ht]; exact hP, hD⟩, hS.F ht⟩) hS.2.2 dX12_count_207
    rw [if_neg s12] at hE hp
    have s12 := wNe (b := 12) rfl (by decide) s12
    refine lv_tableOut (tgt := 208) hx hb dX12_count_1 (by omega) (by decide) ?_
    refine lv_iconst (v := (-1)) hx hb dX12_count_208 (by decide) ?_
    subst hQ
    exact W.iret (v := (-1)) hx hb hr (fun t ht hW => ⟨⟨(-1), S, rfl, hE.trans hX.symm, by rw [ht]; exact hP, hD⟩, hS.F ht⟩) hS.2.2 dX12_count_209
  exact B_M S0 a1 _ _ _ hX hp hP hD hS hl
theorem gdX12_seat_0 : ckS (List.drop 0 cX12_seat.data.toList) 0 [(0, .iload_n 1, 1), (1, .iconst 0, 1), (2, .aload_n 0, 1), (3, .getfield 16, 3), (6, .getfield 96, 3), (9, .iconst 1, 1), (10, .isub, 1), (11, .invokestatic 1, 3), (14, .ifCond .ne 7, 3), (17, .iconst (-1), 1), (18, .goto 20, 3), (21, .aload_n 0, 1), (22, .getfield 16, 3), (25, .getfield 164, 3), (28, .iload_n 1, 1), (29, .baload, 1), (30, .ifCond .eq 7, 3), (33, .iconst 1, 1), (34, .goto 4, 3), (37, .iconst 0, 1), (38, .ireturn, 1)] = true := by decide +kernel
theorem dX12_seat_0 : decode cX12_seat 0 = .ok (.iload_n 1, 1) := ckS_g gdX12_seat_0 0 rfl
theorem dX12_seat_1 : decode cX12_seat 1 = .ok (.iconst 0, 1) := ckS_g gdX12_seat_0 1 rfl
theorem dX12_seat_2 : decode cX12_seat 2 = .ok (.aload_n 0, 1) := ckS_g gdX12_seat_0 2 rfl
theorem dX12_seat_3 : decode cX12_seat 3 = .ok (.getfield 16, 3) := ckS_g gdX12_seat_0 3 rfl
theorem dX12_seat_6 : decode cX12_seat 6 = .ok (.getfield 96, 3) := ckS_g gdX12_seat_0 4 rfl
theorem dX12_seat_9 : decode cX12_seat 9 = .ok (.iconst 1, 1) := ckS_g gdX12_seat_0 5 rfl
theorem dX12_seat_10 : decode cX12_seat 10 = .ok (.isub, 1) := ckS_g gdX12_seat_0 6 rfl
theorem dX12_seat_11 : decode cX12_seat 11 = .ok (.invokestatic 1, 3) := ckS_g gdX12_seat_0 7 rfl
theorem dX12_seat_14 : decode cX12_seat 14 = .ok (.ifCond .ne 7, 3) := ckS_g gdX12_seat_0 8 rfl
theorem dX12_seat_17 : decode cX12_seat 17 = .ok (.iconst (-1), 1) := ckS_g gdX12_seat_0 9 rfl
theorem dX12_seat_18 : decode cX12_seat 18 = .ok (.goto 20, 3) := ckS_g gdX12_seat_0 10 rfl
theorem dX12_seat_21 : decode cX12_seat 21 = .ok (.aload_n 0, 1) := ckS_g gdX12_seat_0 11 rfl
theorem dX12_seat_22 : decode cX12_seat 22 = .ok (.getfield 16, 3) := ckS_g gdX12_seat_0 12 rfl
theorem dX12_seat_25 : decode cX12_seat 25 = .ok (.getfield 164, 3) := ckS_g gdX12_seat_0 13 rfl
theorem dX12_seat_28 : decode cX12_seat 28 = .ok (.iload_n 1, 1) := ckS_g gdX12_seat_0 14 rfl
theorem dX12_seat_29 : decode cX12_seat 29 = .ok (.baload, 1) := ckS_g gdX12_seat_0 15 rfl
theorem dX12_seat_30 : decode cX12_seat 30 = .ok (.ifCond .eq 7, 3) := ckS_g gdX12_seat_0 16 rfl
theorem dX12_seat_33 : decode cX12_seat 33 = .ok (.iconst 1, 1) := ckS_g gdX12_seat_0 17 rfl
theorem dX12_seat_34 : decode cX12_seat 34 = .ok (.goto 4, 3) := ckS_g gdX12_seat_0 18 rfl
theorem dX12_seat_37 : decode cX12_seat 37 = .ok (.iconst 0, 1) := ckS_g gdX12_seat_0 19 rfl
theorem dX12_seat_38 : decode cX12_seat 38 = .ok (.ireturn, 1) := ckS_g gdX12_seat_0 20 rfl
set_option maxRecDepth 100000 in
theorem z295 : wZ (.fieldLink RX12 164 "MotionFloorModel$Hall" "isThere" "[Z") := ⟨wT5 (List.mem_of_getElem? (i := 57) (by decide +kernel)), Or.inl rfl⟩
set_option maxRecDepth 100000 in
theorem z296 : wZ (.code yX12_seat cX12_seat 2 (some .int)) := ⟨wT7 (List.mem_of_getElem? (i := 6) rfl), Or.inl rfl⟩
def b_X12_seat_38 (S : MS) (x1 y0 : Int32) : Int32 × MS := (y0, S)
def q_X12_seat_38 (S : MS) (x1 y0 : Int32) : Prop := True
def f_X12_seat (S : MS) (x1 : Int32) : Int32 × MS := if (f_X12_in x1 0 ((S.2.1.1 0) - 1)) = 0 then (b_X12_seat_38 S x1 (-1)) else if (S.2.1.2 11 x1.toNatClampNeg) = 0 then (b_X12_seat_38 S x1 0) else (b_X12_seat_38 S x1 1)
def p_X12_seat (S : MS) (x1 : Int32) : Prop := (p_X12_in x1 0 ((S.2.1.1 0) - 1)) ∧ (if (f_X12_in x1 0 ((S.2.1.1 0) - 1)) = 0 then (q_X12_seat_38 S x1 (-1)) else (vp_in x1 200) ∧ (if (S.2.1.2 11 x1.toNatClampNeg) = 0 then (q_X12_seat_38 S x1 0) else (q_X12_seat_38 S x1 1)))
def e_X12_seat : List Cond := [.fieldLink RX12 16 "MotionFloorModel" "hall" "LMotionFloorModel$Hall;", .fieldLink RX12 96 "MotionFloorModel$Hall" "seats" "I", .methodLink RX12 1 yX12_in, .static yX12_in, .initialized RX12, .fieldLink RX12 164 "MotionFloorModel$Hall" "isThere" "[Z"]
def v_X12_seat : List Cond := .code yX12_seat cX12_seat 2 (some .int) :: (e_X12_seat ++ (wsX120 ++ (wsX110 ++ (v_X12_in ++ []))))
theorem te_X12_seat : GoodIn lw_tbl e_X12_seat := wGc z219 (wGc z270 (wGc z3 (wGc z2 (wGc z1 (wGc z295 (wG0))))))
theorem t_X12_seat : GoodIn lw_tbl v_X12_seat := wGc z296 (wGa te_X12_seat (wGa zcX12 (wGa zcX11 (wGa t_X12_in (wG0)))))
set_option maxHeartbeats 4000000 in
set_option maxRecDepth 100000 in
theorem c_X12_seat (l : Launch) (G : va_G) (K : Nat → ClassId) (m0 : Nat) (gm : Nat → Nat) (h1 : Nat) (g1 : Nat → Nat) (h2 : Nat) (g2 : Nat → Nat) (S0 : MS) (a1 : Int32) (sz : Nat) : Met l yX12_seat v_X12_seat ({ frames := 1, cells := 0, slots := 0, locals := 22 }) (va_Pc [.ref m0, .int a1] (mSt G K m0 gm h1 g1 h2 g2 sz S0 (p_X12_seat S0 a1))) (va_Qi (fun (r : Int32) (u : MS) => (r, u) = f_X12_seat S0 a1) (mB G K m0 gm h1 g1 h2 g2 (va_A (mW K m0 gm h1 g1 h2 g2 S0) sz)) (va_A (mW K m0 gm h1 g1 h2 g2 S0) sz)) 0 0 (va_A (mW K m0 gm h1 g1 h2 g2 S0) sz) := by
  refine Met.ofW (cc := cX12_seat) (maxL := 2) (ret := (some .int)) (by decide) rfl ?_
  intro p e s m args below meth c s₁ B hml hv
  obtain ⟨rfl, ⟨hsz, hP, hK, hD0, hTE⟩, hp⟩ := hv
  have hx := B.exec
  have hb := B.bytes
  have hr := B.returns
  have hts := atoms_spec (ws := v_X12_seat) B.pre
  have t_ := t_X12_seat
  have mw : ∀ w ∈ e_X12_seat, w ∈ v_X12_seat := fun w h => List.mem_cons_of_mem _ (List.mem_append_left _ h)
  have hw := fun w (h : w ∈ e_X12_seat) => hts w (mw w h)
  have iX12 : ∀ w ∈ wsX120, w ∈ v_X12_seat := fun w h => List.mem_cons_of_mem _ (List.mem_append_right _ (List.mem_append_left _ h))
  have iX11 : ∀ w ∈ wsX110, w ∈ v_X12_seat := fun w h => List.mem_cons_of_mem _ (List.mem_append_right _ (List.mem_append_right _ (List.mem_append_left _ h)))
  have j_X12_in : ∀ w ∈ v_X12_in, w ∈ v_X12_seat := fun w h => List.mem_cons_of_mem _ (List.mem_append_right _ (List.mem_append_right _ (List.mem_append_right _ (List.mem_append_left _ h))))
  have hown : s.vm.findClass RX12 = some m.cls := findClass_of_methodNamed B.named
  have hlocks := B.notSynchronized
  subst hsz
  have hD := hD0.self (sz := s.heap.size)
  generalize hAe : va_A (mW K m0 gm h1 g1 h2 g2 S0) s.heap.size = A at hD ⊢
  have hA : ∀ q : Nat, s.heap.size ≤ q → A q := fun q h => by rw [← hAe]; exact Or.inr h
  have hS : va_S A s.heap s.heap [] := va_S.rf
  have hl := lv_entry ([.ref m0, .int a1]) (n := 2) (Nat.le_of_ble_eq_true rfl)
  rw [lg_entry_eq]
  generalize (lg_sl ([.ref m0, .int a1]) ++ List.replicate (2 - (lg_sl ([.ref m0, .int a1])).length) Slot.unset).toArray = ls at hl ⊢
  have hl : lv_has ls 2 [(0, .ref m0), (1, .int a1)] := hl
  refine wGen (fun Q hQ => ?_)
  obtain ⟨X, hX⟩ : ∃ X, f_X12_seat S0 a1 = X := ⟨_, rfl⟩
  have B_38 : ∀ (S : MS) (x1 y0 : Int32) (H : Heap) (locs : List Loc) (ls : Array Slot), b_X12_seat_38 S x1 y0 = X → q_X12_seat_38 S x1 y0 → va_P G vwCl (mW K m0 gm h1 g1 h2 g2 S) H → va_D A (mW K m0 gm h1 g1 h2 g2 S) → va_S A s.heap H locs → lv_has ls 2 [(0, .ref m0), (1, .int x1)] → W p l e ({ frames := 1, cells := 0, slots := 0, locals := 22 } : Room) s m #[Value.ref m0, Value.int a1] below meth c H locs 0 0 Q (F0 m 38 ls [.int y0]) := by
    intro S x1 y0 H locs ls hE hp hP hD hS hl
    unfold b_X12_seat_38 at hE
    unfold q_X12_seat_38 at hp
    subst hQ
    exact W.iret (v := y0) hx hb hr (fun t ht hW => ⟨⟨y0, S, rfl, hE.trans hX.symm, by rw [ht]; exact hP, hD⟩, hS.F ht⟩) hS.2.2 dX12_seat_38
  have B_M : ∀ (S : MS) (x1 : Int32) (H : Heap) (locs : List Loc) (ls : Array Slot), f_X12_seat S x1 = X → p_X12_seat S x1 → va_P G vwCl (mW K m0 gm h1 g1 h2 g2 S) H → va_D A (mW K m0 gm h1 g1 h2 g2 S) → va_S A s.heap H locs → lv_has ls 2 [(0, .ref m0), (1, .int x1)] → W p l e ({ frames := 1, cells := 0, slots := 0, locals := 22 } : Room) s m #[Value.ref m0, Value.int a1] below meth c H locs 0 0 Q (F0 m 0 ls []) := by
    intro S x1 H locs ls hE hp hP hD hS hl
    unfold f_X12_seat at hE
    unfold p_X12_seat at hp
    refine lv_iload_n hx hb dX12_seat_0 rfl (lv_at hl 1 rfl) ?_
    refine lv_iconst (v := 0) hx hb dX12_seat_1 (by decide) ?_
    refine lv_aload_n hx hb dX12_seat_2 rfl (lv_at hl 0 rfl) ?_
    refine va_get (D := G) (ci := 9) (v := .ref h1) (C := RX12) (T := TX12) (N := 7) hx hb hts iX12 hown hK hP 0 rfl rfl 0 (by decide) (hw (.fieldLink RX12 16 "MotionFloorModel" "hall" "LMotionFloorModel$Hall;") (List.mem_of_getElem? (i := 0) rfl)) (fun _ h9 => h9) rfl dX12_seat_3 ?_
    refine va_get (D := G) (ci := 8) (v := .int (S.2.1.1 0)) (C := RX11) (T := TX11) (N := 42) hx hb hts iX11 hown hK hP 5 rfl rfl 0 (by decide) (hw (.fieldLink RX12 96 "MotionFloorModel$Hall" "seats" "I") (List.mem_of_getElem? (i := 1) rfl)) (fun _ h9 => h9) rfl dX12_seat_6 ?_
    refine lv_iconst (v := 1) hx hb dX12_seat_9 (by decide) ?_
    refine lv_isub hx hb dX12_seat_10 ?_
    obtain ⟨hy1, hp⟩ := hp
    refine nGoi (va_runS (As := [.int x1, .int 0, .int ((S.2.1.1 0) - 1)]) (rest := []) ⟨hx, hb, hml, hown, hts⟩ (c_X12_in l G K x1 0 ((S.2.1.1 0) - 1) _) (va_cwS 3 hts (wGS t_ (mw (.methodLink RX12 1 yX12_in) (List.mem_of_getElem? (i := 2) rfl)) (mw (.static yX12_in) (List.mem_of_getElem? (i := 3) rfl)) (mw (.initialized RX12) (List.mem_of_getElem? (i := 4) rfl)) j_X12_in) rfl rfl rfl (by decide +kernel) ⟨Nat.le_of_ble_eq_true rfl, Nat.le_of_ble_eq_true rfl⟩) (nPS hK hTE hy1) rfl rfl hl.1 rfl (lv_room (Nat.le_of_ble_eq_true rfl)) dX12_seat_11 ⟨Nat.le_of_ble_eq_true rfl, Nat.le_of_ble_eq_true rfl⟩) hP hS hA (fun r H locs hv hP hS => ?_)
    subst hv
    refine lv_if_ne (tgt := 21) hx hb dX12_seat_14 (by decide) (fun c2 => ?_) (fun c2 => ?_)
    · rw [if_neg c2] at hE hp
      refine lv_aload_n hx hb dX12_seat_21 rfl (lv_at hl 0 rfl) ?_
      refine va_get (D := G) (ci := 9) (v := .ref h1) (C := RX12) (T := TX12) (N := 7) hx hb hts iX12 hown hK hP 0 rfl rfl 0 (by decide) (hw (.fieldLink RX12 16 "MotionFloorModel" "hall" "LMotionFloorModel$Hall;") (List.mem_of_getElem? (i := 0) rfl)) (fun _ h9 => h9) rfl dX12_seat_22 ?_
      refine va_get (D := G) (ci := 8) (v := .ref (g1 11)) (C := RX11) (T := TX11) (N := 42) hx hb hts iX11 hown hK hP 5 rfl rfl 11 (by decide) (hw (.fieldLink RX12 164 "MotionFloorModel$Hall" "isThere" "[Z") (List.mem_of_getElem? (i := 5) rfl)) (fun _ h9 => h9) rfl dX12_seat_25 ?_
      refine lv_iload_n hx hb dX12_seat_28 rfl (lv_at hl 1 rfl) ?_
      obtain ⟨hy3, hp⟩ := hp
      refine va_zald hx hb hK hP 6 1 rfl rfl hy3 dX12_seat_29 ?_
      refine lv_if_eq (tgt := 37) hx hb dX12_seat_30 (by decide) (fun c4 => ?_) (fun c4 => ?_)
      · rw [if_pos c4] at hE hp
        refine lv_iconst (v := 0) hx hb dX12_seat_37 (by decide) ?_
        exact B_38 S x1 0 _ _ _ hE hp hP hD hS (lv_sub hl [0, 1] rfl)
      · rw [if_neg c4] at hE hp
        refine lv_iconst (v := 1) hx hb dX12_seat_33 (by decide) ?_
        refine lv_goto (tgt := 38) hx hb dX12_seat_34 (by decide) ?_
        exact B_38 S x1 1 _ _ _ hE hp hP hD hS (lv_sub hl [0, 1] rfl)
    · rw [if_pos c2] at hE hp
      refine lv_iconst (v := (-1)) hx hb dX12_seat_17 (by decide) ?_
      refine lv_goto (tgt := 38) hx hb dX12_seat_18 (by decide) ?_
      exact B_38 S x1 (-1) _ _ _ hE hp hP hD hS (lv_sub hl [0, 1] rfl)
  exact B_M S0 a1 _ _ _ hX hp hP hD hS hl
theorem gdX12_journal_0 : ckS (List.drop 0 cX12_journal.data.toList) 0 [(0, .iload_n 1, 1), (1, .iconst 0, 1), (2, .aload_n 0, 1), (3, .getfield 16, 3), (6, .getfield 48, 3), (9, .iconst 1, 1), (10, .isub, 1), (11, .invokestatic 1, 3), (14, .ifCond .eq 29, 3), (17, .iload_n 2, 1), (18, .iconst 0, 1), (19, .iconst 5, 1), (20, .invokestatic 1, 3), (23, .ifCond .eq 20, 3), (26, .aload_n 0, 1), (27, .getfield 16, 3), (30, .getfield 167, 3), (33, .bipush 6, 2), (35, .iload_n 1, 1), (36, .imul, 1), (37, .iload_n 2, 1), (38, .iadd, 1), (39, .iaload, 1), (40, .goto 4, 3), (43, .iconst (-1), 1), (44, .ireturn, 1)] = true := by decide +kernel
theorem dX12_journal_0 : decode cX12_journal 0 = .ok (.iload_n 1, 1) := ckS_g gdX12_journal_0 0 rfl
theorem dX12_journal_1 : decode cX12_journal 1 = .ok (.iconst 0, 1) := ckS_g gdX12_journal_0 1 rfl
theorem dX12_journal_2 : decode cX12_journal 2 = .ok (.aload_n 0, 1) := ckS_g gdX12_journal_0 2 rfl
theorem dX12_journal_3 : decode cX12_journal 3 = .ok (.getfield 16, 3) := ckS_g gdX12_journal_0 3 rfl
theorem dX12_journal_6 : decode cX12_journal 6 = .ok (.getfield 48, 3) := ckS_g gdX12_journal_0 4 rfl
theorem dX12_journal_9 : decode cX12_journal 9 = .ok (.iconst 1, 1) := ckS_g gdX12_journal_0 5 rfl
theorem dX12_journal_10 : decode cX12_journal 10 = .ok (.isub, 1) := ckS_g gdX12_journal_0 6 rfl
theorem dX12_journal_11 : decode cX12_journal 11 = .ok (.invokestatic 1, 3) := ckS_g gdX12_journal_0 7 rfl
theorem dX12_journal_14 : decode cX12_journal 14 = .ok (.ifCond .eq 29, 3) := ckS_g gdX12_journal_0 8 rfl
theorem dX12_journal_17 : decode cX12_journal 17 = .ok (.iload_n 2, 1) := ckS_g gdX12_journal_0 9 rfl
theorem dX12_journal_18 : decode cX12_journal 18 = .ok (.iconst 0, 1) := ckS_g gdX12_journal_0 10 rfl
theorem dX12_journal_19 : decode cX12_journal 19 = .ok (.iconst 5, 1) := ckS_g gdX12_journal_0 11 rfl
theorem dX12_journal_20 : decode cX12_journal 20 = .ok (.invokestatic 1, 3) := ckS_g gdX12_journal_0 12 rfl
theorem dX12_journal_23 : decode cX12_journal 23 = .ok (.ifCond .eq 20, 3) := ckS_g gdX12_journal_0 13 rfl
theorem dX12_journal_26 : decode cX12_journal 26 = .ok (.aload_n 0, 1) := ckS_g gdX12_journal_0 14 rfl
theorem dX12_journal_27 : decode cX12_journal 27 = .ok (.getfield 16, 3) := ckS_g gdX12_journal_0 15 rfl
theorem dX12_journal_30 : decode cX12_journal 30 = .ok (.getfield 167, 3) := ckS_g gdX12_journal_0 16 rfl
theorem dX12_journal_33 : decode cX12_journal 33 = .ok (.bipush 6, 2) := ckS_g gdX12_journal_0 17 rfl
theorem dX12_journal_35 : decode cX12_journal 35 = .ok (.iload_n 1, 1) := ckS_g gdX12_journal_0 18 rfl
theorem dX12_journal_36 : decode cX12_journal 36 = .ok (.imul, 1) := ckS_g gdX12_journal_0 19 rfl
theorem dX12_journal_37 : decode cX12_journal 37 = .ok (.iload_n 2, 1) := ckS_g gdX12_journal_0 20 rfl
theorem dX12_journal_38 : decode cX12_journal 38 = .ok (.iadd, 1) := ckS_g gdX12_journal_0 21 rfl
theorem dX12_journal_39 : decode cX12_journal 39 = .ok (.iaload, 1) := ckS_g gdX12_journal_0 22 rfl
theorem dX12_journal_40 : decode cX12_journal 40 = .ok (.goto 4, 3) := ckS_g gdX12_journal_0 23 rfl
theorem dX12_journal_43 : decode cX12_journal 43 = .ok (.iconst (-1), 1) := ckS_g gdX12_journal_0 24 rfl
theorem dX12_journal_44 : decode cX12_journal 44 = .ok (.ireturn, 1) := ckS_g gdX12_journal_0 25 rfl
set_option maxRecDepth 100000 in
theorem z297 : wZ (.fieldLink RX12 167 "MotionFloorModel$Hall" "minutes" "[I") := ⟨wT5 (List.mem_of_getElem? (i := 108) (by decide +kernel)), Or.inl rfl⟩
set_option maxRecDepth 100000 in
theorem z298 : wZ (.code yX12_journal cX12_journal 3 (some .int)) := ⟨wT7 (List.mem_of_getElem? (i := 10) rfl), Or.inl rfl⟩
def b_X12_journal_44 (S : MS) (x1 x2 y0 : Int32) : Int32 × MS := (y0, S)
def q_X12_journal_44 (S : MS) (x1 x2 y0 : Int32) : Prop := True
def b_X12_journal_43 (S : MS) (x1 x2 : Int32) : Int32 × MS := (b_X12_journal_44 S x1 x2 (-1))
def q_X12_journal_43 (S : MS) (x1 x2 : Int32) : Prop := (q_X12_journal_44 S x1 x2 (-1))
def f_X12_journal (S : MS) (x1 x2 : Int32) : Int32 × MS := if (f_X12_in x1 0 ((S.2.1.1 7) - 1)) = 0 then (b_X12_journal_43 S x1 x2) else if (f_X12_in x2 0 5) = 0 then (b_X12_journal_43 S x1 x2) else (b_X12_journal_44 S x1 x2 (S.2.1.2 40 ((6 * x1) + x2).toNatClampNeg))
def p_X12_journal (S : MS) (x1 x2 : Int32) : Prop := (p_X12_in x1 0 ((S.2.1.1 7) - 1)) ∧ (if (f_X12_in x1 0 ((S.2.1.1 7) - 1)) = 0 then (q_X12_journal_43 S x1 x2) else (p_X12_in x2 0 5) ∧ (if (f_X12_in x2 0 5) = 0 then (q_X12_journal_43 S x1 x2) else (vp_in ((6 * x1) + x2) 3600) ∧ (q_X12_journal_44 S x1 x2 (S.2.1.2 40 ((6 * x1) + x2).toNatClampNeg))))
def e_X12_journal : List Cond := [.fieldLink RX12 16 "MotionFloorModel" "hall" "LMotionFloorModel$Hall;", .fieldLink RX12 48 "MotionFloorModel$Hall" "entries" "I", .methodLink RX12 1 yX12_in, .static yX12_in, .initialized RX12, .fieldLink RX12 167 "MotionFloorModel$Hall" "minutes" "[I"]
def v_X12_journal : List Cond := .code yX12_journal cX12_journal 3 (some .int) :: (e_X12_journal ++ (wsX120 ++ (wsX110 ++ (v_X12_in ++ []))))
theorem te_X12_journal : GoodIn lw_tbl e_X12_journal := wGc z219 (wGc z246 (wGc z3 (wGc z2 (wGc z1 (wGc z297 (wG0))))))
theorem t_X12_journal : GoodIn lw_tbl v_X12_journal := wGc z298 (wGa te_X12_journal (wGa zcX12 (wGa zcX11 (wGa t_X12_in (wG0)))))
set_option maxHeartbeats 4000000 in
set_option maxRecDepth 100000 in
theorem c_X12_journal (l : Launch) (G : va_G) (K : Nat → ClassId) (m0 : Nat) (gm : Nat → Nat) (h1 : Nat) (g1 : Nat → Nat) (h2 : Nat) (g2 : Nat → Nat) (S0 : MS) (a1 a2 : Int32) (sz : Nat) : Met l yX12_journal v_X12_journal ({ frames := 1, cells := 0, slots := 0, locals := 22 }) (va_Pc [.ref m0, .int a1, .int a2] (mSt G K m0 gm h1 g1 h2 g2 sz S0 (p_X12_journal S0 a1 a2))) (va_Qi (fun (r : Int32) (u : MS) => (r, u) = f_X12_journal S0 a1 a2) (mB G K m0 gm h1 g1 h2 g2 (va_A (mW K m0 gm h1 g1 h2 g2 S0) sz)) (va_A (mW K m0 gm h1 g1 h2 g2 S0) sz)) 0 0 (va_A (mW K m0 gm h1 g1 h2 g2 S0) sz) := by
  refine Met.ofW (cc := cX12_journal) (maxL := 3) (ret := (some .int)) (by decide) rfl ?_
  intro p e s m args below meth c s₁ B hml hv
  obtain ⟨rfl, ⟨hsz, hP, hK, hD0, hTE⟩, hp⟩ := hv
  have hx := B.exec
  have hb := B.bytes
  have hr := B.returns
  have hts := atoms_spec (ws := v_X12_journal) B.pre
  have t_ := t_X12_journal
  have mw : ∀ w ∈ e_X12_journal, w ∈ v_X12_journal := fun w h => List.mem_cons_of_mem _ (List.mem_append_left _ h)
  have hw := fun w (h : w ∈ e_X12_journal) => hts w (mw w h)
  have iX12 : ∀ w ∈ wsX120, w ∈ v_X12_journal := fun w h => List.mem_cons_of_mem _ (List.mem_append_right _ (List.mem_append_left _ h))
  have iX11 : ∀ w ∈ wsX110, w ∈ v_X12_journal := fun w h => List.mem_cons_of_mem _ (List.mem_append_right _ (List.mem_append_right _ (List.mem_append_left _ h)))
  have j_X12_in : ∀ w ∈ v_X12_in, w ∈ v_X12_journal := fun w h => List.mem_cons_of_mem _ (List.mem_append_right _ (List.mem_append_right _ (List.mem_append_right _ (List.mem_append_left _ h))))
  have hown : s.vm.findClass RX12 = some m.cls := findClass_of_methodNamed B.named
  have hlocks := B.notSynchronized
  subst hsz
  have hD := hD0.self (sz := s.heap.size)
  generalize hAe : va_A (mW K m0 gm h1 g1 h2 g2 S0) s.heap.size = A at hD ⊢
  have hA : ∀ q : Nat, s.heap.size ≤ q → A q := fun q h => by rw [← hAe]; exact Or.inr h
  have hS : va_S A s.heap s.heap [] := va_S.rf
  have hl := lv_entry ([.ref m0, .int a1, .int a2]) (n := 3) (Nat.le_of_ble_eq_true rfl)
  rw [lg_entry_eq]
  generalize (lg_sl ([.ref m0, .int a1, .int a2]) ++ List.replicate (3 - (lg_sl ([.ref m0, .int a1, .int a2])).length) Slot.unset).toArray = ls at hl ⊢
  have hl : lv_has ls 3 [(0, .ref m0), (1, .int a1), (2, .int a2)] := hl
  refine wGen (fun Q hQ => ?_)
  obtain ⟨X, hX⟩ : ∃ X, f_X12_journal S0 a1 a2 = X := ⟨_, rfl⟩
  have B_44 : ∀ (S : MS) (x1 x2 y0 : Int32) (H : Heap) (locs : List Loc) (ls : Array Slot), b_X12_journal_44 S x1 x2 y0 = X → q_X12_journal_44 S x1 x2 y0 → va_P G vwCl (mW K m0 gm h1 g1 h2 g2 S) H → va_D A (mW K m0 gm h1 g1 h2 g2 S) → va_S A s.heap H locs → lv_has ls 3 [(0, .ref m0), (1, .int x1), (2, .int x2)] → W p l e ({ frames := 1, cells := 0, slots := 0, locals := 22 } : Room) s m #[Value.ref m0, Value.int a1, Value.int a2] below meth c H locs 0 0 Q (F0 m 44 ls [.int y0]) := by
    intro S x1 x2 y0 H locs ls hE hp hP hD hS hl
    unfold b_X12_journal_44 at hE
    unfold q_X12_journal_44 at hp
    subst hQ
    exact W.iret (v := y0) hx hb hr (fun t ht hW => ⟨⟨y0, S, rfl, hE.trans hX.symm, by rw [ht]; exact hP, hD⟩, hS.F ht⟩) hS.2.2 dX12_journal_44
  have B_43 : ∀ (S : MS) (x1 x2 : Int32) (H : Heap) (locs : List Loc) (ls : Array Slot), b_X12_journal_43 S x1 x2 = X → q_X12_journal_43 S x1 x2 → va_P G vwCl (mW K m0 gm h1 g1 h2 g2 S) H → va_D A (mW K m0 gm h1 g1 h2 g2 S) → va_S A s.heap H locs → lv_has ls 3 [(0, .ref m0), (1, .int x1), (2, .int x2)] → W p l e ({ frames := 1, cells := 0, slots := 0, locals := 22 } : Room) s m #[Value.ref m0, Value.int a1, Value.int a2] below meth c H locs 0 0 Q (F0 m 43 ls []) := by
    intro S x1 x2 H locs ls hE hp hP hD hS hl
    unfold b_X12_journal_43 at hE
    unfold q_X12_journal_43 at hp
    refine lv_iconst (v := (-1)) hx hb dX12_journal_43 (by decide) ?_
    exact B_44 S x1 x2 (-1) _ _ _ hE hp hP hD hS (lv_sub hl [0, 1, 2] rfl)
  have B_M : ∀ (S : MS) (x1 x2 : Int32) (H : Heap) (locs : List Loc) (ls : Array Slot), f_X12_journal S x1 x2 = X → p_X12_journal S x1 x2 → va_P G vwCl (mW K m0 gm h1 g1 h2 g2 S) H → va_D A (mW K m0 gm h1 g1 h2 g2 S) → va_S A s.heap H locs → lv_has ls 3 [(0, .ref m0), (1, .int x1), (2, .int x2)] → W p l e ({ frames := 1, cells := 0, slots := 0, locals := 22 } : Room) s m #[Value.ref m0, Value.int a1, Value.int a2] below meth c H locs 0 0 Q (F0 m 0 ls []) := by
    intro S x1 x2 H locs ls hE hp hP hD hS hl
    unfold f_X12_journal at hE
    unfold p_X12_journal at hp
    refine lv_iload_n hx hb dX12_journal_0 rfl (lv_at hl 1 rfl) ?_
    refine lv_iconst (v := 0) hx hb dX12_journal_1 (by decide) ?_
    refine lv_aload_n hx hb dX12_journal_2 rfl (lv_at hl 0 rfl) ?_
    refine va_get (D := G) (ci := 9) (v := .ref h1) (C := RX12) (T := TX12) (N := 7) hx hb hts iX12 hown hK hP 0 rfl rfl 0 (by decide) (hw (.fieldLink RX12 16 "MotionFloorModel" "hall" "LMotionFloorModel$Hall;") (List.mem_of_getElem? (i := 0) rfl)) (fun _ h9 => h9) rfl dX12_journal_3 ?_
    refine va_get (D := G) (ci := 8) (v := .int (S.2.1.1 7)) (C := RX11) (T := TX11) (N := 42) hx hb hts iX11 hown hK hP 5 rfl rfl 7 (by decide) (hw (.fieldLink RX12 48 "MotionFloorModel$Hall" "entries" "I") (List.mem_of_getElem? (i := 1) rfl)) (fun _ h9 => h9) rfl dX12_journal_6 ?_
    refine lv_iconst (v := 1) hx hb dX12_journal_9 (by decide) ?_
    refine lv_isub hx hb dX12_journal_10 ?_
    obtain ⟨hy1, hp⟩ := hp
    refine nGoi (va_runS (As := [.int x1, .int 0, .int ((S.2.1.1 7) - 1)]) (rest := []) ⟨hx, hb, hml, hown, hts⟩ (c_X12_in l G K x1 0 ((S.2.1.1 7) - 1) _) (va_cwS 3 hts (wGS t_ (mw (.methodLink RX12 1 yX12_in) (List.mem_of_getElem? (i := 2) rfl)) (mw (.static yX12_in) (List.mem_of_getElem? (i := 3) rfl)) (mw (.initialized RX12) (List.mem_of_getElem? (i := 4) rfl)) j_X12_in) rfl rfl rfl (by decide +kernel) ⟨Nat.le_of_ble_eq_true rfl, Nat.le_of_ble_eq_true rfl⟩) (nPS hK hTE hy1) rfl rfl hl.1 rfl (lv_room (Nat.le_of_ble_eq_true rfl)) dX12_journal_11 ⟨Nat.le_of_ble_eq_true rfl, Nat.le_of_ble_eq_true rfl⟩) hP hS hA (fun r H locs hv hP hS => ?_)
    subst hv
    refine lv_if_eq (tgt := 43) hx hb dX12_journal_14 (by decide) (fun c2 => ?_) (fun c2 => ?_)
    · rw [if_pos c2] at hE hp
      exact B_43 S x1 x2 _ _ _ hE hp hP hD hS (lv_sub hl [0, 1, 2] rfl)
    · rw [if_neg c2] at hE hp
      refine lv_iload_n hx hb dX12_journal_17 rfl (lv_at hl 2 rfl) ?_
      refine lv_iconst (v := 0) hx hb dX12_journal_18 (by decide) ?_
      refine lv_iconst (v := 5) hx hb dX12_journal_19 (by decide) ?_
      obtain ⟨hy3, hp⟩ := hp
      refine nGoi (va_runS (As := [.int x2, .int 0, .int 5]) (rest := []) ⟨hx, hb, hml, hown, hts⟩ (c_X12_in l G K x2 0 5 _) (va_cwS 3 hts (wGS t_ (mw (.methodLink RX12 1 yX12_in) (List.mem_of_getElem? (i := 2) rfl)) (mw (.static yX12_in) (List.mem_of_getElem? (i := 3) rfl)) (mw (.initialized RX12) (List.mem_of_getElem? (i := 4) rfl)) j_X12_in) rfl rfl rfl (by decide +kernel) ⟨Nat.le_of_ble_eq_true rfl, Nat.le_of_ble_eq_true rfl⟩) (nPS hK hTE hy3) rfl rfl hl.1 rfl (lv_room (Nat.le_of_ble_eq_true rfl)) dX12_journal_20 ⟨Nat.le_of_ble_eq_true rfl, Nat.le_of_ble_eq_true rfl⟩) hP hS hA (fun r H locs hv hP hS => ?_)
      subst hv
      refine lv_if_eq (tgt := 43) hx hb dX12_journal_23 (by decide) (fun c4 => ?_) (fun c4 => ?_)
      · rw [if_pos c4] at hE hp
        exact B_43 S x1 x2 _ _ _ hE hp hP hD hS (lv_sub hl [0, 1, 2] rfl)
      · rw [if_neg c4] at hE hp
        refine lv_aload_n hx hb dX12_journal_26 rfl (lv_at hl 0 rfl) ?_
        refine va_get (D := G) (ci := 9) (v := .ref h1) (C := RX12) (T := TX12) (N := 7) hx hb hts iX12 hown hK hP 0 rfl rfl 0 (by decide) (hw (.fieldLink RX12 16 "MotionFloorModel" "hall" "LMotionFloorModel$Hall;") (List.mem_of_getElem? (i := 0) rfl)) (fun _ h9 => h9) rfl dX12_journal_27 ?_
        refine va_get (D := G) (ci := 8) (v := .ref (g1 40)) (C := RX11) (T := TX11) (N := 42) hx hb hts iX11 hown hK hP 5 rfl rfl 40 (by decide) (hw (.fieldLink RX12 167 "MotionFloorModel$Hall" "minutes" "[I") (List.mem_of_getElem? (i := 5) rfl)) (fun _ h9 => h9) rfl dX12_journal_30 ?_
        refine lv_bipush (v := 6) hx hb dX12_journal_33 (by decide) ?_
        refine lv_iload_n hx hb dX12_journal_35 rfl (lv_at hl 1 rfl) ?_
        refine lv_imul hx hb dX12_journal_36 ?_
        refine lv_iload_n hx hb dX12_journal_37 rfl (lv_at hl 2 rfl) ?_
        refine lv_iadd hx hb dX12_journal_38 ?_
        obtain ⟨hy5, hp⟩ := hp
        refine va_iald hx hb hK hP 31 0 rfl rfl hy5 dX12_journal_39 ?_
        refine lv_goto (tgt := 44) hx hb dX12_journal_40 (by decide) ?_
        exact B_44 S x1 x2 (S.2.1.2 40 ((6 * x1) + x2).toNatClampNeg) _ _ _ hE hp hP hD hS (lv_sub hl [0, 1, 2] rfl)
  exact B_M S0 a1 a2 _ _ _ hX hp hP hD hS hl
theorem gdX12_again_0 : ckS (List.drop 0 cX12_again.data.toList) 0 [(0, .aload_n 0, 1), (1, .getfield 20, 3), (4, .aload_n 0, 1), (5, .getfield 16, 3), (8, .getfield 96, 3), (11, .invokevirtual 36, 3), (14, .iconst 0, 1), (15, .istore_n 1, 1), (16, .iload_n 1, 1), (17, .aload_n 0, 1), (18, .getfield 16, 3), (21, .getfield 48, 3), (24, .if_icmp .ge 92, 3), (27, .bipush 6, 2), (29, .iload_n 1, 1), (30, .imul, 1), (31, .istore_n 2, 1), (32, .aload_n 0, 1), (33, .getfield 20, 3), (36, .aload_n 0, 1), (37, .getfield 16, 3), (40, .getfield 167, 3), (43, .iload_n 2, 1), (44, .iaload, 1), (45, .aload_n 0, 1), (46, .getfield 16, 3), (49, .getfield 167, 3), (52, .iload_n 2, 1), (53, .iconst 1, 1), (54, .iadd, 1), (55, .iaload, 1), (56, .aload_n 0, 1), (57, .getfield 16, 3), (60, .getfield 167, 3), (63, .iload_n 2, 1), (64, .iconst 2, 1), (65, .iadd, 1), (66, .iaload, 1), (67, .aload_n 0, 1), (68, .getfield 16, 3)] = true := by decide +kernel
theorem dX12_again_0 : decode cX12_again 0 = .ok (.aload_n 0, 1) := ckS_g gdX12_again_0 0 rfl
theorem dX12_again_1 : decode cX12_again 1 = .ok (.getfield 20, 3) := ckS_g gdX12_again_0 1 rfl
theorem dX12_again_4 : decode cX12_again 4 = .ok (.aload_n 0, 1) := ckS_g gdX12_again_0 2 rfl
theorem dX12_again_5 : decode cX12_again 5 = .ok (.getfield 16, 3) := ckS_g gdX12_again_0 3 rfl
theorem dX12_again_8 : decode cX12_again 8 = .ok (.getfield 96, 3) := ckS_g gdX12_again_0 4 rfl
theorem dX12_again_11 : decode cX12_again 11 = .ok (.invokevirtual 36, 3) := ckS_g gdX12_again_0 5 rfl
theorem dX12_again_14 : decode cX12_again 14 = .ok (.iconst 0, 1) := ckS_g gdX12_again_0 6 rfl
theorem dX12_again_15 : decode cX12_again 15 = .ok (.istore_n 1, 1) := ckS_g gdX12_again_0 7 rfl
theorem dX12_again_16 : decode cX12_again 16 = .ok (.iload_n 1, 1) := ckS_g gdX12_again_0 8 rfl
theorem dX12_again_17 : decode cX12_again 17 = .ok (.aload_n 0, 1) := ckS_g gdX12_again_0 9 rfl
theorem dX12_again_18 : decode cX12_again 18 = .ok (.getfield 16, 3) := ckS_g gdX12_again_0 10 rfl
theorem dX12_again_21 : decode cX12_again 21 = .ok (.getfield 48, 3) := ckS_g gdX12_again_0 11 rfl
theorem dX12_again_24 : decode cX12_again 24 = .ok (.if_icmp .ge 92, 3) := ckS_g gdX12_again_0 12 rfl
theorem dX12_again_27 : decode cX12_again 27 = .ok (.bipush 6, 2) := ckS_g gdX12_again_0 13 rfl
theorem dX12_again_29 : decode cX12_again 29 = .ok (.iload_n 1, 1) := ckS_g gdX12_again_0 14 rfl
theorem dX12_again_30 : decode cX12_again 30 = .ok (.imul, 1) := ckS_g gdX12_again_0 15 rfl
theorem dX12_again_31 : decode cX12_again 31 = .ok (.istore_n 2, 1) := ckS_g gdX12_again_0 16 rfl
theorem dX12_again_32 : decode cX12_again 32 = .ok (.aload_n 0, 1) := ckS_g gdX12_again_0 17 rfl
theorem dX12_again_33 : decode cX12_again 33 = .ok (.getfield 20, 3) := ckS_g gdX12_again_0 18 rfl
theorem dX12_again_36 : decode cX12_again 36 = .ok (.aload_n 0, 1) := ckS_g gdX12_again_0 19 rfl
theorem dX12_again_37 : decode cX12_again 37 = .ok (.getfield 16, 3) := ckS_g gdX12_again_0 20 rfl
theorem dX12_again_40 : decode cX12_again 40 = .ok (.getfield 167, 3) := ckS_g gdX12_again_0 21 rfl
theorem dX12_again_43 : decode cX12_again 43 = .ok (.iload_n 2, 1) := ckS_g gdX12_again_0 22 rfl
theorem dX12_again_44 : decode cX12_again 44 = .ok (.iaload, 1) := ckS_g gdX12_again_0 23 rfl
theorem dX12_again_45 : decode cX12_again 45 = .ok (.aload_n 0, 1) := ckS_g gdX12_again_0 24 rfl
theorem dX12_again_46 : decode cX12_again 46 = .ok (.getfield 16, 3) := ckS_g gdX12_again_0 25 rfl
theorem dX12_again_49 : decode cX12_again 49 = .ok (.getfield 167, 3) := ckS_g gdX12_again_0 26 rfl
theorem dX12_again_52 : decode cX12_again 52 = .ok (.iload_n 2, 1) := ckS_g gdX12_again_0 27 rfl
theorem dX12_again_53 : decode cX12_again 53 = .ok (.iconst 1, 1) := ckS_g gdX12_again_0 28 rfl
theorem dX12_again_54 : decode cX12_again 54 = .ok (.iadd, 1) := ckS_g gdX12_again_0 29 rfl
theorem dX12_again_55 : decode cX12_again 55 = .ok (.iaload, 1) := ckS_g gdX12_again_0 30 rfl
theorem dX12_again_56 : decode cX12_again 56 = .ok (.aload_n 0, 1) := ckS_g gdX12_again_0 31 rfl
theorem dX12_again_57 : decode cX12_again 57 = .ok (.getfield 16, 3) := ckS_g gdX12_again_0 32 rfl
theorem dX12_again_60 : decode cX12_again 60 = .ok (.getfield 167, 3) := ckS_g gdX12_again_0 33 rfl
theorem dX12_again_63 : decode cX12_again 63 = .ok (.iload_n 2, 1) := ckS_g gdX12_again_0 34 rfl
theorem dX12_again_64 : decode cX12_again 64 = .ok (.iconst 2, 1) := ckS_g gdX12_again_0 35 rfl
theorem dX12_again_65 : decode cX12_again 65 = .ok (.iadd, 1) := ckS_g gdX12_again_0 36 rfl
theorem dX12_again_66 : decode cX12_again 66 = .ok (.iaload, 1) := ckS_g gdX12_again_0 37 rfl
theorem dX12_again_67 : decode cX12_again 67 = .ok (.aload_n 0, 1) := ckS_g gdX12_again_0 38 rfl
theorem dX12_again_68 : decode cX12_again 68 = .ok (.getfield 16, 3) := ckS_g gdX12_again_0 39 rfl
theorem gdX12_again_71 : ckS (List.drop 71 cX12_again.data.toList) 71 [(71, .getfield 167, 3), (74, .iload_n 2, 1), (75, .iconst 3, 1), (76, .iadd, 1), (77, .iaload, 1), (78, .aload_n 0, 1), (79, .getfield 16, 3), (82, .getfield 167, 3), (85, .iload_n 2, 1), (86, .iconst 4, 1), (87, .iadd, 1), (88, .iaload, 1), (89, .invokevirtual 40, 3), (92, .istore_n 3, 1), (93, .iload_n 3, 1), (94, .aload_n 0, 1), (95, .getfield 16, 3), (98, .getfield 167, 3), (101, .iload_n 2, 1), (102, .iconst 5, 1), (103, .iadd, 1), (104, .iaload, 1), (105, .if_icmp .eq 5, 3), (108, .iload_n 1, 1), (109, .ireturn, 1), (110, .iinc 1 1, 3), (113, .goto (-97), 3), (116, .iconst (-1), 1), (117, .ireturn, 1)] = true := by decide +kernel
theorem dX12_again_71 : decode cX12_again 71 = .ok (.getfield 167, 3) := ckS_g gdX12_again_71 0 rfl
theorem dX12_again_74 : decode cX12_again 74 = .ok (.iload_n 2, 1) := ckS_g gdX12_again_71 1 rfl
theorem dX12_again_75 : decode cX12_again 75 = .ok (.iconst 3, 1) := ckS_g gdX12_again_71 2 rfl
theorem dX12_again_76 : decode cX12_again 76 = .ok (.iadd, 1) := ckS_g gdX12_again_71 3 rfl
theorem dX12_again_77 : decode cX12_again 77 = .ok (.iaload, 1) := ckS_g gdX12_again_71 4 rfl
theorem dX12_again_78 : decode cX12_again 78 = .ok (.aload_n 0, 1) := ckS_g gdX12_again_71 5 rfl
theorem dX12_again_79 : decode cX12_again 79 = .ok (.getfield 16, 3) := ckS_g gdX12_again_71 6 rfl
theorem dX12_again_82 : decode cX12_again 82 = .ok (.getfield 167, 3) := ckS_g gdX12_again_71 7 rfl
theorem dX12_again_85 : decode cX12_again 85 = .ok (.iload_n 2, 1) := ckS_g gdX12_again_71 8 rfl
theorem dX12_again_86 : decode cX12_again 86 = .ok (.iconst 4, 1) := ckS_g gdX12_again_71 9 rfl
theorem dX12_again_87 : decode cX12_again 87 = .ok (.iadd, 1) := ckS_g gdX12_again_71 10 rfl
theorem dX12_again_88 : decode cX12_again 88 = .ok (.iaload, 1) := ckS_g gdX12_again_71 11 rfl
theorem dX12_again_89 : decode cX12_again 89 = .ok (.invokevirtual 40, 3) := ckS_g gdX12_again_71 12 rfl
theorem dX12_again_92 : decode cX12_again 92 = .ok (.istore_n 3, 1) := ckS_g gdX12_again_71 13 rfl
theorem dX12_again_93 : decode cX12_again 93 = .ok (.iload_n 3, 1) := ckS_g gdX12_again_71 14 rfl
theorem dX12_again_94 : decode cX12_again 94 = .ok (.aload_n 0, 1) := ckS_g gdX12_again_71 15 rfl
theorem dX12_again_95 : decode cX12_again 95 = .ok (.getfield 16, 3) := ckS_g gdX12_again_71 16 rfl
theorem dX12_again_98 : decode cX12_again 98 = .ok (.getfield 167, 3) := ckS_g gdX12_again_71 17 rfl
theorem dX12_again_101 : decode cX12_again 101 = .ok (.iload_n 2, 1) := ckS_g gdX12_again_71 18 rfl
theorem dX12_again_102 : decode cX12_again 102 = .ok (.iconst 5, 1) := ckS_g gdX12_again_71 19 rfl
theorem dX12_again_103 : decode cX12_again 103 = .ok (.iadd, 1) := ckS_g gdX12_again_71 20 rfl
theorem dX12_again_104 : decode cX12_again 104 = .ok (.iaload, 1) := ckS_g gdX12_again_71 21 rfl
theorem dX12_again_105 : decode cX12_again 105 = .ok (.if_icmp .eq 5, 3) := ckS_g gdX12_again_71 22 rfl
theorem dX12_again_108 : decode cX12_again 108 = .ok (.iload_n 1, 1) := ckS_g gdX12_again_71 23 rfl
theorem dX12_again_109 : decode cX12_again 109 = .ok (.ireturn, 1) := ckS_g gdX12_again_71 24 rfl
theorem dX12_again_110 : decode cX12_again 110 = .ok (.iinc 1 1, 3) := ckS_g gdX12_again_71 25 rfl
theorem dX12_again_113 : decode cX12_again 113 = .ok (.goto (-97), 3) := ckS_g gdX12_again_71 26 rfl
theorem dX12_again_116 : decode cX12_again 116 = .ok (.iconst (-1), 1) := ckS_g gdX12_again_71 27 rfl
theorem dX12_again_117 : decode cX12_again 117 = .ok (.ireturn, 1) := ckS_g gdX12_again_71 28 rfl
set_option maxRecDepth 100000 in
theorem z299 : wZ (.fieldLink RX12 20 "MotionFloorModel" "spare" "LMotionFloorModel$Hall;") := ⟨wT5 (List.mem_of_getElem? (i := 201) (by decide +kernel)), Or.inl rfl⟩
set_option maxRecDepth 100000 in
theorem z300 : wZ (.code yX12_again cX12_again 4 (some .int)) := ⟨wT7 (List.mem_of_getElem? (i := 23) rfl), Or.inl rfl⟩
def b_X12_again_a92 (S : MS) (x1 x2 y0 : Int32) : (Int32 × MS) ⊕ (MS × Int32) := if y0 = (S.2.1.2 40 (x2 + 5).toNatClampNeg) then Sum.inr (S, (x1 + 1)) else Sum.inl ((x1, S))
def q_X12_again_a92 (S : MS) (x1 x2 y0 : Int32) : Prop := (vp_in (x2 + 5) 3600) ∧ (if y0 = (S.2.1.2 40 (x2 + 5).toNatClampNeg) then True else True)
def st_X12_again_16 (S : MS) (x1 : Int32) : (Int32 × MS) ⊕ (MS × Int32) := if (S.2.1.1 7) ≤ x1 then Sum.inl (((-1), S)) else (b_X12_again_a92 (mS S ((f_X11_act S.2.2 (S.2.1.2 40 (6 * x1).toNatClampNeg) (S.2.1.2 40 ((6 * x1) + 1).toNatClampNeg) (S.2.1.2 40 ((6 * x1) + 2).toNatClampNeg) (S.2.1.2 40 ((6 * x1) + 3).toNatClampNeg) (S.2.1.2 40 ((6 * x1) + 4).toNatClampNeg)).2)) x1 (6 * x1) (f_X11_act S.2.2 (S.2.1.2 40 (6 * x1).toNatClampNeg) (S.2.1.2 40 ((6 * x1) + 1).toNatClampNeg) (S.2.1.2 40 ((6 * x1) + 2).toNatClampNeg) (S.2.1.2 40 ((6 * x1) + 3).toNatClampNeg) (S.2.1.2 40 ((6 * x1) + 4).toNatClampNeg)).1)
def ps_X12_again_16 (S : MS) (x1 : Int32) : Prop := (if (S.2.1.1 7) ≤ x1 then True else (vp_in (6 * x1) 3600) ∧ (vp_in ((6 * x1) + 1) 3600) ∧ (vp_in ((6 * x1) + 2) 3600) ∧ (vp_in ((6 * x1) + 3) 3600) ∧ (vp_in ((6 * x1) + 4) 3600) ∧ (p_X11_act S.2.2 (S.2.1.2 40 (6 * x1).toNatClampNeg) (S.2.1.2 40 ((6 * x1) + 1).toNatClampNeg) (S.2.1.2 40 ((6 * x1) + 2).toNatClampNeg) (S.2.1.2 40 ((6 * x1) + 3).toNatClampNeg) (S.2.1.2 40 ((6 * x1) + 4).toNatClampNeg)) ∧ (q_X12_again_a92 (mS S ((f_X11_act S.2.2 (S.2.1.2 40 (6 * x1).toNatClampNeg) (S.2.1.2 40 ((6 * x1) + 1).toNatClampNeg) (S.2.1.2 40 ((6 * x1) + 2).toNatClampNeg) (S.2.1.2 40 ((6 * x1) + 3).toNatClampNeg) (S.2.1.2 40 ((6 * x1) + 4).toNatClampNeg)).2)) x1 (6 * x1) (f_X11_act S.2.2 (S.2.1.2 40 (6 * x1).toNatClampNeg) (S.2.1.2 40 ((6 * x1) + 1).toNatClampNeg) (S.2.1.2 40 ((6 * x1) + 2).toNatClampNeg) (S.2.1.2 40 ((6 * x1) + 3).toNatClampNeg) (S.2.1.2 40 ((6 * x1) + 4).toNatClampNeg)).1))
def lp_X12_again_16 : Nat → MS → Int32 → Int32 × MS
  | 0, S, _ => (0, S)
  | n + 1, S, x1 => match st_X12_again_16 S x1 with
    | Sum.inl r => r
    | Sum.inr q => lp_X12_again_16 n q.1 q.2
def lq_X12_again_16 : Nat → MS → Int32 → Prop
  | 0, _, _ => False
  | n + 1, S, x1 => ps_X12_again_16 S x1 ∧ (match st_X12_again_16 S x1 with
    | Sum.inl _ => True
    | Sum.inr q => lq_X12_again_16 n q.1 q.2)
def b_X12_again_a14 (S : MS)  : Int32 × MS := (lp_X12_again_16 100000 S 0)
def q_X12_again_a14 (S : MS)  : Prop := (lq_X12_again_16 100000 S 0)
def f_X12_again (S : MS)  : Int32 × MS := (b_X12_again_a14 (mS S ((f_X11_begin S.2.2 (S.2.1.1 0)).2)) )
def p_X12_again (S : MS)  : Prop := (p_X11_begin S.2.2 (S.2.1.1 0)) ∧ (q_X12_again_a14 (mS S ((f_X11_begin S.2.2 (S.2.1.1 0)).2)) )
def e_X12_again : List Cond := [.fieldLink RX12 20 "MotionFloorModel" "spare" "LMotionFloorModel$Hall;", .fieldLink RX12 16 "MotionFloorModel" "hall" "LMotionFloorModel$Hall;", .fieldLink RX12 96 "MotionFloorModel$Hall" "seats" "I", .methodLink RX12 36 yX11_begin, .instanceMethod yX11_begin, .selects RX11 yX11_begin yX11_begin, .initialized RX11, .fieldLink RX12 48 "MotionFloorModel$Hall" "entries" "I", .fieldLink RX12 167 "MotionFloorModel$Hall" "minutes" "[I", .methodLink RX12 40 yX11_act, .instanceMethod yX11_act, .selects RX11 yX11_act yX11_act]
def v_X12_again : List Cond := .code yX12_again cX12_again 4 (some .int) :: (e_X12_again ++ (wsX120 ++ (wsX110 ++ (v_X11_begin ++ (v_X11_act ++ [])))))
theorem te_X12_again : GoodIn lw_tbl e_X12_again := wGc z299 (wGc z219 (wGc z270 (wGc z218 (wGc z217 (wGc z216 (wGc z51 (wGc z246 (wGc z297 (wGc z223 (wGc z222 (wGc z221 (wG0))))))))))))
theorem t_X12_again : GoodIn lw_tbl v_X12_again := wGc z300 (wGa te_X12_again (wGa zcX12 (wGa zcX11 (wGa t_X11_begin (wGa t_X11_act (wG0))))))
set_option maxHeartbeats 4000000 in
set_option maxRecDepth 100000 in
theorem c_X12_again (l : Launch) (G : va_G) (K : Nat → ClassId) (m0 : Nat) (gm : Nat → Nat) (h1 : Nat) (g1 : Nat → Nat) (h2 : Nat) (g2 : Nat → Nat) (S0 : MS)  (sz : Nat) : Met l yX12_again v_X12_again ({ frames := 6, cells := 0, slots := 0, locals := 156 }) (va_Pc [.ref m0] (mSt G K m0 gm h1 g1 h2 g2 sz S0 (p_X12_again S0))) (va_Qi (fun (r : Int32) (u : MS) => (r, u) = f_X12_again S0) (mB G K m0 gm h1 g1 h2 g2 (va_A (mW K m0 gm h1 g1 h2 g2 S0) sz)) (va_A (mW K m0 gm h1 g1 h2 g2 S0) sz)) 0 0 (va_A (mW K m0 gm h1 g1 h2 g2 S0) sz) := by
  refine Met.ofW (cc := cX12_again) (maxL := 4) (ret := (some .int)) (by decide) rfl ?_
  intro p e s m args below meth c s₁ B hml hv
  obtain ⟨rfl, ⟨hsz, hP, hK, hD0, hTE⟩, hp⟩ := hv
  have hx := B.exec
  have hb := B.bytes
  have hr := B.returns
  have hts := atoms_spec (ws := v_X12_again) B.pre
  have t_ := t_X12_again
  have mw : ∀ w ∈ e_X12_again, w ∈ v_X12_again := fun w h => List.mem_cons_of_mem _ (List.mem_append_left _ h)
  have hw := fun w (h : w ∈ e_X12_again) => hts w (mw w h)
  have iX12 : ∀ w ∈ wsX120, w ∈ v_X12_again := fun w h => List.mem_cons_of_mem _ (List.mem_append_right _ (List.mem_append_left _ h))
  have iX11 : ∀ w ∈ wsX110, w ∈ v_X12_again := fun w h => List.mem_cons_of_mem _ (List.mem_append_right _ (List.mem_append_right _ (List.mem_append_left _ h)))
  have j_X11_begin : ∀ w ∈ v_X11_begin, w ∈ v_X12_again := fun w h => List.mem_cons_of_mem _ (List.mem_append_right _ (List.mem_append_right _ (List.mem_append_right _ (List.mem_append_left _ h))))
  have j_X11_act : ∀ w ∈ v_X11_act, w ∈ v_X12_again := fun w h => List.mem_cons_of_mem _ (List.mem_append_right _ (List.mem_append_right _ (List.mem_append_right _ (List.mem_append_right _ (List.mem_append_left _ h)))))
  have hown : s.vm.findClass RX12 = some m.cls := findClass_of_methodNamed B.named
  have hlocks := B.notSynchronized
  subst hsz
  have hD := hD0.self (sz := s.heap.size)
  generalize hAe : va_A (mW K m0 gm h1 g1 h2 g2 S0) s.heap.size = A at hD ⊢
  have hA : ∀ q : Nat, s.heap.size ≤ q → A q := fun q h => by rw [← hAe]; exact Or.inr h
  have hS : va_S A s.heap s.heap [] := va_S.rf
  have hl := lv_entry ([.ref m0]) (n := 4) (Nat.le_of_ble_eq_true rfl)
  rw [lg_entry_eq]
  generalize (lg_sl ([.ref m0]) ++ List.replicate (4 - (lg_sl ([.ref m0])).length) Slot.unset).toArray = ls at hl ⊢
  have hl : lv_has ls 4 [(0, .ref m0)] := hl
  refine wGen (fun Q hQ => ?_)
  obtain ⟨X, hX⟩ : ∃ X, f_X12_again S0 = X := ⟨_, rfl⟩
  have L_16 : ∀ (n : Nat) (S : MS) (x1 : Int32) (H : Heap) (locs : List Loc) (ls : Array Slot), lp_X12_again_16 n S x1 = X → lq_X12_again_16 n S x1 → va_P G vwCl (mW K m0 gm h1 g1 h2 g2 S) H → va_D A (mW K m0 gm h1 g1 h2 g2 S) → va_S A s.heap H locs → lv_has ls 4 [(0, .ref m0), (1, .int x1)] → W p l e ({ frames := 6, cells := 0, slots := 0, locals := 156 } : Room) s m #[Value.ref m0] below meth c H locs 0 0 Q (F0 m 16 ls []) := by
    intro n1
    induction n1 with
    | zero => intro S x1 H locs ls hE hp; exact False.elim hp
    | succ n1 ih1 =>
      intro S x1 H locs ls hO1 hp hP hD hS hl
      rw [lp_X12_again_16] at hO1
      rw [lq_X12_again_16] at hp
      obtain ⟨hp, hq1⟩ := hp
      generalize hE : st_X12_again_16 S x1 = Y1 at hO1 hq1
      unfold st_X12_again_16 at hE
      unfold ps_X12_again_16 at hp
      refine lv_iload_n hx hb dX12_again_16 rfl (lv_at hl 1 rfl) ?_
      refine lv_aload_n hx hb dX12_again_17 rfl (lv_at hl 0 rfl) ?_
      refine va_get (D := G) (ci := 9) (v := .ref h1) (C := RX12) (T := TX12) (N := 7) hx hb hts iX12 hown hK hP 0 rfl rfl 0 (by decide) (hw (.fieldLink RX12 16 "MotionFloorModel" "hall" "LMotionFloorModel$Hall;") (List.mem_of_getElem? (i := 1) rfl)) (fun _ h9 => h9) rfl dX12_again_18 ?_
      refine va_get (D := G) (ci := 8) (v := .int (S.2.1.1 7)) (C := RX11) (T := TX11) (N := 42) hx hb hts iX11 hown hK hP 5 rfl rfl 7 (by decide) (hw (.fieldLink RX12 48 "MotionFloorModel$Hall" "entries" "I") (List.mem_of_getElem? (i := 7) rfl)) (fun _ h9 => h9) rfl dX12_again_21 ?_
      refine lv_icmp_ge (tgt := 116) hx hb dX12_again_24 (by decide) (fun c4 => ?_) (fun c4 => ?_)
      · rw [if_pos c4] at hE hp
        subst hE
        have hE := hO1
        dsimp only at hE
        refine lv_iconst (v := (-1)) hx hb dX12_again_116 (by decide) ?_
        subst hQ
        exact W.iret (v := (-1)) hx hb hr (fun t ht hW => ⟨⟨(-1), S, rfl, hE.trans hX.symm, by rw [ht]; exact hP, hD⟩, hS.F ht⟩) hS.2.2 dX12_again_117
      · rw [if_neg c4] at hE hp
        refine lv_bipush (v := 6) hx hb dX12_again_27 (by decide) ?_
        refine lv_iload_n hx hb dX12_again_29 rfl (lv_at hl 1 rfl) ?_
        refine lv_imul hx hb dX12_again_30 ?_
        refine lv_istore_n (lv' := [(2, .int (6 * x1)), (0, .ref m0), (1, .int x1)]) hx hb dX12_again_31 rfl hl (by decide) rfl (fun ls hl => ?_)
        refine lv_aload_n hx hb dX12_again_32 rfl (lv_at hl 1 rfl) ?_
        refine va_get (D := G) (ci := 9) (v := .ref h2) (C := RX12) (T := TX12) (N := 7) hx hb hts iX12 hown hK hP 0 rfl rfl 1 (by decide) (hw (.fieldLink RX12 20 "MotionFloorModel" "spare" "LMotionFloorModel$Hall;") (List.mem_of_getElem? (i := 0) rfl)) (fun _ h9 => h9) rfl dX12_again_33 ?_
        refine lv_aload_n hx hb dX12_again_36 rfl (lv_at hl 1 rfl) ?_
        refine va_get (D := G) (ci := 9) (v := .ref h1) (C := RX12) (T := TX12) (N := 7) hx hb hts iX12 hown hK hP 0 rfl rfl 0 (by decide) (hw (.fieldLink RX12 16 "MotionFloorModel" "hall" "LMotionFloorModel$Hall;") (List.mem_of_getElem? (i := 1) rfl)) (fun _ h9 => h9) rfl dX12_again_37 ?_
        refine va_get (D := G) (ci := 8) (v := .ref (g1 40)) (C := RX11) (T := TX11) (N := 42) hx hb hts iX11 hown hK hP 5 rfl rfl 40 (by decide) (hw (.fieldLink RX12 167 "MotionFloorModel$Hall" "minutes" "[I") (List.mem_of_getElem? (i := 8) rfl)) (fun _ h9 => h9) rfl dX12_again_40 ?_
        refine lv_iload_n hx hb dX12_again_43 rfl (lv_at hl 0 rfl) ?_
        obtain ⟨hy5, hp⟩ := hp
        refine va_iald hx hb hK hP 31 0 rfl rfl hy5 dX12_again_44 ?_
        refine lv_aload_n hx hb dX12_again_45 rfl (lv_at hl 1 rfl) ?_
        refine va_get (D := G) (ci := 9) (v := .ref h1) (C := RX12) (T := TX12) (N := 7) hx hb hts iX12 hown hK hP 0 rfl rfl 0 (by decide) (hw (.fieldLink RX12 16 "MotionFloorModel" "hall" "LMotionFloorModel$Hall;") (List.mem_of_getElem? (i := 1) rfl)) (fun _ h9 => h9) rfl dX12_again_46 ?_
        refine va_get (D := G) (ci := 8) (v := .ref (g1 40)) (C := RX11) (T := TX11) (N := 42) hx hb hts iX11 hown hK hP 5 rfl rfl 40 (by decide) (hw (.fieldLink RX12 167 "MotionFloorModel$Hall" "minutes" "[I") (List.mem_of_getElem? (i := 8) rfl)) (fun _ h9 => h9) rfl dX12_again_49 ?_
        refine lv_iload_n hx hb dX12_again_52 rfl (lv_at hl 0 rfl) ?_
        refine lv_iconst (v := 1) hx hb dX12_again_53 (by decide) ?_
        refine lv_iadd hx hb dX12_again_54 ?_
        obtain ⟨hy6, hp⟩ := hp
        refine va_iald hx hb hK hP 31 0 rfl rfl hy6 dX12_again_55 ?_
        refine lv_aload_n hx hb dX12_again_56 rfl (lv_at hl 1 rfl) ?_
        refine va_get (D := G) (ci := 9) (v := .ref h1) (C := RX12) (T := TX12) (N := 7) hx hb hts iX12 hown hK hP 0 rfl rfl 0 (by decide) (hw (.fieldLink RX12 16 "MotionFloorModel" "hall" "LMotionFloorModel$Hall;") (List.mem_of_getElem? (i := 1) rfl)) (fun _ h9 => h9) rfl dX12_again_57 ?_
        refine va_get (D := G) (ci := 8) (v := .ref (g1 40)) (C := RX11) (T := TX11) (N := 42) hx hb hts iX11 hown hK hP 5 rfl rfl 40 (by decide) (hw (.fieldLink RX12 167 "MotionFloorModel$Hall" "minutes" "[I") (List.mem_of_getElem? (i := 8) rfl)) (fun _ h9 => h9) rfl dX12_again_60 ?_
        refine lv_iload_n hx hb dX12_again_63 rfl (lv_at hl 0 rfl) ?_
        refine lv_iconst (v := 2) hx hb dX12_again_64 (by decide) ?_
        refine lv_iadd hx hb dX12_again_65 ?_
        obtain ⟨hy7, hp⟩ := hp
        refine va_iald hx hb hK hP 31 0 rfl rfl hy7 dX12_again_66 ?_
        refine lv_aload_n hx hb dX12_again_67 rfl (lv_at hl 1 rfl) ?_
        refine va_get (D := G) (ci := 9) (v := .ref h1) (C := RX12) (T := TX12) (N := 7) hx hb hts iX12 hown hK hP 0 rfl rfl 0 (by decide) (hw (.fieldLink RX12 16 "MotionFloorModel" "hall" "LMotionFloorModel$Hall;") (List.mem_of_getElem? (i := 1) rfl)) (fun _ h9 => h9) rfl dX12_again_68 ?_
        refine va_get (D := G) (ci := 8) (v := .ref (g1 40)) (C := RX11) (T := TX11) (N := 42) hx hb hts iX11 hown hK hP 5 rfl rfl 40 (by decide) (hw (.fieldLink RX12 167 "MotionFloorModel$Hall" "minutes" "[I") (List.mem_of_getElem? (i := 8) rfl)) (fun _ h9 => h9) rfl dX12_again_71 ?_
        refine lv_iload_n hx hb dX12_again_74 rfl (lv_at hl 0 rfl) ?_
        refine lv_iconst (v := 3) hx hb dX12_again_75 (by decide) ?_
        refine lv_iadd hx hb dX12_again_76 ?_
        obtain ⟨hy8, hp⟩ := hp
        refine va_iald hx hb hK hP 31 0 rfl rfl hy8 dX12_again_77 ?_
        refine lv_aload_n hx hb dX12_again_78 rfl (lv_at hl 1 rfl) ?_
        refine va_get (D := G) (ci := 9) (v := .ref h1) (C := RX12) (T := TX12) (N := 7) hx hb hts iX12 hown hK hP 0 rfl rfl 0 (by decide) (hw (.fieldLink RX12 16 "MotionFloorModel" "hall" "LMotionFloorModel$Hall;") (List.mem_of_getElem? (i := 1) rfl)) (fun _ h9 => h9) rfl dX12_again_79 ?_
        refine va_get (D := G) (ci := 8) (v := .ref (g1 40)) (C := RX11) (T := TX11) (N := 42) hx hb hts iX11 hown hK hP 5 rfl rfl 40 (by decide) (hw (.fieldLink RX12 167 "MotionFloorModel$Hall" "minutes" "[I") (List.mem_of_getElem? (i := 8) rfl)) (fun _ h9 => h9) rfl dX12_again_82 ?_
        refine lv_iload_n hx hb dX12_again_85 rfl (lv_at hl 0 rfl) ?_
        refine lv_iconst (v := 4) hx hb dX12_again_86 (by decide) ?_
        refine lv_iadd hx hb dX12_again_87 ?_
        obtain ⟨hy9, hp⟩ := hp
        refine va_iald hx hb hK hP 31 0 rfl rfl hy9 dX12_again_88 ?_
        obtain ⟨hy10, hp⟩ := hp
        refine mGoi_s (va_runV (As := [.int (S.2.1.2 40 (6 * x1).toNatClampNeg), .int (S.2.1.2 40 ((6 * x1) + 1).toNatClampNeg), .int (S.2.1.2 40 ((6 * x1) + 2).toNatClampNeg), .int (S.2.1.2 40 ((6 * x1) + 3).toNatClampNeg), .int (S.2.1.2 40 ((6 * x1) + 4).toNatClampNeg)]) (rest := []) ⟨hx, hb, hml, hown, hts⟩ (c_X11_act l G K h2 g2 S.2.2 (S.2.1.2 40 (6 * x1).toNatClampNeg) (S.2.1.2 40 ((6 * x1) + 1).toNatClampNeg) (S.2.1.2 40 ((6 * x1) + 2).toNatClampNeg) (S.2.1.2 40 ((6 * x1) + 3).toNatClampNeg) (S.2.1.2 40 ((6 * x1) + 4).toNatClampNeg) _) (cwV 5 hts (wGV t_ (mw (.methodLink RX12 40 yX11_act) (List.mem_of_getElem? (i := 9) rfl)) (mw (.instanceMethod yX11_act) (List.mem_of_getElem? (i := 10) rfl)) (mw (.selects RX11 yX11_act yX11_act) (List.mem_of_getElem? (i := 11) rfl)) (mw (.initialized RX11) (List.mem_of_getElem? (i := 6) rfl)) j_X11_act) rfl rfl rfl (by decide +kernel) ⟨Nat.le_of_ble_eq_true rfl, Nat.le_of_ble_eq_true rfl⟩) (hPV hK hTE (mP_s hP) (mD_s hD) hy10) rfl rfl hl.1 rfl (lv_room (Nat.le_of_ble_eq_true rfl)) dX12_again_89 ⟨Nat.le_of_ble_eq_true rfl, Nat.le_of_ble_eq_true rfl⟩) hP hD hS hA (fun r12 u11 H locs hv hP hD hS => ?_)
        rw [← hv] at hE hp
        dsimp only at hE hp
        unfold b_X12_again_a92 at hE
        unfold q_X12_again_a92 at hp
        refine lv_istore_n (lv' := [(3, .int r12), (2, .int (6 * x1)), (0, .ref m0), (1, .int x1)]) hx hb dX12_again_92 rfl hl (by decide) rfl (fun ls hl => ?_)
        refine lv_iload_n hx hb dX12_again_93 rfl (lv_at hl 0 rfl) ?_
        refine lv_aload_n hx hb dX12_again_94 rfl (lv_at hl 2 rfl) ?_
        refine va_get (D := G) (ci := 9) (v := .ref h1) (C := RX12) (T := TX12) (N := 7) hx hb hts iX12 hown hK hP 0 rfl rfl 0 (by decide) (hw (.fieldLink RX12 16 "MotionFloorModel" "hall" "LMotionFloorModel$Hall;") (List.mem_of_getElem? (i := 1) rfl)) (fun _ h9 => h9) rfl dX12_again_95 ?_
        refine va_get (D := G) (ci := 8) (v := .ref (g1 40)) (C := RX11) (T := TX11) (N := 42) hx hb hts iX11 hown hK hP 5 rfl rfl 40 (by decide) (hw (.fieldLink RX12 167 "MotionFloorModel$Hall" "minutes" "[I") (List.mem_of_getElem? (i := 8) rfl)) (fun _ h9 => h9) rfl dX12_again_98 ?_
        refine lv_iload_n hx hb dX12_again_101 rfl (lv_at hl 1 rfl) ?_
        refine lv_iconst (v := 5) hx hb dX12_again_102 (by decide) ?_
        refine lv_iadd hx hb dX12_again_103 ?_
        obtain ⟨hy13, hp⟩ := hp
        refine va_iald hx hb hK hP 31 0 rfl rfl hy13 dX12_again_104 ?_
        refine lv_icmp_eq (tgt := 110) hx hb dX12_again_105 (by decide) (fun c14 => ?_) (fun c14 => ?_)
        · rw [if_pos c14] at hE hp
          refine lv_iinc (v := (x1 + 1)) (lv' := [(1, .int (x1 + 1)), (3, .int r12), (2, .int (6 * x1)), (0, .ref m0)]) hx hb dX12_again_110 hl (k := 3) rfl rfl (by decide) rfl (fun ls hl => ?_)
          refine lv_goto (tgt := 16) hx hb dX12_again_113 (by decide) ?_
          subst hE
          dsimp only at hO1 hq1
          exact ih1 (mS S u11) (x1 + 1) _ _ _ hO1 hq1 hP hD hS (lv_sub hl [3, 0] rfl)
        · rw [if_neg c14] at hE hp
          subst hE
          have hE := hO1
          dsimp only at hE
          refine lv_iload_n hx hb dX12_again_108 rfl (lv_at hl 3 rfl) ?_
          subst hQ
          exact W.iret (v := x1) hx hb hr (fun t ht hW => ⟨⟨x1, (mS S u11), rfl, hE.trans hX.symm, by rw [ht]; exact hP, hD⟩, hS.F ht⟩) hS.2.2 dX12_again_109
  have B_M : ∀ (S : MS) (H : Heap) (locs : List Loc) (ls : Array Slot), f_X12_again S = X → p_X12_again S → va_P G vwCl (mW K m0 gm h1 g1 h2 g2 S) H → va_D A (mW K m0 gm h1 g1 h2 g2 S) → va_S A s.heap H locs → lv_has ls 4 [(0, .ref m0)] → W p l e ({ frames := 6, cells := 0, slots := 0, locals := 156 } : Room) s m #[Value.ref m0] below meth c H locs 0 0 Q (F0 m 0 ls []) := by
    intro S H locs ls hE hp hP hD hS hl
    unfold f_X12_again at hE
    unfold p_X12_again at hp
    refine lv_aload_n hx hb dX12_again_0 rfl (lv_at hl 0 rfl) ?_
    refine va_get (D := G) (ci := 9) (v := .ref h2) (C := RX12) (T := TX12) (N := 7) hx hb hts iX12 hown hK hP 0 rfl rfl 1 (by decide) (hw (.fieldLink RX12 20 "MotionFloorModel" "spare" "LMotionFloorModel$Hall;") (List.mem_of_getElem? (i := 0) rfl)) (fun _ h9 => h9) rfl dX12_again_1 ?_
    refine lv_aload_n hx hb dX12_again_4 rfl (lv_at hl 0 rfl) ?_
    refine va_get (D := G) (ci := 9) (v := .ref h1) (C := RX12) (T := TX12) (N := 7) hx hb hts iX12 hown hK hP 0 rfl rfl 0 (by decide) (hw (.fieldLink RX12 16 "MotionFloorModel" "hall" "LMotionFloorModel$Hall;") (List.mem_of_getElem? (i := 1) rfl)) (fun _ h9 => h9) rfl dX12_again_5 ?_
    refine va_get (D := G) (ci := 8) (v := .int (S.2.1.1 0)) (C := RX11) (T := TX11) (N := 42) hx hb hts iX11 hown hK hP 5 rfl rfl 0 (by decide) (hw (.fieldLink RX12 96 "MotionFloorModel$Hall" "seats" "I") (List.mem_of_getElem? (i := 2) rfl)) (fun _ h9 => h9) rfl dX12_again_8 ?_
    obtain ⟨hy1, hp⟩ := hp
    refine mGov_s (va_runV (As := [.int (S.2.1.1 0)]) (rest := []) ⟨hx, hb, hml, hown, hts⟩ (c_X11_begin l G K h2 g2 S.2.2 (S.2.1.1 0) _) (cwV 1 hts (wGV t_ (mw (.methodLink RX12 36 yX11_begin) (List.mem_of_getElem? (i := 3) rfl)) (mw (.instanceMethod yX11_begin) (List.mem_of_getElem? (i := 4) rfl)) (mw (.selects RX11 yX11_begin yX11_begin) (List.mem_of_getElem? (i := 5) rfl)) (mw (.initialized RX11) (List.mem_of_getElem? (i := 6) rfl)) j_X11_begin) rfl rfl rfl (by decide +kernel) ⟨Nat.le_of_ble_eq_true rfl, Nat.le_of_ble_eq_true rfl⟩) (hPV hK hTE (mP_s hP) (mD_s hD) hy1) rfl rfl hl.1 rfl (lv_room (Nat.le_of_ble_eq_true rfl)) dX12_again_11 ⟨Nat.le_of_ble_eq_true rfl, Nat.le_of_ble_eq_true rfl⟩) hP hD hS hA (fun u2 H locs hv hP hD hS => ?_)
    rw [← hv] at hE hp
    dsimp only at hE hp
    unfold b_X12_again_a14 at hE
    unfold q_X12_again_a14 at hp
    refine lv_iconst (v := 0) hx hb dX12_again_14 (by decide) ?_
    refine lv_istore_n (lv' := [(1, .int 0), (0, .ref m0)]) hx hb dX12_again_15 rfl hl (by decide) rfl (fun ls hl => ?_)
    exact L_16 100000 (mS S u2) 0 _ _ _ hE hp hP hD hS (lv_sub hl [1, 0] rfl)
  exact B_M S0 _ _ _ hX hp hP hD hS hl
theorem gdX12_tell_0 : ckS (List.drop 0 cX12_tell.data.toList) 0 [(0, .aload_n 0, 1), (1, .getfield 161, 3), (4, .sipush 600, 3), (7, .if_icmp .ne 6, 3), (10, .bipush (-10), 2), (12, .ireturn, 1), (13, .bipush 6, 2), (15, .aload_n 0, 1), (16, .getfield 161, 3), (19, .imul, 1), (20, .istore 7, 2), (22, .aload_n 0, 1), (23, .getfield 33, 3), (26, .iload 7, 2), (28, .iload_n 1, 1), (29, .iastore, 1), (30, .aload_n 0, 1), (31, .getfield 33, 3), (34, .iload 7, 2), (36, .iconst 1, 1), (37, .iadd, 1), (38, .iload_n 2, 1), (39, .iastore, 1), (40, .aload_n 0, 1), (41, .getfield 33, 3), (44, .iload 7, 2), (46, .iconst 2, 1), (47, .iadd, 1), (48, .iload_n 3, 1), (49, .iastore, 1), (50, .aload_n 0, 1), (51, .getfield 33, 3), (54, .iload 7, 2), (56, .iconst 3, 1), (57, .iadd, 1), (58, .iload 4, 2), (60, .iastore, 1), (61, .aload_n 0, 1), (62, .getfield 33, 3), (65, .iload 7, 2)] = true := by decide +kernel
theorem dX12_tell_0 : decode cX12_tell 0 = .ok (.aload_n 0, 1) := ckS_g gdX12_tell_0 0 rfl
theorem dX12_tell_1 : decode cX12_tell 1 = .ok (.getfield 161, 3) := ckS_g gdX12_tell_0 1 rfl
theorem dX12_tell_4 : decode cX12_tell 4 = .ok (.sipush 600, 3) := ckS_g gdX12_tell_0 2 rfl
theorem dX12_tell_7 : decode cX12_tell 7 = .ok (.if_icmp .ne 6, 3) := ckS_g gdX12_tell_0 3 rfl
theorem dX12_tell_10 : decode cX12_tell 10 = .ok (.bipush (-10), 2) := ckS_g gdX12_tell_0 4 rfl
theorem dX12_tell_12 : decode cX12_tell 12 = .ok (.ireturn, 1) := ckS_g gdX12_tell_0 5 rfl
theorem dX12_tell_13 : decode cX12_tell 13 = .ok (.bipush 6, 2) := ckS_g gdX12_tell_0 6 rfl
theorem dX12_tell_15 : decode cX12_tell 15 = .ok (.aload_n 0, 1) := ckS_g gdX12_tell_0 7 rfl
theorem dX12_tell_16 : decode cX12_tell 16 = .ok (.getfield 161, 3) := ckS_g gdX12_tell_0 8 rfl
theorem dX12_tell_19 : decode cX12_tell 19 = .ok (.imul, 1) := ckS_g gdX12_tell_0 9 rfl
theorem dX12_tell_20 : decode cX12_tell 20 = .ok (.istore 7, 2) := ckS_g gdX12_tell_0 10 rfl
theorem dX12_tell_22 : decode cX12_tell 22 = .ok (.aload_n 0, 1) := ckS_g gdX12_tell_0 11 rfl
theorem dX12_tell_23 : decode cX12_tell 23 = .ok (.getfield 33, 3) := ckS_g gdX12_tell_0 12 rfl
theorem dX12_tell_26 : decode cX12_tell 26 = .ok (.iload 7, 2) := ckS_g gdX12_tell_0 13 rfl
theorem dX12_tell_28 : decode cX12_tell 28 = .ok (.iload_n 1, 1) := ckS_g gdX12_tell_0 14 rfl
theorem dX12_tell_29 : decode cX12_tell 29 = .ok (.iastore, 1) := ckS_g gdX12_tell_0 15 rfl
theorem dX12_tell_30 : decode cX12_tell 30 = .ok (.aload_n 0, 1) := ckS_g gdX12_tell_0 16 rfl
theorem dX12_tell_31 : decode cX12_tell 31 = .ok (.getfield 33, 3) := ckS_g gdX12_tell_0 17 rfl
theorem dX12_tell_34 : decode cX12_tell 34 = .ok (.iload 7, 2) := ckS_g gdX12_tell_0 18 rfl
theorem dX12_tell_36 : decode cX12_tell 36 = .ok (.iconst 1, 1) := ckS_g gdX12_tell_0 19 rfl
theorem dX12_tell_37 : decode cX12_tell 37 = .ok (.iadd, 1) := ckS_g gdX12_tell_0 20 rfl
theorem dX12_tell_38 : decode cX12_tell 38 = .ok (.iload_n 2, 1) := ckS_g gdX12_tell_0 21 rfl
theorem dX12_tell_39 : decode cX12_tell 39 = .ok (.iastore, 1) := ckS_g gdX12_tell_0 22 rfl
theorem dX12_tell_40 : decode cX12_tell 40 = .ok (.aload_n 0, 1) := ckS_g gdX12_tell_0 23 rfl
theorem dX12_tell_41 : decode cX12_tell 41 = .ok (.getfield 33, 3) := ckS_g gdX12_tell_0 24 rfl
theorem dX12_tell_44 : decode cX12_tell 44 = .ok (.iload 7, 2) := ckS_g gdX12_tell_0 25 rfl
theorem dX12_tell_46 : decode cX12_tell 46 = .ok (.iconst 2, 1) := ckS_g gdX12_tell_0 26 rfl
theorem dX12_tell_47 : decode cX12_tell 47 = .ok (.iadd, 1) := ckS_g gdX12_tell_0 27 rfl
theorem dX12_tell_48 : decode cX12_tell 48 = .ok (.iload_n 3, 1) := ckS_g gdX12_tell_0 28 rfl
theorem dX12_tell_49 : decode cX12_tell 49 = .ok (.iastore, 1) := ckS_g gdX12_tell_0 29 rfl
theorem dX12_tell_50 : decode cX12_tell 50 = .ok (.aload_n 0, 1) := ckS_g gdX12_tell_0 30 rfl
theorem dX12_tell_51 : decode cX12_tell 51 = .ok (.getfield 33, 3) := ckS_g gdX12_tell_0 31 rfl
theorem dX12_tell_54 : decode cX12_tell 54 = .ok (.iload 7, 2) := ckS_g gdX12_tell_0 32 rfl
theorem dX12_tell_56 : decode cX12_tell 56 = .ok (.iconst 3, 1) := ckS_g gdX12_tell_0 33 rfl
theorem dX12_tell_57 : decode cX12_tell 57 = .ok (.iadd, 1) := ckS_g gdX12_tell_0 34 rfl
theorem dX12_tell_58 : decode cX12_tell 58 = .ok (.iload 4, 2) := ckS_g gdX12_tell_0 35 rfl
theorem dX12_tell_60 : decode cX12_tell 60 = .ok (.iastore, 1) := ckS_g gdX12_tell_0 36 rfl
theorem dX12_tell_61 : decode cX12_tell 61 = .ok (.aload_n 0, 1) := ckS_g gdX12_tell_0 37 rfl
theorem dX12_tell_62 : decode cX12_tell 62 = .ok (.getfield 33, 3) := ckS_g gdX12_tell_0 38 rfl
theorem dX12_tell_65 : decode cX12_tell 65 = .ok (.iload 7, 2) := ckS_g gdX12_tell_0 39 rfl
theorem gdX12_tell_67 : ckS (List.drop 67 cX12_tell.data.toList) 67 [(67, .iconst 4, 1), (68, .iadd, 1), (69, .iload 5, 2), (71, .iastore, 1), (72, .aload_n 0, 1), (73, .getfield 33, 3), (76, .iload 7, 2), (78, .iconst 5, 1), (79, .iadd, 1), (80, .iload 6, 2), (82, .iastore, 1), (83, .aload_n 0, 1), (84, .dup, 1), (85, .getfield 161, 3), (88, .iconst 1, 1), (89, .iadd, 1), (90, .putfield 161, 3), (93, .aload_n 0, 1), (94, .getfield 161, 3), (97, .ireturn, 1)] = true := by decide +kernel
theorem dX12_tell_67 : decode cX12_tell 67 = .ok (.iconst 4, 1) := ckS_g gdX12_tell_67 0 rfl
theorem dX12_tell_68 : decode cX12_tell 68 = .ok (.iadd, 1) := ckS_g gdX12_tell_67 1 rfl
theorem dX12_tell_69 : decode cX12_tell 69 = .ok (.iload 5, 2) := ckS_g gdX12_tell_67 2 rfl
theorem dX12_tell_71 : decode cX12_tell 71 = .ok (.iastore, 1) := ckS_g gdX12_tell_67 3 rfl
theorem dX12_tell_72 : decode cX12_tell 72 = .ok (.aload_n 0, 1) := ckS_g gdX12_tell_67 4 rfl
theorem dX12_tell_73 : decode cX12_tell 73 = .ok (.getfield 33, 3) := ckS_g gdX12_tell_67 5 rfl
theorem dX12_tell_76 : decode cX12_tell 76 = .ok (.iload 7, 2) := ckS_g gdX12_tell_67 6 rfl
theorem dX12_tell_78 : decode cX12_tell 78 = .ok (.iconst 5, 1) := ckS_g gdX12_tell_67 7 rfl
theorem dX12_tell_79 : decode cX12_tell 79 = .ok (.iadd, 1) := ckS_g gdX12_tell_67 8 rfl
theorem dX12_tell_80 : decode cX12_tell 80 = .ok (.iload 6, 2) := ckS_g gdX12_tell_67 9 rfl
theorem dX12_tell_82 : decode cX12_tell 82 = .ok (.iastore, 1) := ckS_g gdX12_tell_67 10 rfl
theorem dX12_tell_83 : decode cX12_tell 83 = .ok (.aload_n 0, 1) := ckS_g gdX12_tell_67 11 rfl
theorem dX12_tell_84 : decode cX12_tell 84 = .ok (.dup, 1) := ckS_g gdX12_tell_67 12 rfl
theorem dX12_tell_85 : decode cX12_tell 85 = .ok (.getfield 161, 3) := ckS_g gdX12_tell_67 13 rfl
theorem dX12_tell_88 : decode cX12_tell 88 = .ok (.iconst 1, 1) := ckS_g gdX12_tell_67 14 rfl
theorem dX12_tell_89 : decode cX12_tell 89 = .ok (.iadd, 1) := ckS_g gdX12_tell_67 15 rfl
theorem dX12_tell_90 : decode cX12_tell 90 = .ok (.putfield 161, 3) := ckS_g gdX12_tell_67 16 rfl
theorem dX12_tell_93 : decode cX12_tell 93 = .ok (.aload_n 0, 1) := ckS_g gdX12_tell_67 17 rfl
theorem dX12_tell_94 : decode cX12_tell 94 = .ok (.getfield 161, 3) := ckS_g gdX12_tell_67 18 rfl
theorem dX12_tell_97 : decode cX12_tell 97 = .ok (.ireturn, 1) := ckS_g gdX12_tell_67 19 rfl
theorem mI_o_6b (K : Nat → ClassId) (m0 : Nat) (gm : Nat → Nat) (h1 : Nat) (g1 : Nat → Nat) (h2 : Nat) (g2 : Nat → Nat) (M : MS) (v : Int32) : (mW K m0 gm h1 g1 h2 g2 M).set 0 (m0, .inr (9, [Value.ref h1, Value.ref h2, Value.ref (gm 2), Value.ref (gm 3), Value.ref (gm 4), Value.ref (gm 5), Value.int (M.1.1 6)].set 6 (.int v))) = mW K m0 gm h1 g1 h2 g2 (mO M (sI M.1 6 v)) := rfl
set_option maxRecDepth 100000 in
theorem z301 : wZ (.fieldLink RX12 33 "MotionFloorModel" "told" "[I") := ⟨wT5 (List.mem_of_getElem? (i := 205) (by decide +kernel)), Or.inl rfl⟩
set_option maxRecDepth 100000 in
theorem z302 : wZ (.code yX12_tell cX12_tell 8 (some .int)) := ⟨wT7 (List.mem_of_getElem? (i := 27) rfl), Or.inl rfl⟩
def f_X12_tell (S : MS) (x1 x2 x3 x4 x5 x6 : Int32) : Int32 × MS := if (S.1.1 6) = 600 then ((-10), S) else ((((mO (mO (mO (mO (mO (mO (mO S (sA S.1 5 (6 * (S.1.1 6)).toNatClampNeg x1)) (sA ((mO S (sA S.1 5 (6 * (S.1.1 6)).toNatClampNeg x1)).1) 5 ((6 * (S.1.1 6)) + 1).toNatClampNeg x2)) (sA ((mO (mO S (sA S.1 5 (6 * (S.1.1 6)).toNatClampNeg x1)) (sA ((mO S (sA S.1 5 (6 * (S.1.1 6)).toNatClampNeg x1)).1) 5 ((6 * (S.1.1 6)) + 1).toNatClampNeg x2)).1) 5 ((6 * (S.1.1 6)) + 2).toNatClampNeg x3)) (sA ((mO (mO (mO S (sA S.1 5 (6 * (S.1.1 6)).toNatClampNeg x1)) (sA ((mO S (sA S.1 5 (6 * (S.1.1 6)).toNatClampNeg x1)).1) 5 ((6 * (S.1.1 6)) + 1).toNatClampNeg x2)) (sA ((mO (mO S (sA S.1 5 (6 * (S.1.1 6)).toNatClampNeg x1)) (sA ((mO S (sA S.1 5 (6 * (S.1.1 6)).toNatClampNeg x1)).1) 5 ((6 * (S.1.1 6)) + 1).toNatClampNeg x2)).1) 5 ((6 * (S.1.1 6)) + 2).toNatClampNeg x3)).1) 5 ((6 * (S.1.1 6)) + 3).toNatClampNeg x4)) (sA ((mO (mO (mO (mO S (sA S.1 5 (6 * (S.1.1 6)).toNatClampNeg x1)) (sA ((mO S (sA S.1 5 (6 * (S.1.1 6)).toNatClampNeg x1)).1) 5 ((6 * (S.1.1 6)) + 1).toNatClampNeg x2)) (sA ((mO (mO S (sA S.1 5 (6 * (S.1.1 6)).toNatClampNeg x1)) (sA ((mO S (sA S.1 5 (6 * (S.1.1 6)).toNatClampNeg x1)).1) 5 ((6 * (S.1.1 6)) + 1).toNatClampNeg x2)).1) 5 ((6 * (S.1.1 6)) + 2).toNatClampNeg x3)) (sA ((mO (mO (mO S (sA S.1 5 (6 * (S.1.1 6)).toNatClampNeg x1)) (sA ((mO S (sA S.1 5 (6 * (S.1.1 6)).toNatClampNeg x1)).1) 5 ((6 * (S.1.1 6)) + 1).toNatClampNeg x2)) (sA ((mO (mO S (sA S.1 5 (6 * (S.1.1 6)).toNatClampNeg x1)) (sA ((mO S (sA S.1 5 (6 * (S.1.1 6)).toNatClampNeg x1)).1) 5 ((6 * (S.1.1 6)) + 1).toNatClampNeg x2)).1) 5 ((6 * (S.1.1 6)) + 2).toNatClampNeg x3)).1) 5 ((6 * (S.1.1 6)) + 3).toNatClampNeg x4)).1) 5 ((6 * (S.1.1 6)) + 4).toNatClampNeg x5)) (sA ((mO (mO (mO (mO (mO S (sA S.1 5 (6 * (S.1.1 6)).toNatClampNeg x1)) (sA ((mO S (sA S.1 5 (6 * (S.1.1 6)).toNatClampNeg x1)).1) 5 ((6 * (S.1.1 6)) + 1).toNatClampNeg x2)) (sA ((mO (mO S (sA S.1 5 (6 * (S.1.1 6)).toNatClampNeg x1)) (sA ((mO S (sA S.1 5 (6 * (S.1.1 6)).toNatClampNeg x1)).1) 5 ((6 * (S.1.1 6)) + 1).toNatClampNeg x2)).1) 5 ((6 * (S.1.1 6)) + 2).toNatClampNeg x3)) (sA ((mO (mO (mO S (sA S.1 5 (6 * (S.1.1 6)).toNatClampNeg x1)) (sA ((mO S (sA S.1 5 (6 * (S.1.1 6)).toNatClampNeg x1)).1) 5 ((6 * (S.1.1 6)) + 1).toNatClampNeg x2)) (sA ((mO (mO S (sA S.1 5 (6 * (S.1.1 6)).toNatClampNeg x1)) (sA ((mO S (sA S.1 5 (6 * (S.1.1 6)).toNatClampNeg x1)).1) 5 ((6 * (S.1.1 6)) + 1).toNatClampNeg x2)).1) 5 ((6 * (S.1.1 6)) + 2).toNatClampNeg x3)).1) 5 ((6 * (S.1.1 6)) + 3).toNatClampNeg x4)) (sA ((mO (mO (mO (mO S (sA S.1 5 (6 * (S.1.1 6)).toNatClampNeg x1)) (sA ((mO S (sA S.1 5 (6 * (S.1.1 6)).toNatClampNeg x1)).1) 5 ((6 * (S.1.1 6)) + 1).toNatClampNeg x2)) (sA ((mO (mO S (sA S.1 5 (6 * (S.1.1 6)).toNatClampNeg x1)) (sA ((mO S (sA S.1 5 (6 * (S.1.1 6)).toNatClampNeg x1)).1) 5 ((6 * (S.1.1 6)) + 1).toNatClampNeg x2)).1) 5 ((6 * (S.1.1 6)) + 2).toNatClampNeg x3)) (sA ((mO (mO (mO S (sA S.1 5 (6 * (S.1.1 6)).toNatClampNeg x1)) (sA ((mO S (sA S.1 5 (6 * (S.1.1 6)).toNatClampNeg x1)).1) 5 ((6 * (S.1.1 6)) + 1).toNatClampNeg x2)) (sA ((mO (mO S (sA S.1 5 (6 * (S.1.1 6)).toNatClampNeg x1)) (sA ((mO S (sA S.1 5 (6 * (S.1.1 6)).toNatClampNeg x1)).1) 5 ((6 * (S.1.1 6)) + 1).toNatClampNeg x2)).1) 5 ((6 * (S.1.1 6)) + 2).toNatClampNeg x3)).1) 5 ((6 * (S.1.1 6)) + 3).toNatClampNeg x4)).1) 5 ((6 * (S.1.1 6)) + 4).toNatClampNeg x5)).1) 5 ((6 * (S.1.1 6)) + 5).toNatClampNeg x6)) (sI ((mO (mO (mO (mO (mO (mO S (sA S.1 5 (6 * (S.1.1 6)).toNatClampNeg x1)) (sA ((mO S (sA S.1 5 (6 * (S.1.1 6)).toNatClampNeg x1)).1) 5 ((6 * (S.1.1 6)) + 1).toNatClampNeg x2)) (sA ((mO (mO S (sA S.1 5 (6 * (S.1.1 6)).toNatClampNeg x1)) (sA ((mO S (sA S.1 5 (6 * (S.1.1 6)).toNatClampNeg x1)).1) 5 ((6 * (S.1.1 6)) + 1).toNatClampNeg x2)).1) 5 ((6 * (S.1.1 6)) + 2).toNatClampNeg x3)) (sA ((mO (mO (mO S (sA S.1 5 (6 * (S.1.1 6)).toNatClampNeg x1)) (sA ((mO S (sA S.1 5 (6 * (S.1.1 6)).toNatClampNeg x1)).1) 5 ((6 * (S.1.1 6)) + 1).toNatClampNeg x2)) (sA ((mO (mO S (sA S.1 5 (6 * (S.1.1 6)).toNatClampNeg x1)) (sA ((mO S (sA S.1 5 (6 * (S.1.1 6)).toNatClampNeg x1)).1) 5 ((6 * (S.1.1 6)) + 1).toNatClampNeg x2)).1) 5 ((6 * (S.1.1 6)) + 2).toNatClampNeg x3)).1) 5 ((6 * (S.1.1 6)) + 3).toNatClampNeg x4)) (sA ((mO (mO (mO (mO S (sA S.1 5 (6 * (S.1.1 6)).toNatClampNeg x1)) (sA ((mO S (sA S.1 5 (6 * (S.1.1 6)).toNatClampNeg x1)).1) 5 ((6 * (S.1.1 6)) + 1).toNatClampNeg x2)) (sA ((mO (mO S (sA S.1 5 (6 * (S.1.1 6)).toNatClampNeg x1)) (sA ((mO S (sA S.1 5 (6 * (S.1.1 6)).toNatClampNeg x1)).1) 5 ((6 * (S.1.1 6)) + 1).toNatClampNeg x2)).1) 5 ((6 * (S.1.1 6)) + 2).toNatClampNeg x3)) (sA ((mO (mO (mO S (sA S.1 5 (6 * (S.1.1 6)).toNatClampNeg x1)) (sA ((mO S (sA S.1 5 (6 * (S.1.1 6)).toNatClampNeg x1)).1) 5 ((6 * (S.1.1 6)) + 1).toNatClampNeg x2)) (sA ((mO (mO S (sA S.1 5 (6 * (S.1.1 6)).toNatClampNeg x1)) (sA ((mO S (sA S.1 5 (6 * (S.1.1 6)).toNatClampNeg x1)).1) 5 ((6 * (S.1.1 6)) + 1).toNatClampNeg x2)).1) 5 ((6 * (S.1.1 6)) + 2).toNatClampNeg x3)).1) 5 ((6 * (S.1.1 6)) + 3).toNatClampNeg x4)).1) 5 ((6 * (S.1.1 6)) + 4).toNatClampNeg x5)) (sA ((mO (mO (mO (mO (mO S (sA S.1 5 (6 * (S.1.1 6)).toNatClampNeg x1)) (sA ((mO S (sA S.1 5 (6 * (S.1.1 6)).toNatClampNeg x1)).1) 5 ((6 * (S.1.1 6)) + 1).toNatClampNeg x2)) (sA ((mO (mO S (sA S.1 5 (6 * (S.1.1 6)).toNatClampNeg x1)) (sA ((mO S (sA S.1 5 (6 * (S.1.1 6)).toNatClampNeg x1)).1) 5 ((6 * (S.1.1 6)) + 1).toNatClampNeg x2)).1) 5 ((6 * (S.1.1 6)) + 2).toNatClampNeg x3)) (sA ((mO (mO (mO S (sA S.1 5 (6 * (S.1.1 6)).toNatClampNeg x1)) (sA ((mO S (sA S.1 5 (6 * (S.1.1 6)).toNatClampNeg x1)).1) 5 ((6 * (S.1.1 6)) + 1).toNatClampNeg x2)) (sA ((mO (mO S (sA S.1 5 (6 * (S.1.1 6)).toNatClampNeg x1)) (sA ((mO S (sA S.1 5 (6 * (S.1.1 6)).toNatClampNeg x1)).1) 5 ((6 * (S.1.1 6)) + 1).toNatClampNeg x2)).1) 5 ((6 * (S.1.1 6)) + 2).toNatClampNeg x3)).1) 5 ((6 * (S.1.1 6)) + 3).toNatClampNeg x4)) (sA ((mO (mO (mO (mO S (sA S.1 5 (6 * (S.1.1 6)).toNatClampNeg x1)) (sA ((mO S (sA S.1 5 (6 * (S.1.1 6)).toNatClampNeg x1)).1) 5 ((6 * (S.1.1 6)) + 1).toNatClampNeg x2)) (sA ((mO (mO S (sA S.1 5 (6 * (S.1.1 6)).toNatClampNeg x1)) (sA ((mO S (sA S.1 5 (6 * (S.1.1 6)).toNatClampNeg x1)).1) 5 ((6 * (S.1.1 6)) + 1).toNatClampNeg x2)).1) 5 ((6 * (S.1.1 6)) + 2).toNatClampNeg x3)) (sA ((mO (mO (mO S (sA S.1 5 (6 * (S.1.1 6)).toNatClampNeg x1)) (sA ((mO S (sA S.1 5 (6 * (S.1.1 6)).toNatClampNeg x1)).1) 5 ((6 * (S.1.1 6)) + 1).toNatClampNeg x2)) (sA ((mO (mO S (sA S.1 5 (6 * (S.1.1 6)).toNatClampNeg x1)) (sA ((mO S (sA S.1 5 (6 * (S.1.1 6)).toNatClampNeg x1)).1) 5 ((6 * (S.1.1 6)) + 1).toNatClampNeg x2)).1) 5 ((6 * (S.1.1 6)) + 2).toNatClampNeg x3)).1) 5 ((6 * (S.1.1 6)) + 3).toNatClampNeg x4)).1) 5 ((6 * (S.1.1 6)) + 4).toNatClampNeg x5)).1) 5 ((6 * (S.1.1 6)) + 5).toNatClampNeg x6)).1) 6 ((((mO (mO (mO (mO (mO (mO S (sA S.1 5 (6 * (S.1.1 6)).toNatClampNeg x1)) (sA ((mO S (sA S.1 5 (6 * (S.1.1 6)).toNatClampNeg x1)).1) 5 ((6 * (S.1.1 6)) + 1).toNatClampNeg x2)) (sA ((mO (mO S (sA S.1 5 (6 * (S.1.1 6)).toNatClampNeg x1)) (sA ((mO S (sA S.1 5 (6 * (S.1.1 6)).toNatClampNeg x1)).1) 5 ((6 * (S.1.1 6)) + 1).toNatClampNeg x2)).1) 5 ((6 * (S.1.1 6)) + 2).toNatClampNeg x3)) (sA ((mO (mO (mO S (sA S.1 5 (6 * (S.1.1 6)).toNatClampNeg x1)) (sA ((mO S (sA S.1 5 (6 * (S.1.1 6)).toNatClampNeg x1)).1) 5 ((6 * (S.1.1 6)) + 1).toNatClampNeg x2)) (sA ((mO (mO S (sA S.1 5 (6 * (S.1.1 6)).toNatClampNeg x1)) (sA ((mO S (sA S.1 5 (6 * (S.1.1 6)).toNatClampNeg x1)).1) 5 ((6 * (S.1.1 6)) + 1).toNatClampNeg x2)).1) 5 ((6 * (S.1.1 6)) + 2).toNatClampNeg x3)).1) 5 ((6 * (S.1.1 6)) + 3).toNatClampNeg x4)) (sA ((mO (mO (mO (mO S (sA S.1 5 (6 * (S.1.1 6)).toNatClampNeg x1)) (sA ((mO S (sA S.1 5 (6 * (S.1.1 6)).toNatClampNeg x1)).1) 5 ((6 * (S.1.1 6)) + 1).toNatClampNeg x2)) (sA ((mO (mO S (sA S.1 5 (6 * (S.1.1 6)).toNatClampNeg x1)) (sA ((mO S (sA S.1 5 (6 * (S.1.1 6)).toNatClampNeg x1)).1) 5 ((6 * (S.1.1 6)) + 1).toNatClampNeg x2)).1) 5 ((6 * (S.1.1 6)) + 2).toNatClampNeg x3)) (sA ((mO (mO (mO S (sA S.1 5 (6 * (S.1.1 6)).toNatClampNeg x1)) (sA ((mO S (sA S.1 5 (6 * (S.1.1 6)).toNatClampNeg x1)).1) 5 ((6 * (S.1.1 6)) + 1).toNatClampNeg x2)) (sA ((mO (mO S (sA S.1 5 (6 * (S.1.1 6)).toNatClampNeg x1)) (sA ((mO S (sA S.1 5 (6 * (S.1.1 6)).toNatClampNeg x1)).1) 5 ((6 * (S.1.1 6)) + 1).toNatClampNeg x2)).1) 5 ((6 * (S.1.1 6)) + 2).toNatClampNeg x3)).1) 5 ((6 * (S.1.1 6)) + 3).toNatClampNeg x4)).1) 5 ((6 * (S.1.1 6)) + 4).toNatClampNeg x5)) (sA ((mO (mO (mO (mO (mO S (sA S.1 5 (6 * (S.1.1 6)).toNatClampNeg x1)) (sA ((mO S (sA S.1 5 (6 * (S.1.1 6)).toNatClampNeg x1)).1) 5 ((6 * (S.1.1 6)) + 1).toNatClampNeg x2)) (sA ((mO (mO S (sA S.1 5 (6 * (S.1.1 6)).toNatClampNeg x1)) (sA ((mO S (sA S.1 5 (6 * (S.1.1 6)).toNatClampNeg x1)).1) 5 ((6 * (S.1.1 6)) + 1).toNatClampNeg x2)).1) 5 ((6 * (S.1.1 6)) + 2).toNatClampNeg x3)) (sA ((mO (mO (mO S (sA S.1 5 (6 * (S.1.1 6)).toNatClampNeg x1)) (sA ((mO S (sA S.1 5 (6 * (S.1.1 6)).toNatClampNeg x1)).1) 5 ((6 * (S.1.1 6)) + 1).toNatClampNeg x2)) (sA ((mO (mO S (sA S.1 5 (6 * (S.1.1 6)).toNatClampNeg x1)) (sA ((mO S (sA S.1 5 (6 * (S.1.1 6)).toNatClampNeg x1)).1) 5 ((6 * (S.1.1 6)) + 1).toNatClampNeg x2)).1) 5 ((6 * (S.1.1 6)) + 2).toNatClampNeg x3)).1) 5 ((6 * (S.1.1 6)) + 3).toNatClampNeg x4)) (sA ((mO (mO (mO (mO S (sA S.1 5 (6 * (S.1.1 6)).toNatClampNeg x1)) (sA ((mO S (sA S.1 5 (6 * (S.1.1 6)).toNatClampNeg x1)).1) 5 ((6 * (S.1.1 6)) + 1).toNatClampNeg x2)) (sA ((mO (mO S (sA S.1 5 (6 * (S.1.1 6)).toNatClampNeg x1)) (sA ((mO S (sA S.1 5 (6 * (S.1.1 6)).toNatClampNeg x1)).1) 5 ((6 * (S.1.1 6)) + 1).toNatClampNeg x2)).1) 5 ((6 * (S.1.1 6)) + 2).toNatClampNeg x3)) (sA ((mO (mO (mO S (sA S.1 5 (6 * (S.1.1 6)).toNatClampNeg x1)) (sA ((mO S (sA S.1 5 (6 * (S.1.1 6)).toNatClampNeg x1)).1) 5 ((6 * (S.1.1 6)) + 1).toNatClampNeg x2)) (sA ((mO (mO S (sA S.1 5 (6 * (S.1.1 6)).toNatClampNeg x1)) (sA ((mO S (sA S.1 5 (6 * (S.1.1 6)).toNatClampNeg x1)).1) 5 ((6 * (S.1.1 6)) + 1).toNatClampNeg x2)).1) 5 ((6 * (S.1.1 6)) + 2).toNatClampNeg x3)).1) 5 ((6 * (S.1.1 6)) + 3).toNatClampNeg x4)).1) 5 ((6 * (S.1.1 6)) + 4).toNatClampNeg x5)).1) 5 ((6 * (S.1.1 6)) + 5).toNatClampNeg x6)).1).1 6) + 1))).1).1 6), (mO (mO (mO (mO (mO (mO (mO S (sA S.1 5 (6 * (S.1.1 6)).toNatClampNeg x1)) (sA ((mO S (sA S.1 5 (6 * (S.1.1 6)).toNatClampNeg x1)).1) 5 ((6 * (S.1.1 6)) + 1).toNatClampNeg x2)) (sA ((mO (mO S (sA S.1 5 (6 * (S.1.1 6)).toNatClampNeg x1)) (sA ((mO S (sA S.1 5 (6 * (S.1.1 6)).toNatClampNeg x1)).1) 5 ((6 * (S.1.1 6)) + 1).toNatClampNeg x2)).1) 5 ((6 * (S.1.1 6)) + 2).toNatClampNeg x3)) (sA ((mO (mO (mO S (sA S.1 5 (6 * (S.1.1 6)).toNatClampNeg x1)) (sA ((mO S (sA S.1 5 (6 * (S.1.1 6)).toNatClampNeg x1)).1) 5 ((6 * (S.1.1 6)) + 1).toNatClampNeg x2)) (sA ((mO (mO S (sA S.1 5 (6 * (S.1.1 6)).toNatClampNeg x1)) (sA ((mO S (sA S.1 5 (6 * (S.1.1 6)).toNatClampNeg x1)).1) 5 ((6 * (S.1.1 6)) + 1).toNatClampNeg x2)).1) 5 ((6 * (S.1.1 6)) + 2).toNatClampNeg x3)).1) 5 ((6 * (S.1.1 6)) + 3).toNatClampNeg x4)) (sA ((mO (mO (mO (mO S (sA S.1 5 (6 * (S.1.1 6)).toNatClampNeg x1)) (sA ((mO S (sA S.1 5 (6 * (S.1.1 6)).toNatClampNeg x1)).1) 5 ((6 * (S.1.1 6)) + 1).toNatClampNeg x2)) (sA ((mO (mO S (sA S.1 5 (6 * (S.1.1 6)).toNatClampNeg x1)) (sA ((mO S (sA S.1 5 (6 * (S.1.1 6)).toNatClampNeg x1)).1) 5 ((6 * (S.1.1 6)) + 1).toNatClampNeg x2)).1) 5 ((6 * (S.1.1 6)) + 2).toNatClampNeg x3)) (sA ((mO (mO (mO S (sA S.1 5 (6 * (S.1.1 6)).toNatClampNeg x1)) (sA ((mO S (sA S.1 5 (6 * (S.1.1 6)).toNatClampNeg x1)).1) 5 ((6 * (S.1.1 6)) + 1).toNatClampNeg x2)) (sA ((mO (mO S (sA S.1 5 (6 * (S.1.1 6)).toNatClampNeg x1)) (sA ((mO S (sA S.1 5 (6 * (S.1.1 6)).toNatClampNeg x1)).1) 5 ((6 * (S.1.1 6)) + 1).toNatClampNeg x2)).1) 5 ((6 * (S.1.1 6)) + 2).toNatClampNeg x3)).1) 5 ((6 * (S.1.1 6)) + 3).toNatClampNeg x4)).1) 5 ((6 * (S.1.1 6)) + 4).toNatClampNeg x5)) (sA ((mO (mO (mO (mO (mO S (sA S.1 5 (6 * (S.1.1 6)).toNatClampNeg x1)) (sA ((mO S (sA S.1 5 (6 * (S.1.1 6)).toNatClampNeg x1)).1) 5 ((6 * (S.1.1 6)) + 1).toNatClampNeg x2)) (sA ((mO (mO S (sA S.1 5 (6 * (S.1.1 6)).toNatClampNeg x1)) (sA ((mO S (sA S.1 5 (6 * (S.1.1 6)).toNatClampNeg x1)).1) 5 ((6 * (S.1.1 6)) + 1).toNatClampNeg x2)).1) 5 ((6 * (S.1.1 6)) + 2).toNatClampNeg x3)) (sA ((mO (mO (mO S (sA S.1 5 (6 * (S.1.1 6)).toNatClampNeg x1)) (sA ((mO S (sA S.1 5 (6 * (S.1.1 6)).toNatClampNeg x1)).1) 5 ((6 * (S.1.1 6)) + 1).toNatClampNeg x2)) (sA ((mO (mO S (sA S.1 5 (6 * (S.1.1 6)).toNatClampNeg x1)) (sA ((mO S (sA S.1 5 (6 * (S.1.1 6)).toNatClampNeg x1)).1) 5 ((6 * (S.1.1 6)) + 1).toNatClampNeg x2)).1) 5 ((6 * (S.1.1 6)) + 2).toNatClampNeg x3)).1) 5 ((6 * (S.1.1 6)) + 3).toNatClampNeg x4)) (sA ((mO (mO (mO (mO S (sA S.1 5 (6 * (S.1.1 6)).toNatClampNeg x1)) (sA ((mO S (sA S.1 5 (6 * (S.1.1 6)).toNatClampNeg x1)).1) 5 ((6 * (S.1.1 6)) + 1).toNatClampNeg x2)) (sA ((mO (mO S (sA S.1 5 (6 * (S.1.1 6)).toNatClampNeg x1)) (sA ((mO S (sA S.1 5 (6 * (S.1.1 6)).toNatClampNeg x1)).1) 5 ((6 * (S.1.1 6)) + 1).toNatClampNeg x2)).1) 5 ((6 * (S.1.1 6)) + 2).toNatClampNeg x3)) (sA ((mO (mO (mO S (sA S.1 5 (6 * (S.1.1 6)).toNatClampNeg x1)) (sA ((mO S (sA S.1 5 (6 * (S.1.1 6)).toNatClampNeg x1)).1) 5 ((6 * (S.1.1 6)) + 1).toNatClampNeg x2)) (sA ((mO (mO S (sA S.1 5 (6 * (S.1.1 6)).toNatClampNeg x1)) (sA ((mO S (sA S.1 5 (6 * (S.1.1 6)).toNatClampNeg x1)).1) 5 ((6 * (S.1.1 6)) + 1).toNatClampNeg x2)).1) 5 ((6 * (S.1.1 6)) + 2).toNatClampNeg x3)).1) 5 ((6 * (S.1.1 6)) + 3).toNatClampNeg x4)).1) 5 ((6 * (S.1.1 6)) + 4).toNatClampNeg x5)).1) 5 ((6 * (S.1.1 6)) + 5).toNatClampNeg x6)) (sI ((mO (mO (mO (mO (mO (mO S (sA S.1 5 (6 * (S.1.1 6)).toNatClampNeg x1)) (sA ((mO S (sA S.1 5 (6 * (S.1.1 6)).toNatClampNeg x1)).1) 5 ((6 * (S.1.1 6)) + 1).toNatClampNeg x2)) (sA ((mO (mO S (sA S.1 5 (6 * (S.1.1 6)).toNatClampNeg x1)) (sA ((mO S (sA S.1 5 (6 * (S.1.1 6)).toNatClampNeg x1)).1) 5 ((6 * (S.1.1 6)) + 1).toNatClampNeg x2)).1) 5 ((6 * (S.1.1 6)) + 2).toNatClampNeg x3)) (sA ((mO (mO (mO S (sA S.1 5 (6 * (S.1.1 6)).toNatClampNeg x1)) (sA ((mO S (sA S.1 5 (6 * (S.1.1 6)).toNatClampNeg x1)).1) 5 ((6 * (S.1.1 6)) + 1).toNatClampNeg x2)) (sA ((mO (mO S (sA S.1 5 (6 * (S.1.1 6)).toNatClampNeg x1)) (sA ((mO S (sA S.1 5 (6 * (S.1.1 6)).toNatClampNeg x1)).1) 5 ((6 * (S.1.1 6)) + 1).toNatClampNeg x2)).1) 5 ((6 * (S.1.1 6)) + 2).toNatClampNeg x3)).1) 5 ((6 * (S.1.1 6)) + 3).toNatClampNeg x4)) (sA ((mO (mO (mO (mO S (sA S.1 5 (6 * (S.1.1 6)).toNatClampNeg x1)) (sA ((mO S (sA S.1 5 (6 * (S.1.1 6)).toNatClampNeg x1)).1) 5 ((6 * (S.1.1 6)) + 1).toNatClampNeg x2)) (sA ((mO (mO S (sA S.1 5 (6 * (S.1.1 6)).toNatClampNeg x1)) (sA ((mO S (sA S.1 5 (6 * (S.1.1 6)).toNatClampNeg x1)).1) 5 ((6 * (S.1.1 6)) + 1).toNatClampNeg x2)).1) 5 ((6 * (S.1.1 6)) + 2).toNatClampNeg x3)) (sA ((mO (mO (mO S (sA S.1 5 (6 * (S.1.1 6)).toNatClampNeg x1)) (sA ((mO S (sA S.1 5 (6 * (S.1.1 6)).toNatClampNeg x1)).1) 5 ((6 * (S.1.1 6)) + 1).toNatClampNeg x2)) (sA ((mO (mO S (sA S.1 5 (6 * (S.1.1 6)).toNatClampNeg x1)) (sA ((mO S (sA S.1 5 (6 * (S.1.1 6)).toNatClampNeg x1)).1) 5 ((6 * (S.1.1 6)) + 1).toNatClampNeg x2)).1) 5 ((6 * (S.1.1 6)) + 2).toNatClampNeg x3)).1) 5 ((6 * (S.1.1 6)) + 3).toNatClampNeg x4)).1) 5 ((6 * (S.1.1 6)) + 4).toNatClampNeg x5)) (sA ((mO (mO (mO (mO (mO S (sA S.1 5 (6 * (S.1.1 6)).toNatClampNeg x1)) (sA ((mO S (sA S.1 5 (6 * (S.1.1 6)).toNatClampNeg x1)).1) 5 ((6 * (S.1.1 6)) + 1).toNatClampNeg x2)) (sA ((mO (mO S (sA S.1 5 (6 * (S.1.1 6)).toNatClampNeg x1)) (sA ((mO S (sA S.1 5 (6 * (S.1.1 6)).toNatClampNeg x1)).1) 5 ((6 * (S.1.1 6)) + 1).toNatClampNeg x2)).1) 5 ((6 * (S.1.1 6)) + 2).toNatClampNeg x3)) (sA ((mO (mO (mO S (sA S.1 5 (6 * (S.1.1 6)).toNatClampNeg x1)) (sA ((mO S (sA S.1 5 (6 * (S.1.1 6)).toNatClampNeg x1)).1) 5 ((6 * (S.1.1 6)) + 1).toNatClampNeg x2)) (sA ((mO (mO S (sA S.1 5 (6 * (S.1.1 6)).toNatClampNeg x1)) (sA ((mO S (sA S.1 5 (6 * (S.1.1 6)).toNatClampNeg x1)).1) 5 ((6 * (S.1.1 6)) + 1).toNatClampNeg x2)).1) 5 ((6 * (S.1.1 6)) + 2).toNatClampNeg x3)).1) 5 ((6 * (S.1.1 6)) + 3).toNatClampNeg x4)) (sA ((mO (mO (mO (mO S (sA S.1 5 (6 * (S.1.1 6)).toNatClampNeg x1)) (sA ((mO S (sA S.1 5 (6 * (S.1.1 6)).toNatClampNeg x1)).1) 5 ((6 * (S.1.1 6)) + 1).toNatClampNeg x2)) (sA ((mO (mO S (sA S.1 5 (6 * (S.1.1 6)).toNatClampNeg x1)) (sA ((mO S (sA S.1 5 (6 * (S.1.1 6)).toNatClampNeg x1)).1) 5 ((6 * (S.1.1 6)) + 1).toNatClampNeg x2)).1) 5 ((6 * (S.1.1 6)) + 2).toNatClampNeg x3)) (sA ((mO (mO (mO S (sA S.1 5 (6 * (S.1.1 6)).toNatClampNeg x1)) (sA ((mO S (sA S.1 5 (6 * (S.1.1 6)).toNatClampNeg x1)).1) 5 ((6 * (S.1.1 6)) + 1).toNatClampNeg x2)) (sA ((mO (mO S (sA S.1 5 (6 * (S.1.1 6)).toNatClampNeg x1)) (sA ((mO S (sA S.1 5 (6 * (S.1.1 6)).toNatClampNeg x1)).1) 5 ((6 * (S.1.1 6)) + 1).toNatClampNeg x2)).1) 5 ((6 * (S.1.1 6)) + 2).toNatClampNeg x3)).1) 5 ((6 * (S.1.1 6)) + 3).toNatClampNeg x4)).1) 5 ((6 * (S.1.1 6)) + 4).toNatClampNeg x5)).1) 5 ((6 * (S.1.1 6)) + 5).toNatClampNeg x6)).1) 6 ((((mO (mO (mO (mO (mO (mO S (sA S.1 5 (6 * (S.1.1 6)).toNatClampNeg x1)) (sA ((mO S (sA S.1 5 (6 * (S.1.1 6)).toNatClampNeg x1)).1) 5 ((6 * (S.1.1 6)) + 1).toNatClampNeg x2)) (sA ((mO (mO S (sA S.1 5 (6 * (S.1.1 6)).toNatClampNeg x1)) (sA ((mO S (sA S.1 5 (6 * (S.1.1 6)).toNatClampNeg x1)).1) 5 ((6 * (S.1.1 6)) + 1).toNatClampNeg x2)).1) 5 ((6 * (S.1.1 6)) + 2).toNatClampNeg x3)) (sA ((mO (mO (mO S (sA S.1 5 (6 * (S.1.1 6)).toNatClampNeg x1)) (sA ((mO S (sA S.1 5 (6 * (S.1.1 6)).toNatClampNeg x1)).1) 5 ((6 * (S.1.1 6)) + 1).toNatClampNeg x2)) (sA ((mO (mO S (sA S.1 5 (6 * (S.1.1 6)).toNatClampNeg x1)) (sA ((mO S (sA S.1 5 (6 * (S.1.1 6)).toNatClampNeg x1)).1) 5 ((6 * (S.1.1 6)) + 1).toNatClampNeg x2)).1) 5 ((6 * (S.1.1 6)) + 2).toNatClampNeg x3)).1) 5 ((6 * (S.1.1 6)) + 3).toNatClampNeg x4)) (sA ((mO (mO (mO (mO S (sA S.1 5 (6 * (S.1.1 6)).toNatClampNeg x1)) (sA ((mO S (sA S.1 5 (6 * (S.1.1 6)).toNatClampNeg x1)).1) 5 ((6 * (S.1.1 6)) + 1).toNatClampNeg x2)) (sA ((mO (mO S (sA S.1 5 (6 * (S.1.1 6)).toNatClampNeg x1)) (sA ((mO S (sA S.1 5 (6 * (S.1.1 6)).toNatClampNeg x1)).1) 5 ((6 * (S.1.1 6)) + 1).toNatClampNeg x2)).1) 5 ((6 * (S.1.1 6)) + 2).toNatClampNeg x3)) (sA ((mO (mO (mO S (sA S.1 5 (6 * (S.1.1 6)).toNatClampNeg x1)) (sA ((mO S (sA S.1 5 (6 * (S.1.1 6)).toNatClampNeg x1)).1) 5 ((6 * (S.1.1 6)) + 1).toNatClampNeg x2)) (sA ((mO (mO S (sA S.1 5 (6 * (S.1.1 6)).toNatClampNeg x1)) (sA ((mO S (sA S.1 5 (6 * (S.1.1 6)).toNatClampNeg x1)).1) 5 ((6 * (S.1.1 6)) + 1).toNatClampNeg x2)).1) 5 ((6 * (S.1.1 6)) + 2).toNatClampNeg x3)).1) 5 ((6 * (S.1.1 6)) + 3).toNatClampNeg x4)).1) 5 ((6 * (S.1.1 6)) + 4).toNatClampNeg x5)) (sA ((mO (mO (mO (mO (mO S (sA S.1 5 (6 * (S.1.1 6)).toNatClampNeg x1)) (sA ((mO S (sA S.1 5 (6 * (S.1.1 6)).toNatClampNeg x1)).1) 5 ((6 * (S.1.1 6)) + 1).toNatClampNeg x2)) (sA ((mO (mO S (sA S.1 5 (6 * (S.1.1 6)).toNatClampNeg x1)) (sA ((mO S (sA S.1 5 (6 * (S.1.1 6)).toNatClampNeg x1)).1) 5 ((6 * (S.1.1 6)) + 1).toNatClampNeg x2)).1) 5 ((6 * (S.1.1 6)) + 2).toNatClampNeg x3)) (sA ((mO (mO (mO S (sA S.1 5 (6 * (S.1.1 6)).toNatClampNeg x1)) (sA ((mO S (sA S.1 5 (6 * (S.1.1 6)).toNatClampNeg x1)).1) 5 ((6 * (S.1.1 6)) + 1).toNatClampNeg x2)) (sA ((mO (mO S (sA S.1 5 (6 * (S.1.1 6)).toNatClampNeg x1)) (sA ((mO S (sA S.1 5 (6 * (S.1.1 6)).toNatClampNeg x1)).1) 5 ((6 * (S.1.1 6)) + 1).toNatClampNeg x2)).1) 5 ((6 * (S.1.1 6)) + 2).toNatClampNeg x3)).1) 5 ((6 * (S.1.1 6)) + 3).toNatClampNeg x4)) (sA ((mO (mO (mO (mO S (sA S.1 5 (6 * (S.1.1 6)).toNatClampNeg x1)) (sA ((mO S (sA S.1 5 (6 * (S.1.1 6)).toNatClampNeg x1)).1) 5 ((6 * (S.1.1 6)) + 1).toNatClampNeg x2)) (sA ((mO (mO S (sA S.1 5 (6 * (S.1.1 6)).toNatClampNeg x1)) (sA ((mO S (sA S.1 5 (6 * (S.1.1 6)).toNatClampNeg x1)).1) 5 ((6 * (S.1.1 6)) + 1).toNatClampNeg x2)).1) 5 ((6 * (S.1.1 6)) + 2).toNatClampNeg x3)) (sA ((mO (mO (mO S (sA S.1 5 (6 * (S.1.1 6)).toNatClampNeg x1)) (sA ((mO S (sA S.1 5 (6 * (S.1.1 6)).toNatClampNeg x1)).1) 5 ((6 * (S.1.1 6)) + 1).toNatClampNeg x2)) (sA ((mO (mO S (sA S.1 5 (6 * (S.1.1 6)).toNatClampNeg x1)) (sA ((mO S (sA S.1 5 (6 * (S.1.1 6)).toNatClampNeg x1)).1) 5 ((6 * (S.1.1 6)) + 1).toNatClampNeg x2)).1) 5 ((6 * (S.1.1 6)) + 2).toNatClampNeg x3)).1) 5 ((6 * (S.1.1 6)) + 3).toNatClampNeg x4)).1) 5 ((6 * (S.1.1 6)) + 4).toNatClampNeg x5)).1) 5 ((6 * (S.1.1 6)) + 5).toNatClampNeg x6)).1).1 6) + 1))))
def p_X12_tell (S : MS) (x1 x2 x3 x4 x5 x6 : Int32) : Prop := (if (S.1.1 6) = 600 then True else (vp_in (6 * (S.1.1 6)) 3600) ∧ (vp_in ((6 * (S.1.1 6)) + 1) 3600) ∧ (vp_in ((6 * (S.1.1 6)) + 2) 3600) ∧ (vp_in ((6 * (S.1.1 6)) + 3) 3600) ∧ (vp_in ((6 * (S.1.1 6)) + 4) 3600) ∧ (vp_in ((6 * (S.1.1 6)) + 5) 3600) ∧ True)
def e_X12_tell : List Cond := [.fieldLink RX12 161 "MotionFloorModel" "tolds" "I", .fieldLink RX12 33 "MotionFloorModel" "told" "[I"]
def v_X12_tell : List Cond := .code yX12_tell cX12_tell 8 (some .int) :: (e_X12_tell ++ (wsX120 ++ []))
theorem te_X12_tell : GoodIn lw_tbl e_X12_tell := wGc z283 (wGc z301 (wG0))
theorem t_X12_tell : GoodIn lw_tbl v_X12_tell := wGc z302 (wGa te_X12_tell (wGa zcX12 (wG0)))
set_option maxHeartbeats 4000000 in
set_option maxRecDepth 100000 in
theorem c_X12_tell (l : Launch) (G : va_G) (K : Nat → ClassId) (m0 : Nat) (gm : Nat → Nat) (h1 : Nat) (g1 : Nat → Nat) (h2 : Nat) (g2 : Nat → Nat) (S0 : MS) (a1 a2 a3 a4 a5 a6 : Int32) (sz : Nat) : Met l yX12_tell v_X12_tell ({ frames := 0, cells := 0, slots := 0, locals := 0 }) (va_Pc [.ref m0, .int a1, .int a2, .int a3, .int a4, .int a5, .int a6] (mSt G K m0 gm h1 g1 h2 g2 sz S0 (p_X12_tell S0 a1 a2 a3 a4 a5 a6))) (va_Qi (fun (r : Int32) (u : MS) => (r, u) = f_X12_tell S0 a1 a2 a3 a4 a5 a6) (mB G K m0 gm h1 g1 h2 g2 (va_A (mW K m0 gm h1 g1 h2 g2 S0) sz)) (va_A (mW K m0 gm h1 g1 h2 g2 S0) sz)) 0 0 (va_A (mW K m0 gm h1 g1 h2 g2 S0) sz) := by
  refine Met.ofW (cc := cX12_tell) (maxL := 8) (ret := (some .int)) (by decide) rfl ?_
  intro p e s m args below meth c s₁ B hml hv
  obtain ⟨rfl, ⟨hsz, hP, hK, hD0, hTE⟩, hp⟩ := hv
  have hx := B.exec
  have hb := B.bytes
  have hr := B.returns
  have hts := atoms_spec (ws := v_X12_tell) B.pre
  have t_ := t_X12_tell
  have mw : ∀ w ∈ e_X12_tell, w ∈ v_X12_tell := fun w h => List.mem_cons_of_mem _ (List.mem_append_left _ h)
  have hw := fun w (h : w ∈ e_X12_tell) => hts w (mw w h)
  have iX12 : ∀ w ∈ wsX120, w ∈ v_X12_tell := fun w h => List.mem_cons_of_mem _ (List.mem_append_right _ (List.mem_append_left _ h))
  have hown : s.vm.findClass RX12 = some m.cls := findClass_of_methodNamed B.named
  have hlocks := B.notSynchronized
  subst hsz
  have hD := hD0.self (sz := s.heap.size)
  generalize hAe : va_A (mW K m0 gm h1 g1 h2 g2 S0) s.heap.size = A at hD ⊢
  have hA : ∀ q : Nat, s.heap.size ≤ q → A q := fun q h => by rw [← hAe]; exact Or.inr h
  have hS : va_S A s.heap s.heap [] := va_S.rf
  have hl := lv_entry ([.ref m0, .int a1, .int a2, .int a3, .int a4, .int a5, .int a6]) (n := 8) (Nat.le_of_ble_eq_true rfl)
  rw [lg_entry_eq]
  generalize (lg_sl ([.ref m0, .int a1, .int a2, .int a3, .int a4, .int a5, .int a6]) ++ List.replicate (8 - (lg_sl ([.ref m0, .int a1, .int a2, .int a3, .int a4, .int a5, .int a6])).length) Slot.unset).toArray = ls at hl ⊢
  have hl : lv_has ls 8 [(0, .ref m0), (1, .int a1), (2, .int a2), (3, .int a3), (4, .int a4), (5, .int a5), (6, .int a6)] := hl
  refine wGen (fun Q hQ => ?_)
  obtain ⟨X, hX⟩ : ∃ X, f_X12_tell S0 a1 a2 a3 a4 a5 a6 = X := ⟨_, rfl⟩
  have B_M : ∀ (S : MS) (x1 x2 x3 x4 x5 x6 : Int32) (H : Heap) (locs : List Loc) (ls : Array Slot), f_X12_tell S x1 x2 x3 x4 x5 x6 = X → p_X12_tell S x1 x2 x3 x4 x5 x6 → va_P G vwCl (mW K m0 gm h1 g1 h2 g2 S) H → va_D A (mW K m0 gm h1 g1 h2 g2 S) → va_S A s.heap H locs → lv_has ls 8 [(0, .ref m0), (1, .int x1), (2, .int x2), (3, .int x3), (4, .int x4), (5, .int x5), (6, .int x6)] → W p l e ({ frames := 0, cells := 0, slots := 0, locals := 0 } : Room) s m #[Value.ref m0, Value.int a1, Value.int a2, Value.int a3, Value.int a4, Value.int a5, Value.int a6] below meth c H locs 0 0 Q (F0 m 0 ls []) := by
    intro S x1 x2 x3 x4 x5 x6 H locs ls hE hp hP hD hS hl
    unfold f_X12_tell at hE
    unfold p_X12_tell at hp
    refine lv_aload_n hx hb dX12_tell_0 rfl (lv_at hl 0 rfl) ?_
    refine va_get (D := G) (ci := 9) (v := .int (S.1.1 6)) (C := RX12) (T := TX12) (N := 7) hx hb hts iX12 hown hK hP 0 rfl rfl 6 (by decide) (hw (.fieldLink RX12 161 "MotionFloorModel" "tolds" "I") (List.mem_of_getElem? (i := 0) rfl)) (fun _ h9 => h9) rfl dX12_tell_1 ?_
    refine lv_sipush (v := 600) hx hb dX12_tell_4 (by decide) ?_
    refine lv_icmp_ne (tgt := 13) hx hb dX12_tell_7 (by decide) (fun c1 => ?_) (fun c1 => ?_)
    · rw [if_neg c1] at hE hp
      refine lv_bipush (v := 6) hx hb dX12_tell_13 (by decide) ?_
      refine lv_aload_n hx hb dX12_tell_15 rfl (lv_at hl 0 rfl) ?_
      refine va_get (D := G) (ci := 9) (v := .int (S.1.1 6)) (C := RX12) (T := TX12) (N := 7) hx hb hts iX12 hown hK hP 0 rfl rfl 6 (by decide) (hw (.fieldLink RX12 161 "MotionFloorModel" "tolds" "I") (List.mem_of_getElem? (i := 0) rfl)) (fun _ h9 => h9) rfl dX12_tell_16 ?_
      refine lv_imul hx hb dX12_tell_19 ?_
      refine lv_istore (lv' := [(7, .int (6 * (S.1.1 6))), (0, .ref m0), (1, .int x1), (2, .int x2), (3, .int x3), (4, .int x4), (5, .int x5), (6, .int x6)]) hx hb dX12_tell_20 hl (by decide) rfl (fun ls hl => ?_)
      refine lv_aload_n hx hb dX12_tell_22 rfl (lv_at hl 1 rfl) ?_
      refine va_get (D := G) (ci := 9) (v := .ref (gm 5)) (C := RX12) (T := TX12) (N := 7) hx hb hts iX12 hown hK hP 0 rfl rfl 5 (by decide) (hw (.fieldLink RX12 33 "MotionFloorModel" "told" "[I") (List.mem_of_getElem? (i := 1) rfl)) (fun _ h9 => h9) rfl dX12_tell_23 ?_
      refine lv_iload hx hb dX12_tell_26 (lv_at hl 0 rfl) ?_
      refine lv_iload_n hx hb dX12_tell_28 rfl (lv_at hl 2 rfl) ?_
      obtain ⟨hy2, hp⟩ := hp
      refine va_iast hx hb hK hP hD hS 4 0 rfl rfl hy2 dX12_tell_29 (fun H locs hP hD hS => ?_)
      rw [mA_o_5] at hP hD
      refine lv_aload_n hx hb dX12_tell_30 rfl (lv_at hl 1 rfl) ?_
      refine va_get (D := G) (ci := 9) (v := .ref (gm 5)) (C := RX12) (T := TX12) (N := 7) hx hb hts iX12 hown hK hP 0 rfl rfl 5 (by decide) (hw (.fieldLink RX12 33 "MotionFloorModel" "told" "[I") (List.mem_of_getElem? (i := 1) rfl)) (fun _ h9 => h9) rfl dX12_tell_31 ?_
      refine lv_iload hx hb dX12_tell_34 (lv_at hl 0 rfl) ?_
      refine lv_iconst (v := 1) hx hb dX12_tell_36 (by decide) ?_
      refine lv_iadd hx hb dX12_tell_37 ?_
      refine lv_iload_n hx hb dX12_tell_38 rfl (lv_at hl 3 rfl) ?_
      obtain ⟨hy3, hp⟩ := hp
      refine va_iast hx hb hK hP hD hS 4 0 rfl rfl hy3 dX12_tell_39 (fun H locs hP hD hS => ?_)
      rw [mA_o_5] at hP hD
      refine lv_aload_n hx hb dX12_tell_40 rfl (lv_at hl 1 rfl) ?_
      refine va_get (D := G) (ci := 9) (v := .ref (gm 5)) (C := RX12) (T := TX12) (N := 7) hx hb hts iX12 hown hK hP 0 rfl rfl 5 (by decide) (hw (.fieldLink RX12 33 "MotionFloorModel" "told" "[I") (List.mem_of_getElem? (i := 1) rfl)) (fun _ h9 => h9) rfl dX12_tell_41 ?_
      refine lv_iload hx hb dX12_tell_44 (lv_at hl 0 rfl) ?_
      refine lv_iconst (v := 2) hx hb dX12_tell_46 (by decide) ?_
      refine lv_iadd hx hb dX12_tell_47 ?_
      refine lv_iload_n hx hb dX12_tell_48 rfl (lv_at hl 4 rfl) ?_
      obtain ⟨hy4, hp⟩ := hp
      refine va_iast hx hb hK hP hD hS 4 0 rfl rfl hy4 dX12_tell_49 (fun H locs hP hD hS => ?_)
      rw [mA_o_5] at hP hD
      refine lv_aload_n hx hb dX12_tell_50 rfl (lv_at hl 1 rfl) ?_
      refine va_get (D := G) (ci := 9) (v := .ref (gm 5)) (C := RX12) (T := TX12) (N := 7) hx hb hts iX12 hown hK hP 0 rfl rfl 5 (by decide) (hw (.fieldLink RX12 33 "MotionFloorModel" "told" "[I") (List.mem_of_getElem? (i := 1) rfl)) (fun _ h9 => h9) rfl dX12_tell_51 ?_
      refine lv_iload hx hb dX12_tell_54 (lv_at hl 0 rfl) ?_
      refine lv_iconst (v := 3) hx hb dX12_tell_56 (by decide) ?_
      refine lv_iadd hx hb dX12_tell_57 ?_
      refine lv_iload hx hb dX12_tell_58 (lv_at hl 5 rfl) ?_
      obtain ⟨hy5, hp⟩ := hp
      refine va_iast hx hb hK hP hD hS 4 0 rfl rfl hy5 dX12_tell_60 (fun H locs hP hD hS => ?_)
      rw [mA_o_5] at hP hD
      refine lv_aload_n hx hb dX12_tell_61 rfl (lv_at hl 1 rfl) ?_
      refine va_get (D := G) (ci := 9) (v := .ref (gm 5)) (C := RX12) (T := TX12) (N := 7) hx hb hts iX12 hown hK hP 0 rfl rfl 5 (by decide) (hw (.fieldLink RX12 33 "MotionFloorModel" "told" "[I") (List.mem_of_getElem? (i := 1) rfl)) (fun _ h9 => h9) rfl dX12_tell_62 ?_
      refine lv_iload hx hb dX12_tell_65 (lv_at hl 0 rfl) ?_
      refine lv_iconst (v := 4) hx hb dX12_tell_67 (by decide) ?_
      refine lv_iadd hx hb dX12_tell_68 ?_
      refine lv_iload hx hb dX12_tell_69 (lv_at hl 6 rfl) ?_
      obtain ⟨hy6, hp⟩ := hp
      refine va_iast hx hb hK hP hD hS 4 0 rfl rfl hy6 dX12_tell_71 (fun H locs hP hD hS => ?_)
      rw [mA_o_5] at hP hD
      refine lv_aload_n hx hb dX12_tell_72 rfl (lv_at hl 1 rfl) ?_
      refine va_get (D := G) (ci := 9) (v := .ref (gm 5)) (C := RX12) (T := TX12) (N := 7) hx hb hts iX12 hown hK hP 0 rfl rfl 5 (by decide) (hw (.fieldLink RX12 33 "MotionFloorModel" "told" "[I") (List.mem_of_getElem? (i := 1) rfl)) (fun _ h9 => h9) rfl dX12_tell_73 ?_
      refine lv_iload hx hb dX12_tell_76 (lv_at hl 0 rfl) ?_
      refine lv_iconst (v := 5) hx hb dX12_tell_78 (by decide) ?_
      refine lv_iadd hx hb dX12_tell_79 ?_
      refine lv_iload hx hb dX12_tell_80 (lv_at hl 7 rfl) ?_
      obtain ⟨hy7, hp⟩ := hp
      refine va_iast hx hb hK hP hD hS 4 0 rfl rfl hy7 dX12_tell_82 (fun H locs hP hD hS => ?_)
      rw [mA_o_5] at hP hD
      refine lv_aload_n hx hb dX12_tell_83 rfl (lv_at hl 1 rfl) ?_
      refine lv_dup hx hb dX12_tell_84 rfl ?_
      refine va_get (D := G) (ci := 9) (v := .int (((mO (mO (mO (mO (mO (mO S (sA S.1 5 (6 * (S.1.1 6)).toNatClampNeg x1)) (sA ((mO S (sA S.1 5 (6 * (S.1.1 6)).toNatClampNeg x1)).1) 5 ((6 * (S.1.1 6)) + 1).toNatClampNeg x2)) (sA ((mO (mO S (sA S.1 5 (6 * (S.1.1 6)).toNatClampNeg x1)) (sA ((mO S (sA S.1 5 (6 * (S.1.1 6)).toNatClampNeg x1)).1) 5 ((6 * (S.1.1 6)) + 1).toNatClampNeg x2)).1) 5 ((6 * (S.1.1 6)) + 2).toNatClampNeg x3)) (sA ((mO (mO (mO S (sA S.1 5 (6 * (S.1.1 6)).toNatClampNeg x1)) (sA ((mO S (sA S.1 5 (6 * (S.1.1 6)).toNatClampNeg x1)).1) 5 ((6 * (S.1.1 6)) + 1).toNatClampNeg x2)) (sA ((mO (mO S (sA S.1 5 (6 * (S.1.1 6)).toNatClampNeg x1)) (sA ((mO S (sA S.1 5 (6 * (S.1.1 6)).toNatClampNeg x1)).1) 5 ((6 * (S.1.1 6)) + 1).toNatClampNeg x2)).1) 5 ((6 * (S.1.1 6)) + 2).toNatClampNeg x3)).1) 5 ((6 * (S.1.1 6)) + 3).toNatClampNeg x4)) (sA ((mO (mO (mO (mO S (sA S.1 5 (6 * (S.1.1 6)).toNatClampNeg x1)) (sA ((mO S (sA S.1 5 (6 * (S.1.1 6)).toNatClampNeg x1)).1) 5 ((6 * (S.1.1 6)) + 1).toNatClampNeg x2)) (sA ((mO (mO S (sA S.1 5 (6 * (S.1.1 6)).toNatClampNeg x1)) (sA ((mO S (sA S.1 5 (6 * (S.1.1 6)).toNatClampNeg x1)).1) 5 ((6 * (S.1.1 6)) + 1).toNatClampNeg x2)).1) 5 ((6 * (S.1.1 6)) + 2).toNatClampNeg x3)) (sA ((mO (mO (mO S (sA S.1 5 (6 * (S.1.1 6)).toNatClampNeg x1)) (sA ((mO S (sA S.1 5 (6 * (S.1.1 6)).toNatClampNeg x1)).1) 5 ((6 * (S.1.1 6)) + 1).toNatClampNeg x2)) (sA ((mO (mO S (sA S.1 5 (6 * (S.1.1 6)).toNatClampNeg x1)) (sA ((mO S (sA S.1 5 (6 * (S.1.1 6)).toNatClampNeg x1)).1) 5 ((6 * (S.1.1 6)) + 1).toNatClampNeg x2)).1) 5 ((6 * (S.1.1 6)) + 2).toNatClampNeg x3)).1) 5 ((6 * (S.1.1 6)) + 3).toNatClampNeg x4)).1) 5 ((6 * (S.1.1 6)) + 4).toNatClampNeg x5)) (sA ((mO (mO (mO (mO (mO S (sA S.1 5 (6 * (S.1.1 6)).toNatClampNeg x1)) (sA ((mO S (sA S.1 5 (6 * (S.1.1 6)).toNatClampNeg x1)).1) 5 ((6 * (S.1.1 6)) + 1).toNatClampNeg x2)) (sA ((mO (mO S (sA S.1 5 (6 * (S.1.1 6)).toNatClampNeg x1)) (sA ((mO S (sA S.1 5 (6 * (S.1.1 6)).toNatClampNeg x1)).1) 5 ((6 * (S.1.1 6)) + 1).toNatClampNeg x2)).1) 5 ((6 * (S.1.1 6)) + 2).toNatClampNeg x3)) (sA ((mO (mO (mO S (sA S.1 5 (6 * (S.1.1 6)).toNatClampNeg x1)) (sA ((mO S (sA S.1 5 (6 * (S.1.1 6)).toNatClampNeg x1)).1) 5 ((6 * (S.1.1 6)) + 1).toNatClampNeg x2)) (sA ((mO (mO S (sA S.1 5 (6 * (S.1.1 6)).toNatClampNeg x1)) (sA ((mO S (sA S.1 5 (6 * (S.1.1 6)).toNatClampNeg x1)).1) 5 ((6 * (S.1.1 6)) + 1).toNatClampNeg x2)).1) 5 ((6 * (S.1.1 6)) + 2).toNatClampNeg x3)).1) 5 ((6 * (S.1.1 6)) + 3).toNatClampNeg x4)) (sA ((mO (mO (mO (mO S (sA S.1 5 (6 * (S.1.1 6)).toNatClampNeg x1)) (sA ((mO S (sA S.1 5 (6 * (S.1.1 6)).toNatClampNeg x1)).1) 5 ((6 * (S.1.1 6)) + 1).toNatClampNeg x2)) (sA ((mO (mO S (sA S.1 5 (6 * (S.1.1 6)).toNatClampNeg x1)) (sA ((mO S (sA S.1 5 (6 * (S.1.1 6)).toNatClampNeg x1)).1) 5 ((6 * (S.1.1 6)) + 1).toNatClampNeg x2)).1) 5 ((6 * (S.1.1 6)) + 2).toNatClampNeg x3)) (sA ((mO (mO (mO S (sA S.1 5 (6 * (S.1.1 6)).toNatClampNeg x1)) (sA ((mO S (sA S.1 5 (6 * (S.1.1 6)).toNatClampNeg x1)).1) 5 ((6 * (S.1.1 6)) + 1).toNatClampNeg x2)) (sA ((mO (mO S (sA S.1 5 (6 * (S.1.1 6)).toNatClampNeg x1)) (sA ((mO S (sA S.1 5 (6 * (S.1.1 6)).toNatClampNeg x1)).1) 5 ((6 * (S.1.1 6)) + 1).toNatClampNeg x2)).1) 5 ((6 * (S.1.1 6)) + 2).toNatClampNeg x3)).1) 5 ((6 * (S.1.1 6)) + 3).toNatClampNeg x4)).1) 5 ((6 * (S.1.1 6)) + 4).toNatClampNeg x5)).1) 5 ((6 * (S.1.1 6)) + 5).toNatClampNeg x6)).1).1 6)) (C := RX12) (T := TX12) (N := 7) hx hb hts iX12 hown hK hP 0 rfl rfl 6 (by decide) (hw (.fieldLink RX12 161 "MotionFloorModel" "tolds" "I") (List.mem_of_getElem? (i := 0) rfl)) (fun _ h9 => h9) rfl dX12_tell_85 ?_
      refine lv_iconst (v := 1) hx hb dX12_tell_88 (by decide) ?_
      refine lv_iadd hx hb dX12_tell_89 ?_
      refine va_put (D := G) (ci := 9) (v := .int ((((mO (mO (mO (mO (mO (mO S (sA S.1 5 (6 * (S.1.1 6)).toNatClampNeg x1)) (sA ((mO S (sA S.1 5 (6 * (S.1.1 6)).toNatClampNeg x1)).1) 5 ((6 * (S.1.1 6)) + 1).toNatClampNeg x2)) (sA ((mO (mO S (sA S.1 5 (6 * (S.1.1 6)).toNatClampNeg x1)) (sA ((mO S (sA S.1 5 (6 * (S.1.1 6)).toNatClampNeg x1)).1) 5 ((6 * (S.1.1 6)) + 1).toNatClampNeg x2)).1) 5 ((6 * (S.1.1 6)) + 2).toNatClampNeg x3)) (sA ((mO (mO (mO S (sA S.1 5 (6 * (S.1.1 6)).toNatClampNeg x1)) (sA ((mO S (sA S.1 5 (6 * (S.1.1 6)).toNatClampNeg x1)).1) 5 ((6 * (S.1.1 6)) + 1).toNatClampNeg x2)) (sA ((mO (mO S (sA S.1 5 (6 * (S.1.1 6)).toNatClampNeg x1)) (sA ((mO S (sA S.1 5 (6 * (S.1.1 6)).toNatClampNeg x1)).1) 5 ((6 * (S.1.1 6)) + 1).toNatClampNeg x2)).1) 5 ((6 * (S.1.1 6)) + 2).toNatClampNeg x3)).1) 5 ((6 * (S.1.1 6)) + 3).toNatClampNeg x4)) (sA ((mO (mO (mO (mO S (sA S.1 5 (6 * (S.1.1 6)).toNatClampNeg x1)) (sA ((mO S (sA S.1 5 (6 * (S.1.1 6)).toNatClampNeg x1)).1) 5 ((6 * (S.1.1 6)) + 1).toNatClampNeg x2)) (sA ((mO (mO S (sA S.1 5 (6 * (S.1.1 6)).toNatClampNeg x1)) (sA ((mO S (sA S.1 5 (6 * (S.1.1 6)).toNatClampNeg x1)).1) 5 ((6 * (S.1.1 6)) + 1).toNatClampNeg x2)).1) 5 ((6 * (S.1.1 6)) + 2).toNatClampNeg x3)) (sA ((mO (mO (mO S (sA S.1 5 (6 * (S.1.1 6)).toNatClampNeg x1)) (sA ((mO S (sA S.1 5 (6 * (S.1.1 6)).toNatClampNeg x1)).1) 5 ((6 * (S.1.1 6)) + 1).toNatClampNeg x2)) (sA ((mO (mO S (sA S.1 5 (6 * (S.1.1 6)).toNatClampNeg x1)) (sA ((mO S (sA S.1 5 (6 * (S.1.1 6)).toNatClampNeg x1)).1) 5 ((6 * (S.1.1 6)) + 1).toNatClampNeg x2)).1) 5 ((6 * (S.1.1 6)) + 2).toNatClampNeg x3)).1) 5 ((6 * (S.1.1 6)) + 3).toNatClampNeg x4)).1) 5 ((6 * (S.1.1 6)) + 4).toNatClampNeg x5)) (sA ((mO (mO (mO (mO (mO S (sA S.1 5 (6 * (S.1.1 6)).toNatClampNeg x1)) (sA ((mO S (sA S.1 5 (6 * (S.1.1 6)).toNatClampNeg x1)).1) 5 ((6 * (S.1.1 6)) + 1).toNatClampNeg x2)) (sA ((mO (mO S (sA S.1 5 (6 * (S.1.1 6)).toNatClampNeg x1)) (sA ((mO S (sA S.1 5 (6 * (S.1.1 6)).toNatClampNeg x1)).1) 5 ((6 * (S.1.1 6)) + 1).toNatClampNeg x2)).1) 5 ((6 * (S.1.1 6)) + 2).toNatClampNeg x3)) (sA ((mO (mO (mO S (sA S.1 5 (6 * (S.1.1 6)).toNatClampNeg x1)) (sA ((mO S (sA S.1 5 (6 * (S.1.1 6)).toNatClampNeg x1)).1) 5 ((6 * (S.1.1 6)) + 1).toNatClampNeg x2)) (sA ((mO (mO S (sA S.1 5 (6 * (S.1.1 6)).toNatClampNeg x1)) (sA ((mO S (sA S.1 5 (6 * (S.1.1 6)).toNatClampNeg x1)).1) 5 ((6 * (S.1.1 6)) + 1).toNatClampNeg x2)).1) 5 ((6 * (S.1.1 6)) + 2).toNatClampNeg x3)).1) 5 ((6 * (S.1.1 6)) + 3).toNatClampNeg x4)) (sA ((mO (mO (mO (mO S (sA S.1 5 (6 * (S.1.1 6)).toNatClampNeg x1)) (sA ((mO S (sA S.1 5 (6 * (S.1.1 6)).toNatClampNeg x1)).1) 5 ((6 * (S.1.1 6)) + 1).toNatClampNeg x2)) (sA ((mO (mO S (sA S.1 5 (6 * (S.1.1 6)).toNatClampNeg x1)) (sA ((mO S (sA S.1 5 (6 * (S.1.1 6)).toNatClampNeg x1)).1) 5 ((6 * (S.1.1 6)) + 1).toNatClampNeg x2)).1) 5 ((6 * (S.1.1 6)) + 2).toNatClampNeg x3)) (sA ((mO (mO (mO S (sA S.1 5 (6 * (S.1.1 6)).toNatClampNeg x1)) (sA ((mO S (sA S.1 5 (6 * (S.1.1 6)).toNatClampNeg x1)).1) 5 ((6 * (S.1.1 6)) + 1).toNatClampNeg x2)) (sA ((mO (mO S (sA S.1 5 (6 * (S.1.1 6)).toNatClampNeg x1)) (sA ((mO S (sA S.1 5 (6 * (S.1.1 6)).toNatClampNeg x1)).1) 5 ((6 * (S.1.1 6)) + 1).toNatClampNeg x2)).1) 5 ((6 * (S.1.1 6)) + 2).toNatClampNeg x3)).1) 5 ((6 * (S.1.1 6)) + 3).toNatClampNeg x4)).1) 5 ((6 * (S.1.1 6)) + 4).toNatClampNeg x5)).1) 5 ((6 * (S.1.1 6)) + 5).toNatClampNeg x6)).1).1 6) + 1)) (ty := .int) (C := RX12) (T := TX12) (N := 7) hx hb hts iX12 tyX12 tyX12_ok nmX12 hown hK hP hD hS 0 rfl rfl 6 (by decide) (hw (.fieldLink RX12 161 "MotionFloorModel" "tolds" "I") (List.mem_of_getElem? (i := 0) rfl)) (fun _ h9 => h9) rfl (by decide +kernel) rfl rfl (Nat.le_of_ble_eq_true rfl) dX12_tell_90 (fun H locs hP hD hS => ?_)
      rw [mI_o_6b] at hP hD
      refine lv_aload_n hx hb dX12_tell_93 rfl (lv_at hl 1 rfl) ?_
      refine va_get (D := G) (ci := 9) (v := .int (((mO (mO (mO (mO (mO (mO (mO S (sA S.1 5 (6 * (S.1.1 6)).toNatClampNeg x1)) (sA ((mO S (sA S.1 5 (6 * (S.1.1 6)).toNatClampNeg x1)).1) 5 ((6 * (S.1.1 6)) + 1).toNatClampNeg x2)) (sA ((mO (mO S (sA S.1 5 (6 * (S.1.1 6)).toNatClampNeg x1)) (sA ((mO S (sA S.1 5 (6 * (S.1.1 6)).toNatClampNeg x1)).1) 5 ((6 * (S.1.1 6)) + 1).toNatClampNeg x2)).1) 5 ((6 * (S.1.1 6)) + 2).toNatClampNeg x3)) (sA ((mO (mO (mO S (sA S.1 5 (6 * (S.1.1 6)).toNatClampNeg x1)) (sA ((mO S (sA S.1 5 (6 * (S.1.1 6)).toNatClampNeg x1)).1) 5 ((6 * (S.1.1 6)) + 1).toNatClampNeg x2)) (sA ((mO (mO S (sA S.1 5 (6 * (S.1.1 6)).toNatClampNeg x1)) (sA ((mO S (sA S.1 5 (6 * (S.1.1 6)).toNatClampNeg x1)).1) 5 ((6 * (S.1.1 6)) + 1).toNatClampNeg x2)).1) 5 ((6 * (S.1.1 6)) + 2).toNatClampNeg x3)).1) 5 ((6 * (S.1.1 6)) + 3).toNatClampNeg x4)) (sA ((mO (mO (mO (mO S (sA S.1 5 (6 * (S.1.1 6)).toNatClampNeg x1)) (sA ((mO S (sA S.1 5 (6 * (S.1.1 6)).toNatClampNeg x1)).1) 5 ((6 * (S.1.1 6)) + 1).toNatClampNeg x2)) (sA ((mO (mO S (sA S.1 5 (6 * (S.1.1 6)).toNatClampNeg x1)) (sA ((mO S (sA S.1 5 (6 * (S.1.1 6)).toNatClampNeg x1)).1) 5 ((6 * (S.1.1 6)) + 1).toNatClampNeg x2)).1) 5 ((6 * (S.1.1 6)) + 2).toNatClampNeg x3)) (sA ((mO (mO (mO S (sA S.1 5 (6 * (S.1.1 6)).toNatClampNeg x1)) (sA ((mO S (sA S.1 5 (6 * (S.1.1 6)).toNatClampNeg x1)).1) 5 ((6 * (S.1.1 6)) + 1).toNatClampNeg x2)) (sA ((mO (mO S (sA S.1 5 (6 * (S.1.1 6)).toNatClampNeg x1)) (sA ((mO S (sA S.1 5 (6 * (S.1.1 6)).toNatClampNeg x1)).1) 5 ((6 * (S.1.1 6)) + 1).toNatClampNeg x2)).1) 5 ((6 * (S.1.1 6)) + 2).toNatClampNeg x3)).1) 5 ((6 * (S.1.1 6)) + 3).toNatClampNeg x4)).1) 5 ((6 * (S.1.1 6)) + 4).toNatClampNeg x5)) (sA ((mO (mO (mO (mO (mO S (sA S.1 5 (6 * (S.1.1 6)).toNatClampNeg x1)) (sA ((mO S (sA S.1 5 (6 * (S.1.1 6)).toNatClampNeg x1)).1) 5 ((6 * (S.1.1 6)) + 1).toNatClampNeg x2)) (sA ((mO (mO S (sA S.1 5 (6 * (S.1.1 6)).toNatClampNeg x1)) (sA ((mO S (sA S.1 5 (6 * (S.1.1 6)).toNatClampNeg x1)).1) 5 ((6 * (S.1.1 6)) + 1).toNatClampNeg x2)).1) 5 ((6 * (S.1.1 6)) + 2).toNatClampNeg x3)) (sA ((mO (mO (mO S (sA S.1 5 (6 * (S.1.1 6)).toNatClampNeg x1)) (sA ((mO S (sA S.1 5 (6 * (S.1.1 6)).toNatClampNeg x1)).1) 5 ((6 * (S.1.1 6)) + 1).toNatClampNeg x2)) (sA ((mO (mO S (sA S.1 5 (6 * (S.1.1 6)).toNatClampNeg x1)) (sA ((mO S (sA S.1 5 (6 * (S.1.1 6)).toNatClampNeg x1)).1) 5 ((6 * (S.1.1 6)) + 1).toNatClampNeg x2)).1) 5 ((6 * (S.1.1 6)) + 2).toNatClampNeg x3)).1) 5 ((6 * (S.1.1 6)) + 3).toNatClampNeg x4)) (sA ((mO (mO (mO (mO S (sA S.1 5 (6 * (S.1.1 6)).toNatClampNeg x1)) (sA ((mO S (sA S.1 5 (6 * (S.1.1 6)).toNatClampNeg x1)).1) 5 ((6 * (S.1.1 6)) + 1).toNatClampNeg x2)) (sA ((mO (mO S (sA S.1 5 (6 * (S.1.1 6)).toNatClampNeg x1)) (sA ((mO S (sA S.1 5 (6 * (S.1.1 6)).toNatClampNeg x1)).1) 5 ((6 * (S.1.1 6)) + 1).toNatClampNeg x2)).1) 5 ((6 * (S.1.1 6)) + 2).toNatClampNeg x3)) (sA ((mO (mO (mO S (sA S.1 5 (6 * (S.1.1 6)).toNatClampNeg x1)) (sA ((mO S (sA S.1 5 (6 * (S.1.1 6)).toNatClampNeg x1)).1) 5 ((6 * (S.1.1 6)) + 1).toNatClampNeg x2)) (sA ((mO (mO S (sA S.1 5 (6 * (S.1.1 6)).toNatClampNeg x1)) (sA ((mO S (sA S.1 5 (6 * (S.1.1 6)).toNatClampNeg x1)).1) 5 ((6 * (S.1.1 6)) + 1).toNatClampNeg x2)).1) 5 ((6 * (S.1.1 6)) + 2).toNatClampNeg x3)).1) 5 ((6 * (S.1.1 6)) + 3).toNatClampNeg x4)).1) 5 ((6 * (S.1.1 6)) + 4).toNatClampNeg x5)).1) 5 ((6 * (S.1.1 6)) + 5).toNatClampNeg x6)) (sI ((mO (mO (mO (mO (mO (mO S (sA S.1 5 (6 * (S.1.1 6)).toNatClampNeg x1)) (sA ((mO S (sA S.1 5 (6 * (S.1.1 6)).toNatClampNeg x1)).1) 5 ((6 * (S.1.1 6)) + 1).toNatClampNeg x2)) (sA ((mO (mO S (sA S.1 5 (6 * (S.1.1 6)).toNatClampNeg x1)) (sA ((mO S (sA S.1 5 (6 * (S.1.1 6)).toNatClampNeg x1)).1) 5 ((6 * (S.1.1 6)) + 1).toNatClampNeg x2)).1) 5 ((6 * (S.1.1 6)) + 2).toNatClampNeg x3)) (sA ((mO (mO (mO S (sA S.1 5 (6 * (S.1.1 6)).toNatClampNeg x1)) (sA ((mO S (sA S.1 5 (6 * (S.1.1 6)).toNatClampNeg x1)).1) 5 ((6 * (S.1.1 6)) + 1).toNatClampNeg x2)) (sA ((mO (mO S (sA S.1 5 (6 * (S.1.1 6)).toNatClampNeg x1)) (sA ((mO S (sA S.1 5 (6 * (S.1.1 6)).toNatClampNeg x1)).1) 5 ((6 * (S.1.1 6)) + 1).toNatClampNeg x2)).1) 5 ((6 * (S.1.1 6)) + 2).toNatClampNeg x3)).1) 5 ((6 * (S.1.1 6)) + 3).toNatClampNeg x4)) (sA ((mO (mO (mO (mO S (sA S.1 5 (6 * (S.1.1 6)).toNatClampNeg x1)) (sA ((mO S (sA S.1 5 (6 * (S.1.1 6)).toNatClampNeg x1)).1) 5 ((6 * (S.1.1 6)) + 1).toNatClampNeg x2)) (sA ((mO (mO S (sA S.1 5 (6 * (S.1.1 6)).toNatClampNeg x1)) (sA ((mO S (sA S.1 5 (6 * (S.1.1 6)).toNatClampNeg x1)).1) 5 ((6 * (S.1.1 6)) + 1).toNatClampNeg x2)).1) 5 ((6 * (S.1.1 6)) + 2).toNatClampNeg x3)) (sA ((mO (mO (mO S (sA S.1 5 (6 * (S.1.1 6)).toNatClampNeg x1)) (sA ((mO S (sA S.1 5 (6 * (S.1.1 6)).toNatClampNeg x1)).1) 5 ((6 * (S.1.1 6)) + 1).toNatClampNeg x2)) (sA ((mO (mO S (sA S.1 5 (6 * (S.1.1 6)).toNatClampNeg x1)) (sA ((mO S (sA S.1 5 (6 * (S.1.1 6)).toNatClampNeg x1)).1) 5 ((6 * (S.1.1 6)) + 1).toNatClampNeg x2)).1) 5 ((6 * (S.1.1 6)) + 2).toNatClampNeg x3)).1) 5 ((6 * (S.1.1 6)) + 3).toNatClampNeg x4)).1) 5 ((6 * (S.1.1 6)) + 4).toNatClampNeg x5)) (sA ((mO (mO (mO (mO (mO S (sA S.1 5 (6 * (S.1.1 6)).toNatClampNeg x1)) (sA ((mO S (sA S.1 5 (6 * (S.1.1 6)).toNatClampNeg x1)).1) 5 ((6 * (S.1.1 6)) + 1).toNatClampNeg x2)) (sA ((mO (mO S (sA S.1 5 (6 * (S.1.1 6)).toNatClampNeg x1)) (sA ((mO S (sA S.1 5 (6 * (S.1.1 6)).toNatClampNeg x1)).1) 5 ((6 * (S.1.1 6)) + 1).toNatClampNeg x2)).1) 5 ((6 * (S.1.1 6)) + 2).toNatClampNeg x3)) (sA ((mO (mO (mO S (sA S.1 5 (6 * (S.1.1 6)).toNatClampNeg x1)) (sA ((mO S (sA S.1 5 (6 * (S.1.1 6)).toNatClampNeg x1)).1) 5 ((6 * (S.1.1 6)) + 1).toNatClampNeg x2)) (sA ((mO (mO S (sA S.1 5 (6 * (S.1.1 6)).toNatClampNeg x1)) (sA ((mO S (sA S.1 5 (6 * (S.1.1 6)).toNatClampNeg x1)).1) 5 ((6 * (S.1.1 6)) + 1).toNatClampNeg x2)).1) 5 ((6 * (S.1.1 6)) + 2).toNatClampNeg x3)).1) 5 ((6 * (S.1.1 6)) + 3).toNatClampNeg x4)) (sA ((mO (mO (mO (mO S (sA S.1 5 (6 * (S.1.1 6)).toNatClampNeg x1)) (sA ((mO S (sA S.1 5 (6 * (S.1.1 6)).toNatClampNeg x1)).1) 5 ((6 * (S.1.1 6)) + 1).toNatClampNeg x2)) (sA ((mO (mO S (sA S.1 5 (6 * (S.1.1 6)).toNatClampNeg x1)) (sA ((mO S (sA S.1 5 (6 * (S.1.1 6)).toNatClampNeg x1)).1) 5 ((6 * (S.1.1 6)) + 1).toNatClampNeg x2)).1) 5 ((6 * (S.1.1 6)) + 2).toNatClampNeg x3)) (sA ((mO (mO (mO S (sA S.1 5 (6 * (S.1.1 6)).toNatClampNeg x1)) (sA ((mO S (sA S.1 5 (6 * (S.1.1 6)).toNatClampNeg x1)).1) 5 ((6 * (S.1.1 6)) + 1).toNatClampNeg x2)) (sA ((mO (mO S (sA S.1 5 (6 * (S.1.1 6)).toNatClampNeg x1)) (sA ((mO S (sA S.1 5 (6 * (S.1.1 6)).toNatClampNeg x1)).1) 5 ((6 * (S.1.1 6)) + 1).toNatClampNeg x2)).1) 5 ((6 * (S.1.1 6)) + 2).toNatClampNeg x3)).1) 5 ((6 * (S.1.1 6)) + 3).toNatClampNeg x4)).1) 5 ((6 * (S.1.1 6)) + 4).toNatClampNeg x5)).1) 5 ((6 * (S.1.1 6)) + 5).toNatClampNeg x6)).1) 6 ((((mO (mO (mO (mO (mO (mO S (sA S.1 5 (6 * (S.1.1 6)).toNatClampNeg x1)) (sA ((mO S (sA S.1 5 (6 * (S.1.1 6)).toNatClampNeg x1)).1) 5 ((6 * (S.1.1 6)) + 1).toNatClampNeg x2)) (sA ((mO (mO S (sA S.1 5 (6 * (S.1.1 6)).toNatClampNeg x1)) (sA ((mO S (sA S.1 5 (6 * (S.1.1 6)).toNatClampNeg x1)).1) 5 ((6 * (S.1.1 6)) + 1).toNatClampNeg x2)).1) 5 ((6 * (S.1.1 6)) + 2).toNatClampNeg x3)) (sA ((mO (mO (mO S (sA S.1 5 (6 * (S.1.1 6)).toNatClampNeg x1)) (sA ((mO S (sA S.1 5 (6 * (S.1.1 6)).toNatClampNeg x1)).1) 5 ((6 * (S.1.1 6)) + 1).toNatClampNeg x2)) (sA ((mO (mO S (sA S.1 5 (6 * (S.1.1 6)).toNatClampNeg x1)) (sA ((mO S (sA S.1 5 (6 * (S.1.1 6)).toNatClampNeg x1)).1) 5 ((6 * (S.1.1 6)) + 1).toNatClampNeg x2)).1) 5 ((6 * (S.1.1 6)) + 2).toNatClampNeg x3)).1) 5 ((6 * (S.1.1 6)) + 3).toNatClampNeg x4)) (sA ((mO (mO (mO (mO S (sA S.1 5 (6 * (S.1.1 6)).toNatClampNeg x1)) (sA ((mO S (sA S.1 5 (6 * (S.1.1 6)).toNatClampNeg x1)).1) 5 ((6 * (S.1.1 6)) + 1).toNatClampNeg x2)) (sA ((mO (mO S (sA S.1 5 (6 * (S.1.1 6)).toNatClampNeg x1)) (sA ((mO S (sA S.1 5 (6 * (S.1.1 6)).toNatClampNeg x1)).1) 5 ((6 * (S.1.1 6)) + 1).toNatClampNeg x2)).1) 5 ((6 * (S.1.1 6)) + 2).toNatClampNeg x3)) (sA ((mO (mO (mO S (sA S.1 5 (6 * (S.1.1 6)).toNatClampNeg x1)) (sA ((mO S (sA S.1 5 (6 * (S.1.1 6)).toNatClampNeg x1)).1) 5 ((6 * (S.1.1 6)) + 1).toNatClampNeg x2)) (sA ((mO (mO S (sA S.1 5 (6 * (S.1.1 6)).toNatClampNeg x1)) (sA ((mO S (sA S.1 5 (6 * (S.1.1 6)).toNatClampNeg x1)).1) 5 ((6 * (S.1.1 6)) + 1).toNatClampNeg x2)).1) 5 ((6 * (S.1.1 6)) + 2).toNatClampNeg x3)).1) 5 ((6 * (S.1.1 6)) + 3).toNatClampNeg x4)).1) 5 ((6 * (S.1.1 6)) + 4).toNatClampNeg x5)) (sA ((mO (mO (mO (mO (mO S (sA S.1 5 (6 * (S.1.1 6)).toNatClampNeg x1)) (sA ((mO S (sA S.1 5 (6 * (S.1.1 6)).toNatClampNeg x1)).1) 5 ((6 * (S.1.1 6)) + 1).toNatClampNeg x2)) (sA ((mO (mO S (sA S.1 5 (6 * (S.1.1 6)).toNatClampNeg x1)) (sA ((mO S (sA S.1 5 (6 * (S.1.1 6)).toNatClampNeg x1)).1) 5 ((6 * (S.1.1 6)) + 1).toNatClampNeg x2)).1) 5 ((6 * (S.1.1 6)) + 2).toNatClampNeg x3)) (sA ((mO (mO (mO S (sA S.1 5 (6 * (S.1.1 6)).toNatClampNeg x1)) (sA ((mO S (sA S.1 5 (6 * (S.1.1 6)).toNatClampNeg x1)).1) 5 ((6 * (S.1.1 6)) + 1).toNatClampNeg x2)) (sA ((mO (mO S (sA S.1 5 (6 * (S.1.1 6)).toNatClampNeg x1)) (sA ((mO S (sA S.1 5 (6 * (S.1.1 6)).toNatClampNeg x1)).1) 5 ((6 * (S.1.1 6)) + 1).toNatClampNeg x2)).1) 5 ((6 * (S.1.1 6)) + 2).toNatClampNeg x3)).1) 5 ((6 * (S.1.1 6)) + 3).toNatClampNeg x4)) (sA ((mO (mO (mO (mO S (sA S.1 5 (6 * (S.1.1 6)).toNatClampNeg x1)) (sA ((mO S (sA S.1 5 (6 * (S.1.1 6)).toNatClampNeg x1)).1) 5 ((6 * (S.1.1 6)) + 1).toNatClampNeg x2)) (sA ((mO (mO S (sA S.1 5 (6 * (S.1.1 6)).toNatClampNeg x1)) (sA ((mO S (sA S.1 5 (6 * (S.1.1 6)).toNatClampNeg x1)).1) 5 ((6 * (S.1.1 6)) + 1).toNatClampNeg x2)).1) 5 ((6 * (S.1.1 6)) + 2).toNatClampNeg x3)) (sA ((mO (mO (mO S (sA S.1 5 (6 * (S.1.1 6)).toNatClampNeg x1)) (sA ((mO S (sA S.1 5 (6 * (S.1.1 6)).toNatClampNeg x1)).1) 5 ((6 * (S.1.1 6)) + 1).toNatClampNeg x2)) (sA ((mO (mO S (sA S.1 5 (6 * (S.1.1 6)).toNatClampNeg x1)) (sA ((mO S (sA S.1 5 (6 * (S.1.1 6)).toNatClampNeg x1)).1) 5 ((6 * (S.1.1 6)) + 1).toNatClampNeg x2)).1) 5 ((6 * (S.1.1 6)) + 2).toNatClampNeg x3)).1) 5 ((6 * (S.1.1 6)) + 3).toNatClampNeg x4)).1) 5 ((6 * (S.1.1 6)) + 4).toNatClampNeg x5)).1) 5 ((6 * (S.1.1 6)) + 5).toNatClampNeg x6)).1).1 6) + 1))).1).1 6)) (C := RX12) (T := TX12) (N := 7) hx hb hts iX12 hown hK hP 0 rfl rfl 6 (by decide) (hw (.fieldLink RX12 161 "MotionFloorModel" "tolds" "I") (List.mem_of_getElem? (i := 0) rfl)) (fun _ h9 => h9) rfl dX12_tell_94 ?_
      subst hQ
      exact W.iret (v := (((mO (mO (mO (mO (mO (mO (mO S (sA S.1 5 (6 * (S.1.1 6)).toNatClampNeg x1)) (sA ((mO S (sA S.1 5 (6 * (S.1.1 6)).toNatClampNeg x1)).1) 5 ((6 * (S.1.1 6)) + 1).toNatClampNeg x2)) (sA ((mO (mO S (sA S.1 5 (6 * (S.1.1 6)).toNatClampNeg x1)) (sA ((mO S (sA S.1 5 (6 * (S.1.1 6)).toNatClampNeg x1)).1) 5 ((6 * (S.1.1 6)) + 1).toNatClampNeg x2)).1) 5 ((6 * (S.1.1 6)) + 2).toNatClampNeg x3)) (sA ((mO (mO (mO S (sA S.1 5 (6 * (S.1.1 6)).toNatClampNeg x1)) (sA ((mO S (sA S.1 5 (6 * (S.1.1 6)).toNatClampNeg x1)).1) 5 ((6 * (S.1.1 6)) + 1).toNatClampNeg x2)) (sA ((mO (mO S (sA S.1 5 (6 * (S.1.1 6)).toNatClampNeg x1)) (sA ((mO S (sA S.1 5 (6 * (S.1.1 6)).toNatClampNeg x1)).1) 5 ((6 * (S.1.1 6)) + 1).toNatClampNeg x2)).1) 5 ((6 * (S.1.1 6)) + 2).toNatClampNeg x3)).1) 5 ((6 * (S.1.1 6)) + 3).toNatClampNeg x4)) (sA ((mO (mO (mO (mO S (sA S.1 5 (6 * (S.1.1 6)).toNatClampNeg x1)) (sA ((mO S (sA S.1 5 (6 * (S.1.1 6)).toNatClampNeg x1)).1) 5 ((6 * (S.1.1 6)) + 1).toNatClampNeg x2)) (sA ((mO (mO S (sA S.1 5 (6 * (S.1.1 6)).toNatClampNeg x1)) (sA ((mO S (sA S.1 5 (6 * (S.1.1 6)).toNatClampNeg x1)).1) 5 ((6 * (S.1.1 6)) + 1).toNatClampNeg x2)).1) 5 ((6 * (S.1.1 6)) + 2).toNatClampNeg x3)) (sA ((mO (mO (mO S (sA S.1 5 (6 * (S.1.1 6)).toNatClampNeg x1)) (sA ((mO S (sA S.1 5 (6 * (S.1.1 6)).toNatClampNeg x1)).1) 5 ((6 * (S.1.1 6)) + 1).toNatClampNeg x2)) (sA ((mO (mO S (sA S.1 5 (6 * (S.1.1 6)).toNatClampNeg x1)) (sA ((mO S (sA S.1 5 (6 * (S.1.1 6)).toNatClampNeg x1)).1) 5 ((6 * (S.1.1 6)) + 1).toNatClampNeg x2)).1) 5 ((6 * (S.1.1 6)) + 2).toNatClampNeg x3)).1) 5 ((6 * (S.1.1 6)) + 3).toNatClampNeg x4)).1) 5 ((6 * (S.1.1 6)) + 4).toNatClampNeg x5)) (sA ((mO (mO (mO (mO (mO S (sA S.1 5 (6 * (S.1.1 6)).toNatClampNeg x1)) (sA ((mO S (sA S.1 5 (6 * (S.1.1 6)).toNatClampNeg x1)).1) 5 ((6 * (S.1.1 6)) + 1).toNatClampNeg x2)) (sA ((mO (mO S (sA S.1 5 (6 * (S.1.1 6)).toNatClampNeg x1)) (sA ((mO S (sA S.1 5 (6 * (S.1.1 6)).toNatClampNeg x1)).1) 5 ((6 * (S.1.1 6)) + 1).toNatClampNeg x2)).1) 5 ((6 * (S.1.1 6)) + 2).toNatClampNeg x3)) (sA ((mO (mO (mO S (sA S.1 5 (6 * (S.1.1 6)).toNatClampNeg x1)) (sA ((mO S (sA S.1 5 (6 * (S.1.1 6)).toNatClampNeg x1)).1) 5 ((6 * (S.1.1 6)) + 1).toNatClampNeg x2)) (sA ((mO (mO S (sA S.1 5 (6 * (S.1.1 6)).toNatClampNeg x1)) (sA ((mO S (sA S.1 5 (6 * (S.1.1 6)).toNatClampNeg x1)).1) 5 ((6 * (S.1.1 6)) + 1).toNatClampNeg x2)).1) 5 ((6 * (S.1.1 6)) + 2).toNatClampNeg x3)).1) 5 ((6 * (S.1.1 6)) + 3).toNatClampNeg x4)) (sA ((mO (mO (mO (mO S (sA S.1 5 (6 * (S.1.1 6)).toNatClampNeg x1)) (sA ((mO S (sA S.1 5 (6 * (S.1.1 6)).toNatClampNeg x1)).1) 5 ((6 * (S.1.1 6)) + 1).toNatClampNeg x2)) (sA ((mO (mO S (sA S.1 5 (6 * (S.1.1 6)).toNatClampNeg x1)) (sA ((mO S (sA S.1 5 (6 * (S.1.1 6)).toNatClampNeg x1)).1) 5 ((6 * (S.1.1 6)) + 1).toNatClampNeg x2)).1) 5 ((6 * (S.1.1 6)) + 2).toNatClampNeg x3)) (sA ((mO (mO (mO S (sA S.1 5 (6 * (S.1.1 6)).toNatClampNeg x1)) (sA ((mO S (sA S.1 5 (6 * (S.1.1 6)).toNatClampNeg x1)).1) 5 ((6 * (S.1.1 6)) + 1).toNatClampNeg x2)) (sA ((mO (mO S (sA S.1 5 (6 * (S.1.1 6)).toNatClampNeg x1)) (sA ((mO S (sA S.1 5 (6 * (S.1.1 6)).toNatClampNeg x1)).1) 5 ((6 * (S.1.1 6)) + 1).toNatClampNeg x2)).1) 5 ((6 * (S.1.1 6)) + 2).toNatClampNeg x3)).1) 5 ((6 * (S.1.1 6)) + 3).toNatClampNeg x4)).1) 5 ((6 * (S.1.1 6)) + 4).toNatClampNeg x5)).1) 5 ((6 * (S.1.1 6)) + 5).toNatClampNeg x6)) (sI ((mO (mO (mO (mO (mO (mO S (sA S.1 5 (6 * (S.1.1 6)).toNatClampNeg x1)) (sA ((mO S (sA S.1 5 (6 * (S.1.1 6)).toNatClampNeg x1)).1) 5 ((6 * (S.1.1 6)) + 1).toNatClampNeg x2)) (sA ((mO (mO S (sA S.1 5 (6 * (S.1.1 6)).toNatClampNeg x1)) (sA ((mO S (sA S.1 5 (6 * (S.1.1 6)).toNatClampNeg x1)).1) 5 ((6 * (S.1.1 6)) + 1).toNatClampNeg x2)).1) 5 ((6 * (S.1.1 6)) + 2).toNatClampNeg x3)) (sA ((mO (mO (mO S (sA S.1 5 (6 * (S.1.1 6)).toNatClampNeg x1)) (sA ((mO S (sA S.1 5 (6 * (S.1.1 6)).toNatClampNeg x1)).1) 5 ((6 * (S.1.1 6)) + 1).toNatClampNeg x2)) (sA ((mO (mO S (sA S.1 5 (6 * (S.1.1 6)).toNatClampNeg x1)) (sA ((mO S (sA S.1 5 (6 * (S.1.1 6)).toNatClampNeg x1)).1) 5 ((6 * (S.1.1 6)) + 1).toNatClampNeg x2)).1) 5 ((6 * (S.1.1 6)) + 2).toNatClampNeg x3)).1) 5 ((6 * (S.1.1 6)) + 3).toNatClampNeg x4)) (sA ((mO (mO (mO (mO S (sA S.1 5 (6 * (S.1.1 6)).toNatClampNeg x1)) (sA ((mO S (sA S.1 5 (6 * (S.1.1 6)).toNatClampNeg x1)).1) 5 ((6 * (S.1.1 6)) + 1).toNatClampNeg x2)) (sA ((mO (mO S (sA S.1 5 (6 * (S.1.1 6)).toNatClampNeg x1)) (sA ((mO S (sA S.1 5 (6 * (S.1.1 6)).toNatClampNeg x1)).1) 5 ((6 * (S.1.1 6)) + 1).toNatClampNeg x2)).1) 5 ((6 * (S.1.1 6)) + 2).toNatClampNeg x3)) (sA ((mO (mO (mO S (sA S.1 5 (6 * (S.1.1 6)).toNatClampNeg x1)) (sA ((mO S (sA S.1 5 (6 * (S.1.1 6)).toNatClampNeg x1)).1) 5 ((6 * (S.1.1 6)) + 1).toNatClampNeg x2)) (sA ((mO (mO S (sA S.1 5 (6 * (S.1.1 6)).toNatClampNeg x1)) (sA ((mO S (sA S.1 5 (6 * (S.1.1 6)).toNatClampNeg x1)).1) 5 ((6 * (S.1.1 6)) + 1).toNatClampNeg x2)).1) 5 ((6 * (S.1.1 6)) + 2).toNatClampNeg x3)).1) 5 ((6 * (S.1.1 6)) + 3).toNatClampNeg x4)).1) 5 ((6 * (S.1.1 6)) + 4).toNatClampNeg x5)) (sA ((mO (mO (mO (mO (mO S (sA S.1 5 (6 * (S.1.1 6)).toNatClampNeg x1)) (sA ((mO S (sA S.1 5 (6 * (S.1.1 6)).toNatClampNeg x1)).1) 5 ((6 * (S.1.1 6)) + 1).toNatClampNeg x2)) (sA ((mO (mO S (sA S.1 5 (6 * (S.1.1 6)).toNatClampNeg x1)) (sA ((mO S (sA S.1 5 (6 * (S.1.1 6)).toNatClampNeg x1)).1) 5 ((6 * (S.1.1 6)) + 1).toNatClampNeg x2)).1) 5 ((6 * (S.1.1 6)) + 2).toNatClampNeg x3)) (sA ((mO (mO (mO S (sA S.1 5 (6 * (S.1.1 6)).toNatClampNeg x1)) (sA ((mO S (sA S.1 5 (6 * (S.1.1 6)).toNatClampNeg x1)).1) 5 ((6 * (S.1.1 6)) + 1).toNatClampNeg x2)) (sA ((mO (mO S (sA S.1 5 (6 * (S.1.1 6)).toNatClampNeg x1)) (sA ((mO S (sA S.1 5 (6 * (S.1.1 6)).toNatClampNeg x1)).1) 5 ((6 * (S.1.1 6)) + 1).toNatClampNeg x2)).1) 5 ((6 * (S.1.1 6)) + 2).toNatClampNeg x3)).1) 5 ((6 * (S.1.1 6)) + 3).toNatClampNeg x4)) (sA ((mO (mO (mO (mO S (sA S.1 5 (6 * (S.1.1 6)).toNatClampNeg x1)) (sA ((mO S (sA S.1 5 (6 * (S.1.1 6)).toNatClampNeg x1)).1) 5 ((6 * (S.1.1 6)) + 1).toNatClampNeg x2)) (sA ((mO (mO S (sA S.1 5 (6 * (S.1.1 6)).toNatClampNeg x1)) (sA ((mO S (sA S.1 5 (6 * (S.1.1 6)).toNatClampNeg x1)).1) 5 ((6 * (S.1.1 6)) + 1).toNatClampNeg x2)).1) 5 ((6 * (S.1.1 6)) + 2).toNatClampNeg x3)) (sA ((mO (mO (mO S (sA S.1 5 (6 * (S.1.1 6)).toNatClampNeg x1)) (sA ((mO S (sA S.1 5 (6 * (S.1.1 6)).toNatClampNeg x1)).1) 5 ((6 * (S.1.1 6)) + 1).toNatClampNeg x2)) (sA ((mO (mO S (sA S.1 5 (6 * (S.1.1 6)).toNatClampNeg x1)) (sA ((mO S (sA S.1 5 (6 * (S.1.1 6)).toNatClampNeg x1)).1) 5 ((6 * (S.1.1 6)) + 1).toNatClampNeg x2)).1) 5 ((6 * (S.1.1 6)) + 2).toNatClampNeg x3)).1) 5 ((6 * (S.1.1 6)) + 3).toNatClampNeg x4)).1) 5 ((6 * (S.1.1 6)) + 4).toNatClampNeg x5)).1) 5 ((6 * (S.1.1 6)) + 5).toNatClampNeg x6)).1) 6 ((((mO (mO (mO (mO (mO (mO S (sA S.1 5 (6 * (S.1.1 6)).toNatClampNeg x1)) (sA ((mO S (sA S.1 5 (6 * (S.1.1 6)).toNatClampNeg x1)).1) 5 ((6 * (S.1.1 6)) + 1).toNatClampNeg x2)) (sA ((mO (mO S (sA S.1 5 (6 * (S.1.1 6)).toNatClampNeg x1)) (sA ((mO S (sA S.1 5 (6 * (S.1.1 6)).toNatClampNeg x1)).1) 5 ((6 * (S.1.1 6)) + 1).toNatClampNeg x2)).1) 5 ((6 * (S.1.1 6)) + 2).toNatClampNeg x3)) (sA ((mO (mO (mO S (sA S.1 5 (6 * (S.1.1 6)).toNatClampNeg x1)) (sA ((mO S (sA S.1 5 (6 * (S.1.1 6)).toNatClampNeg x1)).1) 5 ((6 * (S.1.1 6)) + 1).toNatClampNeg x2)) (sA ((mO (mO S (sA S.1 5 (6 * (S.1.1 6)).toNatClampNeg x1)) (sA ((mO S (sA S.1 5 (6 * (S.1.1 6)).toNatClampNeg x1)).1) 5 ((6 * (S.1.1 6)) + 1).toNatClampNeg x2)).1) 5 ((6 * (S.1.1 6)) + 2).toNatClampNeg x3)).1) 5 ((6 * (S.1.1 6)) + 3).toNatClampNeg x4)) (sA ((mO (mO (mO (mO S (sA S.1 5 (6 * (S.1.1 6)).toNatClampNeg x1)) (sA ((mO S (sA S.1 5 (6 * (S.1.1 6)).toNatClampNeg x1)).1) 5 ((6 * (S.1.1 6)) + 1).toNatClampNeg x2)) (sA ((mO (mO S (sA S.1 5 (6 * (S.1.1 6)).toNatClampNeg x1)) (sA ((mO S (sA S.1 5 (6 * (S.1.1 6)).toNatClampNeg x1)).1) 5 ((6 * (S.1.1 6)) + 1).toNatClampNeg x2)).1) 5 ((6 * (S.1.1 6)) + 2).toNatClampNeg x3)) (sA ((mO (mO (mO S (sA S.1 5 (6 * (S.1.1 6)).toNatClampNeg x1)) (sA ((mO S (sA S.1 5 (6 * (S.1.1 6)).toNatClampNeg x1)).1) 5 ((6 * (S.1.1 6)) + 1).toNatClampNeg x2)) (sA ((mO (mO S (sA S.1 5 (6 * (S.1.1 6)).toNatClampNeg x1)) (sA ((mO S (sA S.1 5 (6 * (S.1.1 6)).toNatClampNeg x1)).1) 5 ((6 * (S.1.1 6)) + 1).toNatClampNeg x2)).1) 5 ((6 * (S.1.1 6)) + 2).toNatClampNeg x3)).1) 5 ((6 * (S.1.1 6)) + 3).toNatClampNeg x4)).1) 5 ((6 * (S.1.1 6)) + 4).toNatClampNeg x5)) (sA ((mO (mO (mO (mO (mO S (sA S.1 5 (6 * (S.1.1 6)).toNatClampNeg x1)) (sA ((mO S (sA S.1 5 (6 * (S.1.1 6)).toNatClampNeg x1)).1) 5 ((6 * (S.1.1 6)) + 1).toNatClampNeg x2)) (sA ((mO (mO S (sA S.1 5 (6 * (S.1.1 6)).toNatClampNeg x1)) (sA ((mO S (sA S.1 5 (6 * (S.1.1 6)).toNatClampNeg x1)).1) 5 ((6 * (S.1.1 6)) + 1).toNatClampNeg x2)).1) 5 ((6 * (S.1.1 6)) + 2).toNatClampNeg x3)) (sA ((mO (mO (mO S (sA S.1 5 (6 * (S.1.1 6)).toNatClampNeg x1)) (sA ((mO S (sA S.1 5 (6 * (S.1.1 6)).toNatClampNeg x1)).1) 5 ((6 * (S.1.1 6)) + 1).toNatClampNeg x2)) (sA ((mO (mO S (sA S.1 5 (6 * (S.1.1 6)).toNatClampNeg x1)) (sA ((mO S (sA S.1 5 (6 * (S.1.1 6)).toNatClampNeg x1)).1) 5 ((6 * (S.1.1 6)) + 1).toNatClampNeg x2)).1) 5 ((6 * (S.1.1 6)) + 2).toNatClampNeg x3)).1) 5 ((6 * (S.1.1 6)) + 3).toNatClampNeg x4)) (sA ((mO (mO (mO (mO S (sA S.1 5 (6 * (S.1.1 6)).toNatClampNeg x1)) (sA ((mO S (sA S.1 5 (6 * (S.1.1 6)).toNatClampNeg x1)).1) 5 ((6 * (S.1.1 6)) + 1).toNatClampNeg x2)) (sA ((mO (mO S (sA S.1 5 (6 * (S.1.1 6)).toNatClampNeg x1)) (sA ((mO S (sA S.1 5 (6 * (S.1.1 6)).toNatClampNeg x1)).1) 5 ((6 * (S.1.1 6)) + 1).toNatClampNeg x2)).1) 5 ((6 * (S.1.1 6)) + 2).toNatClampNeg x3)) (sA ((mO (mO (mO S (sA S.1 5 (6 * (S.1.1 6)).toNatClampNeg x1)) (sA ((mO S (sA S.1 5 (6 * (S.1.1 6)).toNatClampNeg x1)).1) 5 ((6 * (S.1.1 6)) + 1).toNatClampNeg x2)) (sA ((mO (mO S (sA S.1 5 (6 * (S.1.1 6)).toNatClampNeg x1)) (sA ((mO S (sA S.1 5 (6 * (S.1.1 6)).toNatClampNeg x1)).1) 5 ((6 * (S.1.1 6)) + 1).toNatClampNeg x2)).1) 5 ((6 * (S.1.1 6)) + 2).toNatClampNeg x3)).1) 5 ((6 * (S.1.1 6)) + 3).toNatClampNeg x4)).1) 5 ((6 * (S.1.1 6)) + 4).toNatClampNeg x5)).1) 5 ((6 * (S.1.1 6)) + 5).toNatClampNeg x6)).1).1 6) + 1))).1).1 6)) hx hb hr (fun t ht hW => ⟨⟨(((mO (mO (mO (mO (mO (mO (mO S (sA S.1 5 (6 * (S.1.1 6)).toNatClampNeg x1)) (sA ((mO S (sA S.1 5 (6 * (S.1.1 6)).toNatClampNeg x1)).1) 5 ((6 * (S.1.1 6)) + 1).toNatClampNeg x2)) (sA ((mO (mO S (sA S.1 5 (6 * (S.1.1 6)).toNatClampNeg x1)) (sA ((mO S (sA S.1 5 (6 * (S.1.1 6)).toNatClampNeg x1)).1) 5 ((6 * (S.1.1 6)) + 1).toNatClampNeg x2)).1) 5 ((6 * (S.1.1 6)) + 2).toNatClampNeg x3)) (sA ((mO (mO (mO S (sA S.1 5 (6 * (S.1.1 6)).toNatClampNeg x1)) (sA ((mO S (sA S.1 5 (6 * (S.1.1 6)).toNatClampNeg x1)).1) 5 ((6 * (S.1.1 6)) + 1).toNatClampNeg x2)) (sA ((mO (mO S (sA S.1 5 (6 * (S.1.1 6)).toNatClampNeg x1)) (sA ((mO S (sA S.1 5 (6 * (S.1.1 6)).toNatClampNeg x1)).1) 5 ((6 * (S.1.1 6)) + 1).toNatClampNeg x2)).1) 5 ((6 * (S.1.1 6)) + 2).toNatClampNeg x3)).1) 5 ((6 * (S.1.1 6)) + 3).toNatClampNeg x4)) (sA ((mO (mO (mO (mO S (sA S.1 5 (6 * (S.1.1 6)).toNatClampNeg x1)) (sA ((mO S (sA S.1 5 (6 * (S.1.1 6)).toNatClampNeg x1)).1) 5 ((6 * (S.1.1 6)) + 1).toNatClampNeg x2)) (sA ((mO (mO S (sA S.1 5 (6 * (S.1.1 6)).toNatClampNeg x1)) (sA ((mO S (sA S.1 5 (6 * (S.1.1 6)).toNatClampNeg x1)).1) 5 ((6 * (S.1.1 6)) + 1).toNatClampNeg x2)).1) 5 ((6 * (S.1.1 6)) + 2).toNatClampNeg x3)) (sA ((mO (mO (mO S (sA S.1 5 (6 * (S.1.1 6)).toNatClampNeg x1)) (sA ((mO S (sA S.1 5 (6 * (S.1.1 6)).toNatClampNeg x1)).1) 5 ((6 * (S.1.1 6)) + 1).toNatClampNeg x2)) (sA ((mO (mO S (sA S.1 5 (6 * (S.1.1 6)).toNatClampNeg x1)) (sA ((mO S (sA S.1 5 (6 * (S.1.1 6)).toNatClampNeg x1)).1) 5 ((6 * (S.1.1 6)) + 1).toNatClampNeg x2)).1) 5 ((6 * (S.1.1 6)) + 2).toNatClampNeg x3)).1) 5 ((6 * (S.1.1 6)) + 3).toNatClampNeg x4)).1) 5 ((6 * (S.1.1 6)) + 4).toNatClampNeg x5)) (sA ((mO (mO (mO (mO (mO S (sA S.1 5 (6 * (S.1.1 6)).toNatClampNeg x1)) (sA ((mO S (sA S.1 5 (6 * (S.1.1 6)).toNatClampNeg x1)).1) 5 ((6 * (S.1.1 6)) + 1).toNatClampNeg x2)) (sA ((mO (mO S (sA S.1 5 (6 * (S.1.1 6)).toNatClampNeg x1)) (sA ((mO S (sA S.1 5 (6 * (S.1.1 6)).toNatClampNeg x1)).1) 5 ((6 * (S.1.1 6)) + 1).toNatClampNeg x2)).1) 5 ((6 * (S.1.1 6)) + 2).toNatClampNeg x3)) (sA ((mO (mO (mO S (sA S.1 5 (6 * (S.1.1 6)).toNatClampNeg x1)) (sA ((mO S (sA S.1 5 (6 * (S.1.1 6)).toNatClampNeg x1)).1) 5 ((6 * (S.1.1 6)) + 1).toNatClampNeg x2)) (sA ((mO (mO S (sA S.1 5 (6 * (S.1.1 6)).toNatClampNeg x1)) (sA ((mO S (sA S.1 5 (6 * (S.1.1 6)).toNatClampNeg x1)).1) 5 ((6 * (S.1.1 6)) + 1).toNatClampNeg x2)).1) 5 ((6 * (S.1.1 6)) + 2).toNatClampNeg x3)).1) 5 ((6 * (S.1.1 6)) + 3).toNatClampNeg x4)) (sA ((mO (mO (mO (mO S (sA S.1 5 (6 * (S.1.1 6)).toNatClampNeg x1)) (sA ((mO S (sA S.1 5 (6 * (S.1.1 6)).toNatClampNeg x1)).1) 5 ((6 * (S.1.1 6)) + 1).toNatClampNeg x2)) (sA ((mO (mO S (sA S.1 5 (6 * (S.1.1 6)).toNatClampNeg x1)) (sA ((mO S (sA S.1 5 (6 * (S.1.1 6)).toNatClampNeg x1)).1) 5 ((6 * (S.1.1 6)) + 1).toNatClampNeg x2)).1) 5 ((6 * (S.1.1 6)) + 2).toNatClampNeg x3)) (sA ((mO (mO (mO S (sA S.1 5 (6 * (S.1.1 6)).toNatClampNeg x1)) (sA ((mO S (sA S.1 5 (6 * (S.1.1 6)).toNatClampNeg x1)).1) 5 ((6 * (S.1.1 6)) + 1).toNatClampNeg x2)) (sA ((mO (mO S (sA S.1 5 (6 * (S.1.1 6)).toNatClampNeg x1)) (sA ((mO S (sA S.1 5 (6 * (S.1.1 6)).toNatClampNeg x1)).1) 5 ((6 * (S.1.1 6)) + 1).toNatClampNeg x2)).1) 5 ((6 * (S.1.1 6)) + 2).toNatClampNeg x3)).1) 5 ((6 * (S.1.1 6)) + 3).toNatClampNeg x4)).1) 5 ((6 * (S.1.1 6)) + 4).toNatClampNeg x5)).1) 5 ((6 * (S.1.1 6)) + 5).toNatClampNeg x6)) (sI ((mO (mO (mO (mO (mO (mO S (sA S.1 5 (6 * (S.1.1 6)).toNatClampNeg x1)) (sA ((mO S (sA S.1 5 (6 * (S.1.1 6)).toNatClampNeg x1)).1) 5 ((6 * (S.1.1 6)) + 1).toNatClampNeg x2)) (sA ((mO (mO S (sA S.1 5 (6 * (S.1.1 6)).toNatClampNeg x1)) (sA ((mO S (sA S.1 5 (6 * (S.1.1 6)).toNatClampNeg x1)).1) 5 ((6 * (S.1.1 6)) + 1).toNatClampNeg x2)).1) 5 ((6 * (S.1.1 6)) + 2).toNatClampNeg x3)) (sA ((mO (mO (mO S (sA S.1 5 (6 * (S.1.1 6)).toNatClampNeg x1)) (sA ((mO S (sA S.1 5 (6 * (S.1.1 6)).toNatClampNeg x1)).1) 5 ((6 * (S.1.1 6)) + 1).toNatClampNeg x2)) (sA ((mO (mO S (sA S.1 5 (6 * (S.1.1 6)).toNatClampNeg x1)) (sA ((mO S (sA S.1 5 (6 * (S.1.1 6)).toNatClampNeg x1)).1) 5 ((6 * (S.1.1 6)) + 1).toNatClampNeg x2)).1) 5 ((6 * (S.1.1 6)) + 2).toNatClampNeg x3)).1) 5 ((6 * (S.1.1 6)) + 3).toNatClampNeg x4)) (sA ((mO (mO (mO (mO S (sA S.1 5 (6 * (S.1.1 6)).toNatClampNeg x1)) (sA ((mO S (sA S.1 5 (6 * (S.1.1 6)).toNatClampNeg x1)).1) 5 ((6 * (S.1.1 6)) + 1).toNatClampNeg x2)) (sA ((mO (mO S (sA S.1 5 (6 * (S.1.1 6)).toNatClampNeg x1)) (sA ((mO S (sA S.1 5 (6 * (S.1.1 6)).toNatClampNeg x1)).1) 5 ((6 * (S.1.1 6)) + 1).toNatClampNeg x2)).1) 5 ((6 * (S.1.1 6)) + 2).toNatClampNeg x3)) (sA ((mO (mO (mO S (sA S.1 5 (6 * (S.1.1 6)).toNatClampNeg x1)) (sA ((mO S (sA S.1 5 (6 * (S.1.1 6)).toNatClampNeg x1)).1) 5 ((6 * (S.1.1 6)) + 1).toNatClampNeg x2)) (sA ((mO (mO S (sA S.1 5 (6 * (S.1.1 6)).toNatClampNeg x1)) (sA ((mO S (sA S.1 5 (6 * (S.1.1 6)).toNatClampNeg x1)).1) 5 ((6 * (S.1.1 6)) + 1).toNatClampNeg x2)).1) 5 ((6 * (S.1.1 6)) + 2).toNatClampNeg x3)).1) 5 ((6 * (S.1.1 6)) + 3).toNatClampNeg x4)).1) 5 ((6 * (S.1.1 6)) + 4).toNatClampNeg x5)) (sA ((mO (mO (mO (mO (mO S (sA S.1 5 (6 * (S.1.1 6)).toNatClampNeg x1)) (sA ((mO S (sA S.1 5 (6 * (S.1.1 6)).toNatClampNeg x1)).1) 5 ((6 * (S.1.1 6)) + 1).toNatClampNeg x2)) (sA ((mO (mO S (sA S.1 5 (6 * (S.1.1 6)).toNatClampNeg x1)) (sA ((mO S (sA S.1 5 (6 * (S.1.1 6)).toNatClampNeg x1)).1) 5 ((6 * (S.1.1 6)) + 1).toNatClampNeg x2)).1) 5 ((6 * (S.1.1 6)) + 2).toNatClampNeg x3)) (sA ((mO (mO (mO S (sA S.1 5 (6 * (S.1.1 6)).toNatClampNeg x1)) (sA ((mO S (sA S.1 5 (6 * (S.1.1 6)).toNatClampNeg x1)).1) 5 ((6 * (S.1.1 6)) + 1).toNatClampNeg x2)) (sA ((mO (mO S (sA S.1 5 (6 * (S.1.1 6)).toNatClampNeg x1)) (sA ((mO S (sA S.1 5 (6 * (S.1.1 6)).toNatClampNeg x1)).1) 5 ((6 * (S.1.1 6)) + 1).toNatClampNeg x2)).1) 5 ((6 * (S.1.1 6)) + 2).toNatClampNeg x3)).1) 5 ((6 * (S.1.1 6)) + 3).toNatClampNeg x4)) (sA ((mO (mO (mO (mO S (sA S.1 5 (6 * (S.1.1 6)).toNatClampNeg x1)) (sA ((mO S (sA S.1 5 (6 * (S.1.1 6)).toNatClampNeg x1)).1) 5 ((6 * (S.1.1 6)) + 1).toNatClampNeg x2)) (sA ((mO (mO S (sA S.1 5 (6 * (S.1.1 6)).toNatClampNeg x1)) (sA ((mO S (sA S.1 5 (6 * (S.1.1 6)).toNatClampNeg x1)).1) 5 ((6 * (S.1.1 6)) + 1).toNatClampNeg x2)).1) 5 ((6 * (S.1.1 6)) + 2).toNatClampNeg x3)) (sA ((mO (mO (mO S (sA S.1 5 (6 * (S.1.1 6)).toNatClampNeg x1)) (sA ((mO S (sA S.1 5 (6 * (S.1.1 6)).toNatClampNeg x1)).1) 5 ((6 * (S.1.1 6)) + 1).toNatClampNeg x2)) (sA ((mO (mO S (sA S.1 5 (6 * (S.1.1 6)).toNatClampNeg x1)) (sA ((mO S (sA S.1 5 (6 * (S.1.1 6)).toNatClampNeg x1)).1) 5 ((6 * (S.1.1 6)) + 1).toNatClampNeg x2)).1) 5 ((6 * (S.1.1 6)) + 2).toNatClampNeg x3)).1) 5 ((6 * (S.1.1 6)) + 3).toNatClampNeg x4)).1) 5 ((6 * (S.1.1 6)) + 4).toNatClampNeg x5)).1) 5 ((6 * (S.1.1 6)) + 5).toNatClampNeg x6)).1) 6 ((((mO (mO (mO (mO (mO (mO S (sA S.1 5 (6 * (S.1.1 6)).toNatClampNeg x1)) (sA ((mO S (sA S.1 5 (6 * (S.1.1 6)).toNatClampNeg x1)).1) 5 ((6 * (S.1.1 6)) + 1).toNatClampNeg x2)) (sA ((mO (mO S (sA S.1 5 (6 * (S.1.1 6)).toNatClampNeg x1)) (sA ((mO S (sA S.1 5 (6 * (S.1.1 6)).toNatClampNeg x1)).1) 5 ((6 * (S.1.1 6)) + 1).toNatClampNeg x2)).1) 5 ((6 * (S.1.1 6)) + 2).toNatClampNeg x3)) (sA ((mO (mO (mO S (sA S.1 5 (6 * (S.1.1 6)).toNatClampNeg x1)) (sA ((mO S (sA S.1 5 (6 * (S.1.1 6)).toNatClampNeg x1)).1) 5 ((6 * (S.1.1 6)) + 1).toNatClampNeg x2)) (sA ((mO (mO S (sA S.1 5 (6 * (S.1.1 6)).toNatClampNeg x1)) (sA ((mO S (sA S.1 5 (6 * (S.1.1 6)).toNatClampNeg x1)).1) 5 ((6 * (S.1.1 6)) + 1).toNatClampNeg x2)).1) 5 ((6 * (S.1.1 6)) + 2).toNatClampNeg x3)).1) 5 ((6 * (S.1.1 6)) + 3).toNatClampNeg x4)) (sA ((mO (mO (mO (mO S (sA S.1 5 (6 * (S.1.1 6)).toNatClampNeg x1)) (sA ((mO S (sA S.1 5 (6 * (S.1.1 6)).toNatClampNeg x1)).1) 5 ((6 * (S.1.1 6)) + 1).toNatClampNeg x2)) (sA ((mO (mO S (sA S.1 5 (6 * (S.1.1 6)).toNatClampNeg x1)) (sA ((mO S (sA S.1 5 (6 * (S.1.1 6)).toNatClampNeg x1)).1) 5 ((6 * (S.1.1 6)) + 1).toNatClampNeg x2)).1) 5 ((6 * (S.1.1 6)) + 2).toNatClampNeg x3)) (sA ((mO (mO (mO S (sA S.1 5 (6 * (S.1.1 6)).toNatClampNeg x1)) (sA ((mO S (sA S.1 5 (6 * (S.1.1 6)).toNatClampNeg x1)).1) 5 ((6 * (S.1.1 6)) + 1).toNatClampNeg x2)) (sA ((mO (mO S (sA S.1 5 (6 * (S.1.1 6)).toNatClampNeg x1)) (sA ((mO S (sA S.1 5 (6 * (S.1.1 6)).toNatClampNeg x1)).1) 5 ((6 * (S.1.1 6)) + 1).toNatClampNeg x2)).1) 5 ((6 * (S.1.1 6)) + 2).toNatClampNeg x3)).1) 5 ((6 * (S.1.1 6)) + 3).toNatClampNeg x4)).1) 5 ((6 * (S.1.1 6)) + 4).toNatClampNeg x5)) (sA ((mO (mO (mO (mO (mO S (sA S.1 5 (6 * (S.1.1 6)).toNatClampNeg x1)) (sA ((mO S (sA S.1 5 (6 * (S.1.1 6)).toNatClampNeg x1)).1) 5 ((6 * (S.1.1 6)) + 1).toNatClampNeg x2)) (sA ((mO (mO S (sA S.1 5 (6 * (S.1.1 6)).toNatClampNeg x1)) (sA ((mO S (sA S.1 5 (6 * (S.1.1 6)).toNatClampNeg x1)).1) 5 ((6 * (S.1.1 6)) + 1).toNatClampNeg x2)).1) 5 ((6 * (S.1.1 6)) + 2).toNatClampNeg x3)) (sA ((mO (mO (mO S (sA S.1 5 (6 * (S.1.1 6)).toNatClampNeg x1)) (sA ((mO S (sA S.1 5 (6 * (S.1.1 6)).toNatClampNeg x1)).1) 5 ((6 * (S.1.1 6)) + 1).toNatClampNeg x2)) (sA ((mO (mO S (sA S.1 5 (6 * (S.1.1 6)).toNatClampNeg x1)) (sA ((mO S (sA S.1 5 (6 * (S.1.1 6)).toNatClampNeg x1)).1) 5 ((6 * (S.1.1 6)) + 1).toNatClampNeg x2)).1) 5 ((6 * (S.1.1 6)) + 2).toNatClampNeg x3)).1) 5 ((6 * (S.1.1 6)) + 3).toNatClampNeg x4)) (sA ((mO (mO (mO (mO S (sA S.1 5 (6 * (S.1.1 6)).toNatClampNeg x1)) (sA ((mO S (sA S.1 5 (6 * (S.1.1 6)).toNatClampNeg x1)).1) 5 ((6 * (S.1.1 6)) + 1).toNatClampNeg x2)) (sA ((mO (mO S (sA S.1 5 (6 * (S.1.1 6)).toNatClampNeg x1)) (sA ((mO S (sA S.1 5 (6 * (S.1.1 6)).toNatClampNeg x1)).1) 5 ((6 * (S.1.1 6)) + 1).toNatClampNeg x2)).1) 5 ((6 * (S.1.1 6)) + 2).toNatClampNeg x3)) (sA ((mO (mO (mO S (sA S.1 5 (6 * (S.1.1 6)).toNatClampNeg x1)) (sA ((mO S (sA S.1 5 (6 * (S.1.1 6)).toNatClampNeg x1)).1) 5 ((6 * (S.1.1 6)) + 1).toNatClampNeg x2)) (sA ((mO (mO S (sA S.1 5 (6 * (S.1.1 6)).toNatClampNeg x1)) (sA ((mO S (sA S.1 5 (6 * (S.1.1 6)).toNatClampNeg x1)).1) 5 ((6 * (S.1.1 6)) + 1).toNatClampNeg x2)).1) 5 ((6 * (S.1.1 6)) + 2).toNatClampNeg x3)).1) 5 ((6 * (S.1.1 6)) + 3).toNatClampNeg x4)).1) 5 ((6 * (S.1.1 6)) + 4).toNatClampNeg x5)).1) 5 ((6 * (S.1.1 6)) + 5).toNatClampNeg x6)).1).1 6) + 1))).1).1 6), (mO (mO (mO (mO (mO (mO (mO S (sA S.1 5 (6 * (S.1.1 6)).toNatClampNeg x1)) (sA ((mO S (sA S.1 5 (6 * (S.1.1 6)).toNatClampNeg x1)).1) 5 ((6 * (S.1.1 6)) + 1).toNatClampNeg x2)) (sA ((mO (mO S (sA S.1 5 (6 * (S.1.1 6)).toNatClampNeg x1)) (sA ((mO S (sA S.1 5 (6 * (S.1.1 6)).toNatClampNeg x1)).1) 5 ((6 * (S.1.1 6)) + 1).toNatClampNeg x2)).1) 5 ((6 * (S.1.1 6)) + 2).toNatClampNeg x3)) (sA ((mO (mO (mO S (sA S.1 5 (6 * (S.1.1 6)).toNatClampNeg x1)) (sA ((mO S (sA S.1 5 (6 * (S.1.1 6)).toNatClampNeg x1)).1) 5 ((6 * (S.1.1 6)) + 1).toNatClampNeg x2)) (sA ((mO (mO S (sA S.1 5 (6 * (S.1.1 6)).toNatClampNeg x1)) (sA ((mO S (sA S.1 5 (6 * (S.1.1 6)).toNatClampNeg x1)).1) 5 ((6 * (S.1.1 6)) + 1).toNatClampNeg x2)).1) 5 ((6 * (S.1.1 6)) + 2).toNatClampNeg x3)).1) 5 ((6 * (S.1.1 6)) + 3).toNatClampNeg x4)) (sA ((mO (mO (mO (mO S (sA S.1 5 (6 * (S.1.1 6)).toNatClampNeg x1)) (sA ((mO S (sA S.1 5 (6 * (S.1.1 6)).toNatClampNeg x1)).1) 5 ((6 * (S.1.1 6)) + 1).toNatClampNeg x2)) (sA ((mO (mO S (sA S.1 5 (6 * (S.1.1 6)).toNatClampNeg x1)) (sA ((mO S (sA S.1 5 (6 * (S.1.1 6)).toNatClampNeg x1)).1) 5 ((6 * (S.1.1 6)) + 1).toNatClampNeg x2)).1) 5 ((6 * (S.1.1 6)) + 2).toNatClampNeg x3)) (sA ((mO (mO (mO S (sA S.1 5 (6 * (S.1.1 6)).toNatClampNeg x1)) (sA ((mO S (sA S.1 5 (6 * (S.1.1 6)).toNatClampNeg x1)).1) 5 ((6 * (S.1.1 6)) + 1).toNatClampNeg x2)) (sA ((mO (mO S (sA S.1 5 (6 * (S.1.1 6)).toNatClampNeg x1)) (sA ((mO S (sA S.1 5 (6 * (S.1.1 6)).toNatClampNeg x1)).1) 5 ((6 * (S.1.1 6)) + 1).toNatClampNeg x2)).1) 5 ((6 * (S.1.1 6)) + 2).toNatClampNeg x3)).1) 5 ((6 * (S.1.1 6)) + 3).toNatClampNeg x4)).1) 5 ((6 * (S.1.1 6)) + 4).toNatClampNeg x5)) (sA ((mO (mO (mO (mO (mO S (sA S.1 5 (6 * (S.1.1 6)).toNatClampNeg x1)) (sA ((mO S (sA S.1 5 (6 * (S.1.1 6)).toNatClampNeg x1)).1) 5 ((6 * (S.1.1 6)) + 1).toNatClampNeg x2)) (sA ((mO (mO S (sA S.1 5 (6 * (S.1.1 6)).toNatClampNeg x1)) (sA ((mO S (sA S.1 5 (6 * (S.1.1 6)).toNatClampNeg x1)).1) 5 ((6 * (S.1.1 6)) + 1).toNatClampNeg x2)).1) 5 ((6 * (S.1.1 6)) + 2).toNatClampNeg x3)) (sA ((mO (mO (mO S (sA S.1 5 (6 * (S.1.1 6)).toNatClampNeg x1)) (sA ((mO S (sA S.1 5 (6 * (S.1.1 6)).toNatClampNeg x1)).1) 5 ((6 * (S.1.1 6)) + 1).toNatClampNeg x2)) (sA ((mO (mO S (sA S.1 5 (6 * (S.1.1 6)).toNatClampNeg x1)) (sA ((mO S (sA S.1 5 (6 * (S.1.1 6)).toNatClampNeg x1)).1) 5 ((6 * (S.1.1 6)) + 1).toNatClampNeg x2)).1) 5 ((6 * (S.1.1 6)) + 2).toNatClampNeg x3)).1) 5 ((6 * (S.1.1 6)) + 3).toNatClampNeg x4)) (sA ((mO (mO (mO (mO S (sA S.1 5 (6 * (S.1.1 6)).toNatClampNeg x1)) (sA ((mO S (sA S.1 5 (6 * (S.1.1 6)).toNatClampNeg x1)).1) 5 ((6 * (S.1.1 6)) + 1).toNatClampNeg x2)) (sA ((mO (mO S (sA S.1 5 (6 * (S.1.1 6)).toNatClampNeg x1)) (sA ((mO S (sA S.1 5 (6 * (S.1.1 6)).toNatClampNeg x1)).1) 5 ((6 * (S.1.1 6)) + 1).toNatClampNeg x2)).1) 5 ((6 * (S.1.1 6)) + 2).toNatClampNeg x3)) (sA ((mO (mO (mO S (sA S.1 5 (6 * (S.1.1 6)).toNatClampNeg x1)) (sA ((mO S (sA S.1 5 (6 * (S.1.1 6)).toNatClampNeg x1)).1) 5 ((6 * (S.1.1 6)) + 1).toNatClampNeg x2)) (sA ((mO (mO S (sA S.1 5 (6 * (S.1.1 6)).toNatClampNeg x1)) (sA ((mO S (sA S.1 5 (6 * (S.1.1 6)).toNatClampNeg x1)).1) 5 ((6 * (S.1.1 6)) + 1).toNatClampNeg x2)).1) 5 ((6 * (S.1.1 6)) + 2).toNatClampNeg x3)).1) 5 ((6 * (S.1.1 6)) + 3).toNatClampNeg x4)).1) 5 ((6 * (S.1.1 6)) + 4).toNatClampNeg x5)).1) 5 ((6 * (S.1.1 6)) + 5).toNatClampNeg x6)) (sI ((mO (mO (mO (mO (mO (mO S (sA S.1 5 (6 * (S.1.1 6)).toNatClampNeg x1)) (sA ((mO S (sA S.1 5 (6 * (S.1.1 6)).toNatClampNeg x1)).1) 5 ((6 * (S.1.1 6)) + 1).toNatClampNeg x2)) (sA ((mO (mO S (sA S.1 5 (6 * (S.1.1 6)).toNatClampNeg x1)) (sA ((mO S (sA S.1 5 (6 * (S.1.1 6)).toNatClampNeg x1)).1) 5 ((6 * (S.1.1 6)) + 1).toNatClampNeg x2)).1) 5 ((6 * (S.1.1 6)) + 2).toNatClampNeg x3)) (sA ((mO (mO (mO S (sA S.1 5 (6 * (S.1.1 6)).toNatClampNeg x1)) (sA ((mO S (sA S.1 5 (6 * (S.1.1 6)).toNatClampNeg x1)).1) 5 ((6 * (S.1.1 6)) + 1).toNatClampNeg x2)) (sA ((mO (mO S (sA S.1 5 (6 * (S.1.1 6)).toNatClampNeg x1)) (sA ((mO S (sA S.1 5 (6 * (S.1.1 6)).toNatClampNeg x1)).1) 5 ((6 * (S.1.1 6)) + 1).toNatClampNeg x2)).1) 5 ((6 * (S.1.1 6)) + 2).toNatClampNeg x3)).1) 5 ((6 * (S.1.1 6)) + 3).toNatClampNeg x4)) (sA ((mO (mO (mO (mO S (sA S.1 5 (6 * (S.1.1 6)).toNatClampNeg x1)) (sA ((mO S (sA S.1 5 (6 * (S.1.1 6)).toNatClampNeg x1)).1) 5 ((6 * (S.1.1 6)) + 1).toNatClampNeg x2)) (sA ((mO (mO S (sA S.1 5 (6 * (S.1.1 6)).toNatClampNeg x1)) (sA ((mO S (sA S.1 5 (6 * (S.1.1 6)).toNatClampNeg x1)).1) 5 ((6 * (S.1.1 6)) + 1).toNatClampNeg x2)).1) 5 ((6 * (S.1.1 6)) + 2).toNatClampNeg x3)) (sA ((mO (mO (mO S (sA S.1 5 (6 * (S.1.1 6)).toNatClampNeg x1)) (sA ((mO S (sA S.1 5 (6 * (S.1.1 6)).toNatClampNeg x1)).1) 5 ((6 * (S.1.1 6)) + 1).toNatClampNeg x2)) (sA ((mO (mO S (sA S.1 5 (6 * (S.1.1 6)).toNatClampNeg x1)) (sA ((mO S (sA S.1 5 (6 * (S.1.1 6)).toNatClampNeg x1)).1) 5 ((6 * (S.1.1 6)) + 1).toNatClampNeg x2)).1) 5 ((6 * (S.1.1 6)) + 2).toNatClampNeg x3)).1) 5 ((6 * (S.1.1 6)) + 3).toNatClampNeg x4)).1) 5 ((6 * (S.1.1 6)) + 4).toNatClampNeg x5)) (sA ((mO (mO (mO (mO (mO S (sA S.1 5 (6 * (S.1.1 6)).toNatClampNeg x1)) (sA ((mO S (sA S.1 5 (6 * (S.1.1 6)).toNatClampNeg x1)).1) 5 ((6 * (S.1.1 6)) + 1).toNatClampNeg x2)) (sA ((mO (mO S (sA S.1 5 (6 * (S.1.1 6)).toNatClampNeg x1)) (sA ((mO S (sA S.1 5 (6 * (S.1.1 6)).toNatClampNeg x1)).1) 5 ((6 * (S.1.1 6)) + 1).toNatClampNeg x2)).1) 5 ((6 * (S.1.1 6)) + 2).toNatClampNeg x3)) (sA ((mO (mO (mO S (sA S.1 5 (6 * (S.1.1 6)).toNatClampNeg x1)) (sA ((mO S (sA S.1 5 (6 * (S.1.1 6)).toNatClampNeg x1)).1) 5 ((6 * (S.1.1 6)) + 1).toNatClampNeg x2)) (sA ((mO (mO S (sA S.1 5 (6 * (S.1.1 6)).toNatClampNeg x1)) (sA ((mO S (sA S.1 5 (6 * (S.1.1 6)).toNatClampNeg x1)).1) 5 ((6 * (S.1.1 6)) + 1).toNatClampNeg x2)).1) 5 ((6 * (S.1.1 6)) + 2).toNatClampNeg x3)).1) 5 ((6 * (S.1.1 6)) + 3).toNatClampNeg x4)) (sA ((mO (mO (mO (mO S (sA S.1 5 (6 * (S.1.1 6)).toNatClampNeg x1)) (sA ((mO S (sA S.1 5 (6 * (S.1.1 6)).toNatClampNeg x1)).1) 5 ((6 * (S.1.1 6)) + 1).toNatClampNeg x2)) (sA ((mO (mO S (sA S.1 5 (6 * (S.1.1 6)).toNatClampNeg x1)) (sA ((mO S (sA S.1 5 (6 * (S.1.1 6)).toNatClampNeg x1)).1) 5 ((6 * (S.1.1 6)) + 1).toNatClampNeg x2)).1) 5 ((6 * (S.1.1 6)) + 2).toNatClampNeg x3)) (sA ((mO (mO (mO S (sA S.1 5 (6 * (S.1.1 6)).toNatClampNeg x1)) (sA ((mO S (sA S.1 5 (6 * (S.1.1 6)).toNatClampNeg x1)).1) 5 ((6 * (S.1.1 6)) + 1).toNatClampNeg x2)) (sA ((mO (mO S (sA S.1 5 (6 * (S.1.1 6)).toNatClampNeg x1)) (sA ((mO S (sA S.1 5 (6 * (S.1.1 6)).toNatClampNeg x1)).1) 5 ((6 * (S.1.1 6)) + 1).toNatClampNeg x2)).1) 5 ((6 * (S.1.1 6)) + 2).toNatClampNeg x3)).1) 5 ((6 * (S.1.1 6)) + 3).toNatClampNeg x4)).1) 5 ((6 * (S.1.1 6)) + 4).toNatClampNeg x5)).1) 5 ((6 * (S.1.1 6)) + 5).toNatClampNeg x6)).1) 6 ((((mO (mO (mO (mO (mO (mO S (sA S.1 5 (6 * (S.1.1 6)).toNatClampNeg x1)) (sA ((mO S (sA S.1 5 (6 * (S.1.1 6)).toNatClampNeg x1)).1) 5 ((6 * (S.1.1 6)) + 1).toNatClampNeg x2)) (sA ((mO (mO S (sA S.1 5 (6 * (S.1.1 6)).toNatClampNeg x1)) (sA ((mO S (sA S.1 5 (6 * (S.1.1 6)).toNatClampNeg x1)).1) 5 ((6 * (S.1.1 6)) + 1).toNatClampNeg x2)).1) 5 ((6 * (S.1.1 6)) + 2).toNatClampNeg x3)) (sA ((mO (mO (mO S (sA S.1 5 (6 * (S.1.1 6)).toNatClampNeg x1)) (sA ((mO S (sA S.1 5 (6 * (S.1.1 6)).toNatClampNeg x1)).1) 5 ((6 * (S.1.1 6)) + 1).toNatClampNeg x2)) (sA ((mO (mO S (sA S.1 5 (6 * (S.1.1 6)).toNatClampNeg x1)) (sA ((mO S (sA S.1 5 (6 * (S.1.1 6)).toNatClampNeg x1)).1) 5 ((6 * (S.1.1 6)) + 1).toNatClampNeg x2)).1) 5 ((6 * (S.1.1 6)) + 2).toNatClampNeg x3)).1) 5 ((6 * (S.1.1 6)) + 3).toNatClampNeg x4)) (sA ((mO (mO (mO (mO S (sA S.1 5 (6 * (S.1.1 6)).toNatClampNeg x1)) (sA ((mO S (sA S.1 5 (6 * (S.1.1 6)).toNatClampNeg x1)).1) 5 ((6 * (S.1.1 6)) + 1).toNatClampNeg x2)) (sA ((mO (mO S (sA S.1 5 (6 * (S.1.1 6)).toNatClampNeg x1)) (sA ((mO S (sA S.1 5 (6 * (S.1.1 6)).toNatClampNeg x1)).1) 5 ((6 * (S.1.1 6)) + 1).toNatClampNeg x2)).1) 5 ((6 * (S.1.1 6)) + 2).toNatClampNeg x3)) (sA ((mO (mO (mO S (sA S.1 5 (6 * (S.1.1 6)).toNatClampNeg x1)) (sA ((mO S (sA S.1 5 (6 * (S.1.1 6)).toNatClampNeg x1)).1) 5 ((6 * (S.1.1 6)) + 1).toNatClampNeg x2)) (sA ((mO (mO S (sA S.1 5 (6 * (S.1.1 6)).toNatClampNeg x1)) (sA ((mO S (sA S.1 5 (6 * (S.1.1 6)).toNatClampNeg x1)).1) 5 ((6 * (S.1.1 6)) + 1).toNatClampNeg x2)).1) 5 ((6 * (S.1.1 6)) + 2).toNatClampNeg x3)).1) 5 ((6 * (S.1.1 6)) + 3).toNatClampNeg x4)).1) 5 ((6 * (S.1.1 6)) + 4).toNatClampNeg x5)) (sA ((mO (mO (mO (mO (mO S (sA S.1 5 (6 * (S.1.1 6)).toNatClampNeg x1)) (sA ((mO S (sA S.1 5 (6 * (S.1.1 6)).toNatClampNeg x1)).1) 5 ((6 * (S.1.1 6)) + 1).toNatClampNeg x2)) (sA ((mO (mO S (sA S.1 5 (6 * (S.1.1 6)).toNatClampNeg x1)) (sA ((mO S (sA S.1 5 (6 * (S.1.1 6)).toNatClampNeg x1)).1) 5 ((6 * (S.1.1 6)) + 1).toNatClampNeg x2)).1) 5 ((6 * (S.1.1 6)) + 2).toNatClampNeg x3)) (sA ((mO (mO (mO S (sA S.1 5 (6 * (S.1.1 6)).toNatClampNeg x1)) (sA ((mO S (sA S.1 5 (6 * (S.1.1 6)).toNatClampNeg x1)).1) 5 ((6 * (S.1.1 6)) + 1).toNatClampNeg x2)) (sA ((mO (mO S (sA S.1 5 (6 * (S.1.1 6)).toNatClampNeg x1)) (sA ((mO S (sA S.1 5 (6 * (S.1.1 6)).toNatClampNeg x1)).1) 5 ((6 * (S.1.1 6)) + 1).toNatClampNeg x2)).1) 5 ((6 * (S.1.1 6)) + 2).toNatClampNeg x3)).1) 5 ((6 * (S.1.1 6)) + 3).toNatClampNeg x4)) (sA ((mO (mO (mO (mO S (sA S.1 5 (6 * (S.1.1 6)).toNatClampNeg x1)) (sA ((mO S (sA S.1 5 (6 * (S.1.1 6)).toNatClampNeg x1)).1) 5 ((6 * (S.1.1 6)) + 1).toNatClampNeg x2)) (sA ((mO (mO S (sA S.1 5 (6 * (S.1.1 6)).toNatClampNeg x1)) (sA ((mO S (sA S.1 5 (6 * (S.1.1 6)).toNatClampNeg x1)).1) 5 ((6 * (S.1.1 6)) + 1).toNatClampNeg x2)).1) 5 ((6 * (S.1.1 6)) + 2).toNatClampNeg x3)) (sA ((mO (mO (mO S (sA S.1 5 (6 * (S.1.1 6)).toNatClampNeg x1)) (sA ((mO S (sA S.1 5 (6 * (S.1.1 6)).toNatClampNeg x1)).1) 5 ((6 * (S.1.1 6)) + 1).toNatClampNeg x2)) (sA ((mO (mO S (sA S.1 5 (6 * (S.1.1 6)).toNatClampNeg x1)) (sA ((mO S (sA S.1 5 (6 * (S.1.1 6)).toNatClampNeg x1)).1) 5 ((6 * (S.1.1 6)) + 1).toNatClampNeg x2)).1) 5 ((6 * (S.1.1 6)) + 2).toNatClampNeg x3)).1) 5 ((6 * (S.1.1 6)) + 3).toNatClampNeg x4)).1) 5 ((6 * (S.1.1 6)) + 4).toNatClampNeg x5)).1) 5 ((6 * (S.1.1 6)) + 5).toNatClampNeg x6)).1).1 6) + 1))), rfl, hE.trans hX.symm, by rw [ht]; exact hP, hD⟩, hS.F ht⟩) hS.2.2 dX12_tell_97
    · rw [if_pos c1] at hE hp
      refine lv_bipush (v := (-10)) hx hb dX12_tell_10 (by decide) ?_
      subst hQ
      exact W.iret (v := (-10)) hx hb hr (fun t ht hW => ⟨⟨(-10), S, rfl, hE.trans hX.symm, by rw [ht]; exact hP, hD⟩, hS.F ht⟩) hS.2.2 dX12_tell_12
  exact B_M S0 a1 a2 a3 a4 a5 a6 _ _ _ hX hp hP hD hS hl
