theorem gdX8_againstOnFloor_60 : ckS (List.drop 60 cX8_againstOnFloor.data.toList) 60 [(60, .ireturn, 1), (61, .aload_n 0, 1), (62, .getfield 34, 3), (65, .iload_n 2, 1), (66, .invokestatic 42, 3), (69, .ireturn, 1), (70, .aload_n 0, 1), (71, .iload_n 2, 1), (72, .ifCond .lt 14, 3), (86, .iconst 0, 1), (87, .invokestatic 45, 3)] = true := by decide +kernel
theorem dX8_againstOnFloor_60 : decode cX8_againstOnFloor 60 = .ok (.ireturn, 1) := ckS_g gdX8_againstOnFloor_60 0 rfl
theorem dX8_againstOnFloor_61 : decode cX8_againstOnFloor 61 = .ok (.aload_n 0, 1) := ckS_g gdX8_againstOnFloor_60 1 rfl
theorem dX8_againstOnFloor_62 : decode cX8_againstOnFloor 62 = .ok (.getfield 34, 3) := ckS_g gdX8_againstOnFloor_60 2 rfl
theorem dX8_againstOnFloor_65 : decode cX8_againstOnFloor 65 = .ok (.iload_n 2, 1) := ckS_g gdX8_againstOnFloor_60 3 rfl
theorem dX8_againstOnFloor_66 : decode cX8_againstOnFloor 66 = .ok (.invokestatic 42, 3) := ckS_g gdX8_againstOnFloor_60 4 rfl
theorem dX8_againstOnFloor_69 : decode cX8_againstOnFloor 69 = .ok (.ireturn, 1) := ckS_g gdX8_againstOnFloor_60 5 rfl
theorem dX8_againstOnFloor_70 : decode cX8_againstOnFloor 70 = .ok (.aload_n 0, 1) := ckS_g gdX8_againstOnFloor_60 6 rfl
theorem dX8_againstOnFloor_71 : decode cX8_againstOnFloor 71 = .ok (.iload_n 2, 1) := ckS_g gdX8_againstOnFloor_60 7 rfl
theorem dX8_againstOnFloor_72 : decode cX8_againstOnFloor 72 = .ok (.ifCond .lt 14, 3) := ckS_g gdX8_againstOnFloor_60 8 rfl
theorem dX8_againstOnFloor_86 : decode cX8_againstOnFloor 86 = .ok (.iconst 0, 1) := ckS_g gdX8_againstOnFloor_60 9 rfl
theorem dX8_againstOnFloor_87 : decode cX8_againstOnFloor 87 = .ok (.invokestatic 45, 3) := ckS_g gdX8_againstOnFloor_60 10 rfl
theorem gdX8_againstSetting_0 : ckS (List.drop 0 cX8_againstSetting.data.toList) 0 [(0, .iload_n 1, 1), (1, .ifCond .ne 6, 3), (4, .bipush 9, 2), (6, .ireturn, 1), (7, .aload_n 0, 1), (8, .getfield 86, 3), (11, .getfield 117, 3), (14, .ifCond .le 8, 3), (17, .bipush 11, 2), (19, .goto 4, 3), (22, .iconst 0, 1), (23, .ireturn, 1)] = true := by decide +kernel
theorem dX8_againstSetting_0 : decode cX8_againstSetting 0 = .ok (.iload_n 1, 1) := ckS_g gdX8_againstSetting_0 0 rfl
theorem dX8_againstSetting_1 : decode cX8_againstSetting 1 = .ok (.ifCond .ne 6, 3) := ckS_g gdX8_againstSetting_0 1 rfl
theorem dX8_againstSetting_4 : decode cX8_againstSetting 4 = .ok (.bipush 9, 2) := ckS_g gdX8_againstSetting_0 2 rfl
theorem dX8_againstSetting_6 : decode cX8_againstSetting 6 = .ok (.ireturn, 1) := ckS_g gdX8_againstSetting_0 3 rfl
theorem dX8_againstSetting_7 : decode cX8_againstSetting 7 = .ok (.aload_n 0, 1) := ckS_g gdX8_againstSetting_0 4 rfl
theorem dX8_againstSetting_8 : decode cX8_againstSetting 8 = .ok (.getfield 86, 3) := ckS_g gdX8_againstSetting_0 5 rfl
theorem dX8_againstSetting_11 : decode cX8_againstSetting 11 = .ok (.getfield 117, 3) := ckS_g gdX8_againstSetting_0 6 rfl
theorem dX8_againstSetting_14 : decode cX8_againstSetting 14 = .ok (.ifCond .le 8, 3) := ckS_g gdX8_againstSetting_0 7 rfl
theorem dX8_againstSetting_17 : decode cX8_againstSetting 17 = .ok (.bipush 11, 2) := ckS_g gdX8_againstSetting_0 8 rfl
theorem dX8_againstSetting_19 : decode cX8_againstSetting 19 = .ok (.goto 4, 3) := ckS_g gdX8_againstSetting_0 9 rfl
theorem dX8_againstSetting_22 : decode cX8_againstSetting 22 = .ok (.iconst 0, 1) := ckS_g gdX8_againstSetting_0 10 rfl
theorem dX8_againstSetting_23 : decode cX8_againstSetting 23 = .ok (.ireturn, 1) := ckS_g gdX8_againstSetting_0 11 rfl
set_option maxRecDepth 100000 in
theorem zc460 : wZ (.code yX8_againstSetting cX8_againstSetting 2 (some .int)) := ⟨wT2 (List.mem_of_getElem? (i := 71) rfl), Or.inl rfl⟩
def b_Y8_againstSetting_23 (S : Cst) (x0 : Nat) (x1 : Int32) (y0 : Int32) : Int32 := y0
def q_Y8_againstSetting_23 (S : Cst) (x0 : Nat) (x1 : Int32) (y0 : Int32) : Prop := True
def f_Y8_againstSetting (S : Cst) (x0 : Nat) (x1 : Int32) : Int32 := if x1 = 0 then (9 : Int32) else if (giC S ((grC S x0 1).getD 0) 1) ≤ 0 then (b_Y8_againstSetting_23 S x0 x1 0) else (b_Y8_againstSetting_23 S x0 x1 11)
def p_Y8_againstSetting (S : Cst) (x0 : Nat) (x1 : Int32) : Prop := (if x1 = 0 then True else (iR S (grC S x0 1) 4) ∧ (if (giC S ((grC S x0 1).getD 0) 1) ≤ 0 then (q_Y8_againstSetting_23 S x0 x1 0) else (q_Y8_againstSetting_23 S x0 x1 11)))
def e_Y8_againstSetting : List Cond := [.fieldLink RX8 86 "MotionFloor$Assembly" "pending" "LMotionFloor$Pile;", .fieldLink RX8 117 "MotionFloor$Pile" "size" "I"]
def v_Y8_againstSetting : List Cond := .code yX8_againstSetting cX8_againstSetting 2 (some .int) :: (e_Y8_againstSetting ++ (wsX00 ++ (wsX50 ++ [])))
theorem te_Y8_againstSetting : GoodIn lw_tbl e_Y8_againstSetting := wGc zc380 (wGc zc379 (wG0))
theorem t_Y8_againstSetting : GoodIn lw_tbl v_Y8_againstSetting := wGc zc460 (wGa te_Y8_againstSetting (wGa zcX0 (wGa zcX5 (wG0))))
set_option maxHeartbeats 4000000 in
set_option maxRecDepth 100000 in
theorem c_Y8_againstSetting (l : Launch) (G : va_G) (K : Nat → ClassId) (ad : Nat → Nat) (S : Cst) (x0 : Nat) (a1 : Int32) (sz : Nat) : Met l yX8_againstSetting v_Y8_againstSetting ({ frames := 0, cells := 0, slots := 0, locals := 0 }) (va_Pc [.ref (ad x0), .int a1] (cSt G K ad sz S (iK S x0 0 ∧ p_Y8_againstSetting S x0 a1))) (va_Qi (fun (r : Int32) (u : Cst) => (r, u) = (f_Y8_againstSetting S x0 a1, S)) (cBt G K ad (va_A (wsC K ad S) sz)) (va_A (wsC K ad S) sz)) 0 0 (va_A (wsC K ad S) sz) := by
  refine Met.ofW (cc := cX8_againstSetting) (maxL := 2) (ret := (some .int)) (by decide) rfl ?_
  intro p e s m args below meth c s₁ B hml hv
  obtain ⟨rfl, ⟨hsz, hP, hK, hD0, hTE⟩, hp⟩ := hv
  obtain ⟨k_x0, hp⟩ := hp
  have hx := B.exec
  have hb := B.bytes
  have hr := B.returns
  have hts := atoms_spec (ws := v_Y8_againstSetting) B.pre
  have t_ := t_Y8_againstSetting
  have mw : ∀ w ∈ e_Y8_againstSetting, w ∈ v_Y8_againstSetting := fun w h => List.mem_cons_of_mem _ (List.mem_append_left _ h)
  have hw := fun w (h : w ∈ e_Y8_againstSetting) => hts w (mw w h)
  have iX0 : ∀ w ∈ wsX00, w ∈ v_Y8_againstSetting := fun w h => List.mem_cons_of_mem _ (List.mem_append_right _ (List.mem_append_left _ h))
  have iX5 : ∀ w ∈ wsX50, w ∈ v_Y8_againstSetting := fun w h => List.mem_cons_of_mem _ (List.mem_append_right _ (List.mem_append_right _ (List.mem_append_left _ h)))
  have hown : s.vm.findClass RX8 = some m.cls := findClass_of_methodNamed B.named
  have hlocks := B.notSynchronized
  subst hsz
  have hD := hD0.self (sz := s.heap.size)
  generalize hAe : va_A (wsC K ad S) s.heap.size = A at hD ⊢
  have hA : ∀ q : Nat, s.heap.size ≤ q → A q := fun q h => by rw [← hAe]; exact Or.inr h
  have hS : va_S A s.heap s.heap [] := va_S.rf
  have hl : lv_has (lg_sl ([.ref (ad x0), .int a1]) ++ List.replicate (2 - (lg_sl ([.ref (ad x0), .int a1])).length) Slot.unset).toArray 2 [(0, .ref (ad x0)), (1, .int a1)] := by
    exact lv_entry ([.ref (ad x0), .int a1]) (n := 2) (Nat.le_of_ble_eq_true rfl)
  rw [lg_entry_eq]
  generalize (lg_sl ([.ref (ad x0), .int a1]) ++ List.replicate (2 - (lg_sl ([.ref (ad x0), .int a1])).length) Slot.unset).toArray = ls_ at hl ⊢
  refine wGen (fun Q hQ => ?_)
  obtain ⟨X, hX⟩ : ∃ X, f_Y8_againstSetting S x0 a1 = X := ⟨_, rfl⟩
  have B_Y8_againstSetting_23 : ∀ (x1 : Int32) (y0 : Int32) (H : Heap) (locs : List Loc) (ls_ : Array Slot), b_Y8_againstSetting_23 S x0 x1 y0 = X → q_Y8_againstSetting_23 S x0 x1 y0 → va_P G vwCl (wsC K ad S) H → va_D A (wsC K ad S) → va_S A s.heap H locs → lv_has ls_ 2 [(0, .ref (ad x0)), (1, .int x1)] → W p l e ({ frames := 0, cells := 0, slots := 0, locals := 0 } : Room) s m #[Value.ref (ad x0), Value.int a1] below meth c H locs 0 0 Q (F0 m 23 ls_ [.int y0]) := by
    intro x1 y0 H locs ls_ hE hp hP hD hS hl
    unfold b_Y8_againstSetting_23 at hE
    unfold q_Y8_againstSetting_23 at hp
    subst hQ
    exact W.iret (v := y0) hx hb hr (fun t ht hW => ⟨⟨y0, S, rfl, (pair_i (hE.trans hX.symm)), by rw [ht]; exact hP, hD⟩, hS.F ht⟩) hS.2.2 dX8_againstSetting_23
  have B_M : ∀ (x1 : Int32) (H : Heap) (locs : List Loc) (ls_ : Array Slot), f_Y8_againstSetting S x0 x1 = X → p_Y8_againstSetting S x0 x1 → va_P G vwCl (wsC K ad S) H → va_D A (wsC K ad S) → va_S A s.heap H locs → lv_has ls_ 2 [(0, .ref (ad x0)), (1, .int x1)] → W p l e ({ frames := 0, cells := 0, slots := 0, locals := 0 } : Room) s m #[Value.ref (ad x0), Value.int a1] below meth c H locs 0 0 Q (F0 m 0 ls_ []) := by
    intro x1 H locs ls_ hE hp hP hD hS hl
    unfold f_Y8_againstSetting at hE
    unfold p_Y8_againstSetting at hp
    refine lv_iload_n hx hb dX8_againstSetting_0 rfl (lv_at hl 1 rfl) ?_
    refine lv_if_ne (tgt := 7) hx hb dX8_againstSetting_1 (by decide) (fun c1 => ?_) (fun c1 => ?_)
    · rw [if_neg c1] at hE hp
      refine lv_aload_n hx hb dX8_againstSetting_7 rfl (lv_at hl 0 rfl) ?_
      refine va_get (D := G) (ci := 0) (v := va_re ad (grC S x0 1)) (C := RX0) (T := TX0) (N := 11) hx hb hts iX0 hown hK hP x0 (at_0 k_x0) rfl 1 (by decide) (hw (.fieldLink RX8 86 "MotionFloor$Assembly" "pending" "LMotionFloor$Pile;") (List.mem_of_getElem? (i := 0) rfl)) (fun _ h9 => h9) rfl dX8_againstSetting_8 ?_
      obtain ⟨hy2, hp⟩ := hp
      refine cTop (r := (grC S x0 1)) hy2.1 ?_
      refine va_get (D := G) (ci := 4) (v := .int (giC S ((grC S x0 1).getD 0) 1)) (C := RX5) (T := TX5) (N := 2) hx hb hts iX5 hown hK hP ((grC S x0 1).getD 0) (at_4 hy2.2) rfl 1 (by decide) (hw (.fieldLink RX8 117 "MotionFloor$Pile" "size" "I") (List.mem_of_getElem? (i := 1) rfl)) (fun _ h9 => h9) rfl dX8_againstSetting_11 ?_
      refine lv_if_le (tgt := 22) hx hb dX8_againstSetting_14 (by decide) (fun c3 => ?_) (fun c3 => ?_)
      · rw [if_pos c3] at hE hp
        refine lv_iconst (v := 0) hx hb dX8_againstSetting_22 (by decide) ?_
        exact B_Y8_againstSetting_23 x1 0 _ _ _ hE hp hP hD hS (lv_sub hl [0, 1] rfl)
      · rw [if_neg c3] at hE hp
        refine lv_bipush (v := 11) hx hb dX8_againstSetting_17 (by decide) ?_
        refine lv_goto (tgt := 23) hx hb dX8_againstSetting_19 (by decide) ?_
        exact B_Y8_againstSetting_23 x1 11 _ _ _ hE hp hP hD hS (lv_sub hl [0, 1] rfl)
    · rw [if_pos c1] at hE hp
      refine lv_bipush (v := 9) hx hb dX8_againstSetting_4 (by decide) ?_
      subst hQ
      exact W.iret (v := (9 : Int32)) hx hb hr (fun t ht hW => ⟨⟨(9 : Int32), S, rfl, (pair_i (hE.trans hX.symm)), by rw [ht]; exact hP, hD⟩, hS.F ht⟩) hS.2.2 dX8_againstSetting_6
  exact B_M a1 _ _ _ hX hp hP hD hS hl
theorem gdX8_againstFloor_0 : ckS (List.drop 0 cX8_againstFloor.data.toList) 0 [(0, .aload_n 0, 1), (1, .getfield 34, 3), (4, .iload_n 1, 1), (5, .invokestatic 42, 3), (8, .istore_n 2, 1), (9, .iload_n 2, 1), (10, .ifCond .eq 5, 3), (13, .iload_n 2, 1), (14, .ireturn, 1), (15, .iload_n 1, 1), (16, .aload_n 0, 1), (17, .getfield 34, 3), (20, .getfield 79, 3), (23, .if_icmp .eq 14, 3), (26, .aload_n 0, 1), (27, .getfield 34, 3), (30, .getfield 53, 3), (33, .iconst (-1), 1), (34, .if_icmp .eq 5, 3), (37, .iconst 2, 1), (38, .ireturn, 1), (39, .aload_n 0, 1), (40, .getfield 86, 3), (43, .invokevirtual 90, 3), (46, .astore_n 3, 1), (47, .aload_n 3, 1), (48, .ifnonnull 5, 3), (51, .iconst 0, 1), (52, .ireturn, 1), (53, .aload_n 0, 1), (54, .getfield 34, 3), (57, .getfield 120, 3), (60, .ifCond .eq 21, 3), (63, .aload_n 3, 1), (64, .getfield 123, 3), (67, .aload_n 0, 1), (68, .getfield 34, 3), (71, .getfield 120, 3), (74, .if_icmp .lt 7, 3), (77, .iconst 1, 1)] = true := by decide +kernel
theorem dX8_againstFloor_0 : decode cX8_againstFloor 0 = .ok (.aload_n 0, 1) := ckS_g gdX8_againstFloor_0 0 rfl
theorem dX8_againstFloor_1 : decode cX8_againstFloor 1 = .ok (.getfield 34, 3) := ckS_g gdX8_againstFloor_0 1 rfl
theorem dX8_againstFloor_4 : decode cX8_againstFloor 4 = .ok (.iload_n 1, 1) := ckS_g gdX8_againstFloor_0 2 rfl
theorem dX8_againstFloor_5 : decode cX8_againstFloor 5 = .ok (.invokestatic 42, 3) := ckS_g gdX8_againstFloor_0 3 rfl
theorem dX8_againstFloor_8 : decode cX8_againstFloor 8 = .ok (.istore_n 2, 1) := ckS_g gdX8_againstFloor_0 4 rfl
theorem dX8_againstFloor_9 : decode cX8_againstFloor 9 = .ok (.iload_n 2, 1) := ckS_g gdX8_againstFloor_0 5 rfl
theorem dX8_againstFloor_10 : decode cX8_againstFloor 10 = .ok (.ifCond .eq 5, 3) := ckS_g gdX8_againstFloor_0 6 rfl
theorem dX8_againstFloor_13 : decode cX8_againstFloor 13 = .ok (.iload_n 2, 1) := ckS_g gdX8_againstFloor_0 7 rfl
theorem dX8_againstFloor_14 : decode cX8_againstFloor 14 = .ok (.ireturn, 1) := ckS_g gdX8_againstFloor_0 8 rfl
theorem dX8_againstFloor_15 : decode cX8_againstFloor 15 = .ok (.iload_n 1, 1) := ckS_g gdX8_againstFloor_0 9 rfl
theorem dX8_againstFloor_16 : decode cX8_againstFloor 16 = .ok (.aload_n 0, 1) := ckS_g gdX8_againstFloor_0 10 rfl
theorem dX8_againstFloor_17 : decode cX8_againstFloor 17 = .ok (.getfield 34, 3) := ckS_g gdX8_againstFloor_0 11 rfl
theorem dX8_againstFloor_20 : decode cX8_againstFloor 20 = .ok (.getfield 79, 3) := ckS_g gdX8_againstFloor_0 12 rfl
theorem dX8_againstFloor_23 : decode cX8_againstFloor 23 = .ok (.if_icmp .eq 14, 3) := ckS_g gdX8_againstFloor_0 13 rfl
theorem dX8_againstFloor_26 : decode cX8_againstFloor 26 = .ok (.aload_n 0, 1) := ckS_g gdX8_againstFloor_0 14 rfl
theorem dX8_againstFloor_27 : decode cX8_againstFloor 27 = .ok (.getfield 34, 3) := ckS_g gdX8_againstFloor_0 15 rfl
theorem dX8_againstFloor_30 : decode cX8_againstFloor 30 = .ok (.getfield 53, 3) := ckS_g gdX8_againstFloor_0 16 rfl
theorem dX8_againstFloor_33 : decode cX8_againstFloor 33 = .ok (.iconst (-1), 1) := ckS_g gdX8_againstFloor_0 17 rfl
theorem dX8_againstFloor_34 : decode cX8_againstFloor 34 = .ok (.if_icmp .eq 5, 3) := ckS_g gdX8_againstFloor_0 18 rfl
theorem dX8_againstFloor_37 : decode cX8_againstFloor 37 = .ok (.iconst 2, 1) := ckS_g gdX8_againstFloor_0 19 rfl
theorem dX8_againstFloor_38 : decode cX8_againstFloor 38 = .ok (.ireturn, 1) := ckS_g gdX8_againstFloor_0 20 rfl
theorem dX8_againstFloor_39 : decode cX8_againstFloor 39 = .ok (.aload_n 0, 1) := ckS_g gdX8_againstFloor_0 21 rfl
theorem dX8_againstFloor_40 : decode cX8_againstFloor 40 = .ok (.getfield 86, 3) := ckS_g gdX8_againstFloor_0 22 rfl
theorem dX8_againstFloor_43 : decode cX8_againstFloor 43 = .ok (.invokevirtual 90, 3) := ckS_g gdX8_againstFloor_0 23 rfl
theorem dX8_againstFloor_46 : decode cX8_againstFloor 46 = .ok (.astore_n 3, 1) := ckS_g gdX8_againstFloor_0 24 rfl
theorem dX8_againstFloor_47 : decode cX8_againstFloor 47 = .ok (.aload_n 3, 1) := ckS_g gdX8_againstFloor_0 25 rfl
theorem dX8_againstFloor_48 : decode cX8_againstFloor 48 = .ok (.ifnonnull 5, 3) := ckS_g gdX8_againstFloor_0 26 rfl
theorem dX8_againstFloor_51 : decode cX8_againstFloor 51 = .ok (.iconst 0, 1) := ckS_g gdX8_againstFloor_0 27 rfl
theorem dX8_againstFloor_52 : decode cX8_againstFloor 52 = .ok (.ireturn, 1) := ckS_g gdX8_againstFloor_0 28 rfl
theorem dX8_againstFloor_53 : decode cX8_againstFloor 53 = .ok (.aload_n 0, 1) := ckS_g gdX8_againstFloor_0 29 rfl
theorem dX8_againstFloor_54 : decode cX8_againstFloor 54 = .ok (.getfield 34, 3) := ckS_g gdX8_againstFloor_0 30 rfl
theorem dX8_againstFloor_57 : decode cX8_againstFloor 57 = .ok (.getfield 120, 3) := ckS_g gdX8_againstFloor_0 31 rfl
theorem dX8_againstFloor_60 : decode cX8_againstFloor 60 = .ok (.ifCond .eq 21, 3) := ckS_g gdX8_againstFloor_0 32 rfl
theorem dX8_againstFloor_63 : decode cX8_againstFloor 63 = .ok (.aload_n 3, 1) := ckS_g gdX8_againstFloor_0 33 rfl
theorem dX8_againstFloor_64 : decode cX8_againstFloor 64 = .ok (.getfield 123, 3) := ckS_g gdX8_againstFloor_0 34 rfl
theorem dX8_againstFloor_67 : decode cX8_againstFloor 67 = .ok (.aload_n 0, 1) := ckS_g gdX8_againstFloor_0 35 rfl
theorem dX8_againstFloor_68 : decode cX8_againstFloor 68 = .ok (.getfield 34, 3) := ckS_g gdX8_againstFloor_0 36 rfl
theorem dX8_againstFloor_71 : decode cX8_againstFloor 71 = .ok (.getfield 120, 3) := ckS_g gdX8_againstFloor_0 37 rfl
theorem dX8_againstFloor_74 : decode cX8_againstFloor 74 = .ok (.if_icmp .lt 7, 3) := ckS_g gdX8_againstFloor_0 38 rfl
theorem dX8_againstFloor_77 : decode cX8_againstFloor 77 = .ok (.iconst 1, 1) := ckS_g gdX8_againstFloor_0 39 rfl
theorem gdX8_againstFloor_78 : ckS (List.drop 78 cX8_againstFloor.data.toList) 78 [(78, .goto 4, 3), (81, .iconst 0, 1), (82, .istore 4, 2), (84, .aload_n 3, 1), (85, .getfield 128, 3), (88, .bipush 6, 2), (90, .if_icmp .eq 15, 3), (93, .aload_n 3, 1), (94, .getfield 131, 3), (97, .ifCond .ne 8, 3), (100, .iload 4, 2), (102, .ifCond .eq 8, 3), (105, .bipush 6, 2), (107, .goto 4, 3), (110, .iconst 0, 1), (111, .ireturn, 1)] = true := by decide +kernel
theorem dX8_againstFloor_78 : decode cX8_againstFloor 78 = .ok (.goto 4, 3) := ckS_g gdX8_againstFloor_78 0 rfl
theorem dX8_againstFloor_81 : decode cX8_againstFloor 81 = .ok (.iconst 0, 1) := ckS_g gdX8_againstFloor_78 1 rfl
theorem dX8_againstFloor_82 : decode cX8_againstFloor 82 = .ok (.istore 4, 2) := ckS_g gdX8_againstFloor_78 2 rfl
theorem dX8_againstFloor_84 : decode cX8_againstFloor 84 = .ok (.aload_n 3, 1) := ckS_g gdX8_againstFloor_78 3 rfl
theorem dX8_againstFloor_85 : decode cX8_againstFloor 85 = .ok (.getfield 128, 3) := ckS_g gdX8_againstFloor_78 4 rfl
theorem dX8_againstFloor_88 : decode cX8_againstFloor 88 = .ok (.bipush 6, 2) := ckS_g gdX8_againstFloor_78 5 rfl
theorem dX8_againstFloor_90 : decode cX8_againstFloor 90 = .ok (.if_icmp .eq 15, 3) := ckS_g gdX8_againstFloor_78 6 rfl
theorem dX8_againstFloor_93 : decode cX8_againstFloor 93 = .ok (.aload_n 3, 1) := ckS_g gdX8_againstFloor_78 7 rfl
theorem dX8_againstFloor_94 : decode cX8_againstFloor 94 = .ok (.getfield 131, 3) := ckS_g gdX8_againstFloor_78 8 rfl
theorem dX8_againstFloor_97 : decode cX8_againstFloor 97 = .ok (.ifCond .ne 8, 3) := ckS_g gdX8_againstFloor_78 9 rfl
theorem dX8_againstFloor_100 : decode cX8_againstFloor 100 = .ok (.iload 4, 2) := ckS_g gdX8_againstFloor_78 10 rfl
theorem dX8_againstFloor_102 : decode cX8_againstFloor 102 = .ok (.ifCond .eq 8, 3) := ckS_g gdX8_againstFloor_78 11 rfl
theorem dX8_againstFloor_105 : decode cX8_againstFloor 105 = .ok (.bipush 6, 2) := ckS_g gdX8_againstFloor_78 12 rfl
theorem dX8_againstFloor_107 : decode cX8_againstFloor 107 = .ok (.goto 4, 3) := ckS_g gdX8_againstFloor_78 13 rfl
theorem dX8_againstFloor_110 : decode cX8_againstFloor 110 = .ok (.iconst 0, 1) := ckS_g gdX8_againstFloor_78 14 rfl
theorem dX8_againstFloor_111 : decode cX8_againstFloor 111 = .ok (.ireturn, 1) := ckS_g gdX8_againstFloor_78 15 rfl
theorem gdX8_againstOnFloor_75 : ckS (List.drop 75 cX8_againstOnFloor.data.toList) 75 [(75, .iload_n 2, 1), (76, .sipush 200, 3), (79, .if_icmp .gt 7, 3), (82, .iconst 1, 1), (83, .goto 4, 3), (90, .ireturn, 1), (91, .aload_n 0, 1), (92, .getfield 34, 3), (95, .iload_n 2, 1), (96, .invokestatic 42, 3), (99, .ireturn, 1), (100, .aload_n 0, 1), (101, .iload_n 2, 1), (102, .iconst 1, 1), (103, .if_icmp .lt 23, 3), (106, .iload_n 2, 1), (107, .bipush 8, 2), (109, .if_icmp .gt 17, 3), (112, .iload_n 3, 1), (113, .iconst 1, 1), (114, .if_icmp .lt 12, 3), (117, .iload_n 3, 1), (118, .iconst 3, 1), (119, .if_icmp .gt 7, 3), (122, .iconst 1, 1), (123, .goto 4, 3), (126, .iconst 0, 1), (127, .invokestatic 45, 3), (130, .ireturn, 1), (131, .aload_n 0, 1), (132, .iload_n 2, 1), (133, .ifCond .lt 13, 3), (136, .iload_n 2, 1), (137, .bipush 99, 2), (139, .if_icmp .gt 7, 3), (142, .iconst 1, 1), (143, .goto 4, 3), (146, .iconst 0, 1), (147, .invokestatic 45, 3), (150, .ireturn, 1)] = true := by decide +kernel
theorem dX8_againstOnFloor_75 : decode cX8_againstOnFloor 75 = .ok (.iload_n 2, 1) := ckS_g gdX8_againstOnFloor_75 0 rfl
theorem dX8_againstOnFloor_76 : decode cX8_againstOnFloor 76 = .ok (.sipush 200, 3) := ckS_g gdX8_againstOnFloor_75 1 rfl
theorem dX8_againstOnFloor_79 : decode cX8_againstOnFloor 79 = .ok (.if_icmp .gt 7, 3) := ckS_g gdX8_againstOnFloor_75 2 rfl
theorem dX8_againstOnFloor_82 : decode cX8_againstOnFloor 82 = .ok (.iconst 1, 1) := ckS_g gdX8_againstOnFloor_75 3 rfl
theorem dX8_againstOnFloor_83 : decode cX8_againstOnFloor 83 = .ok (.goto 4, 3) := ckS_g gdX8_againstOnFloor_75 4 rfl
theorem dX8_againstOnFloor_90 : decode cX8_againstOnFloor 90 = .ok (.ireturn, 1) := ckS_g gdX8_againstOnFloor_75 5 rfl
theorem dX8_againstOnFloor_91 : decode cX8_againstOnFloor 91 = .ok (.aload_n 0, 1) := ckS_g gdX8_againstOnFloor_75 6 rfl
theorem dX8_againstOnFloor_92 : decode cX8_againstOnFloor 92 = .ok (.getfield 34, 3) := ckS_g gdX8_againstOnFloor_75 7 rfl
theorem dX8_againstOnFloor_95 : decode cX8_againstOnFloor 95 = .ok (.iload_n 2, 1) := ckS_g gdX8_againstOnFloor_75 8 rfl
theorem dX8_againstOnFloor_96 : decode cX8_againstOnFloor 96 = .ok (.invokestatic 42, 3) := ckS_g gdX8_againstOnFloor_75 9 rfl
theorem dX8_againstOnFloor_99 : decode cX8_againstOnFloor 99 = .ok (.ireturn, 1) := ckS_g gdX8_againstOnFloor_75 10 rfl
theorem dX8_againstOnFloor_100 : decode cX8_againstOnFloor 100 = .ok (.aload_n 0, 1) := ckS_g gdX8_againstOnFloor_75 11 rfl
theorem dX8_againstOnFloor_101 : decode cX8_againstOnFloor 101 = .ok (.iload_n 2, 1) := ckS_g gdX8_againstOnFloor_75 12 rfl
theorem dX8_againstOnFloor_102 : decode cX8_againstOnFloor 102 = .ok (.iconst 1, 1) := ckS_g gdX8_againstOnFloor_75 13 rfl
theorem dX8_againstOnFloor_103 : decode cX8_againstOnFloor 103 = .ok (.if_icmp .lt 23, 3) := ckS_g gdX8_againstOnFloor_75 14 rfl
theorem dX8_againstOnFloor_106 : decode cX8_againstOnFloor 106 = .ok (.iload_n 2, 1) := ckS_g gdX8_againstOnFloor_75 15 rfl
theorem dX8_againstOnFloor_107 : decode cX8_againstOnFloor 107 = .ok (.bipush 8, 2) := ckS_g gdX8_againstOnFloor_75 16 rfl
theorem dX8_againstOnFloor_109 : decode cX8_againstOnFloor 109 = .ok (.if_icmp .gt 17, 3) := ckS_g gdX8_againstOnFloor_75 17 rfl
theorem dX8_againstOnFloor_112 : decode cX8_againstOnFloor 112 = .ok (.iload_n 3, 1) := ckS_g gdX8_againstOnFloor_75 18 rfl
theorem dX8_againstOnFloor_113 : decode cX8_againstOnFloor 113 = .ok (.iconst 1, 1) := ckS_g gdX8_againstOnFloor_75 19 rfl
theorem dX8_againstOnFloor_114 : decode cX8_againstOnFloor 114 = .ok (.if_icmp .lt 12, 3) := ckS_g gdX8_againstOnFloor_75 20 rfl
theorem dX8_againstOnFloor_117 : decode cX8_againstOnFloor 117 = .ok (.iload_n 3, 1) := ckS_g gdX8_againstOnFloor_75 21 rfl
theorem dX8_againstOnFloor_118 : decode cX8_againstOnFloor 118 = .ok (.iconst 3, 1) := ckS_g gdX8_againstOnFloor_75 22 rfl
theorem dX8_againstOnFloor_119 : decode cX8_againstOnFloor 119 = .ok (.if_icmp .gt 7, 3) := ckS_g gdX8_againstOnFloor_75 23 rfl
theorem dX8_againstOnFloor_122 : decode cX8_againstOnFloor 122 = .ok (.iconst 1, 1) := ckS_g gdX8_againstOnFloor_75 24 rfl
theorem dX8_againstOnFloor_123 : decode cX8_againstOnFloor 123 = .ok (.goto 4, 3) := ckS_g gdX8_againstOnFloor_75 25 rfl
theorem dX8_againstOnFloor_126 : decode cX8_againstOnFloor 126 = .ok (.iconst 0, 1) := ckS_g gdX8_againstOnFloor_75 26 rfl
theorem dX8_againstOnFloor_127 : decode cX8_againstOnFloor 127 = .ok (.invokestatic 45, 3) := ckS_g gdX8_againstOnFloor_75 27 rfl
theorem dX8_againstOnFloor_130 : decode cX8_againstOnFloor 130 = .ok (.ireturn, 1) := ckS_g gdX8_againstOnFloor_75 28 rfl
theorem dX8_againstOnFloor_131 : decode cX8_againstOnFloor 131 = .ok (.aload_n 0, 1) := ckS_g gdX8_againstOnFloor_75 29 rfl
theorem dX8_againstOnFloor_132 : decode cX8_againstOnFloor 132 = .ok (.iload_n 2, 1) := ckS_g gdX8_againstOnFloor_75 30 rfl
theorem dX8_againstOnFloor_133 : decode cX8_againstOnFloor 133 = .ok (.ifCond .lt 13, 3) := ckS_g gdX8_againstOnFloor_75 31 rfl
theorem dX8_againstOnFloor_136 : decode cX8_againstOnFloor 136 = .ok (.iload_n 2, 1) := ckS_g gdX8_againstOnFloor_75 32 rfl
theorem dX8_againstOnFloor_137 : decode cX8_againstOnFloor 137 = .ok (.bipush 99, 2) := ckS_g gdX8_againstOnFloor_75 33 rfl
theorem dX8_againstOnFloor_139 : decode cX8_againstOnFloor 139 = .ok (.if_icmp .gt 7, 3) := ckS_g gdX8_againstOnFloor_75 34 rfl
theorem dX8_againstOnFloor_142 : decode cX8_againstOnFloor 142 = .ok (.iconst 1, 1) := ckS_g gdX8_againstOnFloor_75 35 rfl
theorem dX8_againstOnFloor_143 : decode cX8_againstOnFloor 143 = .ok (.goto 4, 3) := ckS_g gdX8_againstOnFloor_75 36 rfl
theorem dX8_againstOnFloor_146 : decode cX8_againstOnFloor 146 = .ok (.iconst 0, 1) := ckS_g gdX8_againstOnFloor_75 37 rfl
theorem dX8_againstOnFloor_147 : decode cX8_againstOnFloor 147 = .ok (.invokestatic 45, 3) := ckS_g gdX8_againstOnFloor_75 38 rfl
theorem dX8_againstOnFloor_150 : decode cX8_againstOnFloor 150 = .ok (.ireturn, 1) := ckS_g gdX8_againstOnFloor_75 39 rfl
theorem gdX8_againstOnFloor_151 : ckS (List.drop 151 cX8_againstOnFloor.data.toList) 151 [(151, .aload_n 0, 1), (152, .iload_n 2, 1), (153, .invokestatic 49, 3)] = true := by decide +kernel
theorem dX8_againstOnFloor_151 : decode cX8_againstOnFloor 151 = .ok (.aload_n 0, 1) := ckS_g gdX8_againstOnFloor_151 0 rfl
theorem dX8_againstOnFloor_152 : decode cX8_againstOnFloor 152 = .ok (.iload_n 2, 1) := ckS_g gdX8_againstOnFloor_151 1 rfl
theorem dX8_againstOnFloor_153 : decode cX8_againstOnFloor 153 = .ok (.invokestatic 49, 3) := ckS_g gdX8_againstOnFloor_151 2 rfl
set_option maxRecDepth 100000 in
theorem zc461 : wZ (.fieldLink RX8 123 "MotionFloor$Motion" "floors" "I") := ⟨wT3 (List.mem_of_getElem? (i := 30) (by decide +kernel)), Or.inl rfl⟩
set_option maxRecDepth 100000 in
theorem zc462 : wZ (.fieldLink RX8 131 "MotionFloor$Motion" "closed" "Z") := ⟨wT3 (List.mem_of_getElem? (i := 35) (by decide +kernel)), Or.inl rfl⟩
set_option maxRecDepth 100000 in
theorem zc463 : wZ (.fieldLink RX8 120 "MotionFloor$House" "limit" "I") := ⟨wT1 (List.mem_of_getElem? (i := 51) (by decide +kernel)), Or.inl rfl⟩
set_option maxRecDepth 100000 in
theorem zc464 : wZ (.fieldLink RX8 53 "MotionFloor$House" "speaker" "I") := ⟨wT1 (List.mem_of_getElem? (i := 56) (by decide +kernel)), Or.inl rfl⟩
set_option maxRecDepth 100000 in
theorem zc465 : wZ (.code yX8_againstFloor cX8_againstFloor 5 (some .int)) := ⟨wT2 (List.mem_of_getElem? (i := 74) rfl), Or.inl rfl⟩
def b_Y8_againstFloor_37 (S : Cst) (x0 : Nat) (x1 : Int32) (x2 : Int32) : Int32 := (2 : Int32)
def q_Y8_againstFloor_37 (S : Cst) (x0 : Nat) (x1 : Int32) (x2 : Int32) : Prop := True
def b_Y8_againstFloor_111 (S : Cst) (x0 : Nat) (x1 : Int32) (x2 : Int32) (x3 : Option Nat) (x4 : Int32) (y0 : Int32) : Int32 := y0
def q_Y8_againstFloor_111 (S : Cst) (x0 : Nat) (x1 : Int32) (x2 : Int32) (x3 : Option Nat) (x4 : Int32) (y0 : Int32) : Prop := True
def b_Y8_againstFloor_105 (S : Cst) (x0 : Nat) (x1 : Int32) (x2 : Int32) (x3 : Option Nat) (x4 : Int32) : Int32 := (b_Y8_againstFloor_111 S x0 x1 x2 x3 x4 6)
def q_Y8_againstFloor_105 (S : Cst) (x0 : Nat) (x1 : Int32) (x2 : Int32) (x3 : Option Nat) (x4 : Int32) : Prop := (q_Y8_againstFloor_111 S x0 x1 x2 x3 x4 6)
def b_Y8_againstFloor_82 (S : Cst) (x0 : Nat) (x1 : Int32) (x2 : Int32) (x3 : Option Nat) (y0 : Int32) : Int32 := if (giC S (x3.getD 0) 2) = 6 then (b_Y8_againstFloor_105 S x0 x1 x2 x3 y0) else if (giC S (x3.getD 0) 7) = 0 then if y0 = 0 then (b_Y8_againstFloor_111 S x0 x1 x2 x3 y0 0) else (b_Y8_againstFloor_105 S x0 x1 x2 x3 y0) else (b_Y8_againstFloor_105 S x0 x1 x2 x3 y0)
def q_Y8_againstFloor_82 (S : Cst) (x0 : Nat) (x1 : Int32) (x2 : Int32) (x3 : Option Nat) (y0 : Int32) : Prop := (iR S x3 3) ∧ (if (giC S (x3.getD 0) 2) = 6 then (q_Y8_againstFloor_105 S x0 x1 x2 x3 y0) else (iR S x3 3) ∧ (if (giC S (x3.getD 0) 7) = 0 then (if y0 = 0 then (q_Y8_againstFloor_111 S x0 x1 x2 x3 y0 0) else (q_Y8_againstFloor_105 S x0 x1 x2 x3 y0)) else (q_Y8_againstFloor_105 S x0 x1 x2 x3 y0)))
def b_Y8_againstFloor_81 (S : Cst) (x0 : Nat) (x1 : Int32) (x2 : Int32) (x3 : Option Nat) : Int32 := (b_Y8_againstFloor_82 S x0 x1 x2 x3 0)
def q_Y8_againstFloor_81 (S : Cst) (x0 : Nat) (x1 : Int32) (x2 : Int32) (x3 : Option Nat) : Prop := (q_Y8_againstFloor_82 S x0 x1 x2 x3 0)
def f_Y8_againstFloor (S : Cst) (x0 : Nat) (x1 : Int32) : Int32 := if (f_Y8_againstAbsent S ((grC S x0 0).getD 0) x1) = 0 then if x1 = (giC S ((grC S x0 0).getD 0) 3) then (b_Y8_againstFloor_37 S x0 x1 (f_Y8_againstAbsent S ((grC S x0 0).getD 0) x1)) else if (giC S ((grC S x0 0).getD 0) 6) = (-1) then if (f_Y5_top S ((grC S x0 1).getD 0)) = none then (0 : Int32) else if (giC S ((grC S x0 0).getD 0) 5) = 0 then (b_Y8_againstFloor_81 S x0 x1 (f_Y8_againstAbsent S ((grC S x0 0).getD 0) x1) (f_Y5_top S ((grC S x0 1).getD 0))) else if (giC S ((f_Y5_top S ((grC S x0 1).getD 0)).getD 0) 5) < (giC S ((grC S x0 0).getD 0) 5) then (b_Y8_againstFloor_81 S x0 x1 (f_Y8_againstAbsent S ((grC S x0 0).getD 0) x1) (f_Y5_top S ((grC S x0 1).getD 0))) else (b_Y8_againstFloor_82 S x0 x1 (f_Y8_againstAbsent S ((grC S x0 0).getD 0) x1) (f_Y5_top S ((grC S x0 1).getD 0)) 1) else (b_Y8_againstFloor_37 S x0 x1 (f_Y8_againstAbsent S ((grC S x0 0).getD 0) x1)) else (f_Y8_againstAbsent S ((grC S x0 0).getD 0) x1)
def p_Y8_againstFloor (S : Cst) (x0 : Nat) (x1 : Int32) : Prop := (iR S (grC S x0 0) 1) ∧ (p_Y8_againstAbsent S ((grC S x0 0).getD 0) x1) ∧ (if (f_Y8_againstAbsent S ((grC S x0 0).getD 0) x1) = 0 then (iR S (grC S x0 0) 1) ∧ (if x1 = (giC S ((grC S x0 0).getD 0) 3) then (q_Y8_againstFloor_37 S x0 x1 (f_Y8_againstAbsent S ((grC S x0 0).getD 0) x1)) else (iR S (grC S x0 0) 1) ∧ (if (giC S ((grC S x0 0).getD 0) 6) = (-1) then (iR S (grC S x0 1) 4) ∧ (p_Y5_top S ((grC S x0 1).getD 0)) ∧ (if (f_Y5_top S ((grC S x0 1).getD 0)) = none then True else (iR S (grC S x0 0) 1) ∧ (if (giC S ((grC S x0 0).getD 0) 5) = 0 then (q_Y8_againstFloor_81 S x0 x1 (f_Y8_againstAbsent S ((grC S x0 0).getD 0) x1) (f_Y5_top S ((grC S x0 1).getD 0))) else (iR S (f_Y5_top S ((grC S x0 1).getD 0)) 3) ∧ (iR S (grC S x0 0) 1) ∧ (if (giC S ((f_Y5_top S ((grC S x0 1).getD 0)).getD 0) 5) < (giC S ((grC S x0 0).getD 0) 5) then (q_Y8_againstFloor_81 S x0 x1 (f_Y8_againstAbsent S ((grC S x0 0).getD 0) x1) (f_Y5_top S ((grC S x0 1).getD 0))) else (q_Y8_againstFloor_82 S x0 x1 (f_Y8_againstAbsent S ((grC S x0 0).getD 0) x1) (f_Y5_top S ((grC S x0 1).getD 0)) 1)))) else (q_Y8_againstFloor_37 S x0 x1 (f_Y8_againstAbsent S ((grC S x0 0).getD 0) x1)))) else True)
def e_Y8_againstFloor : List Cond := [.fieldLink RX8 34 "MotionFloor$Assembly" "house" "LMotionFloor$House;", .methodLink RX8 42 yX8_againstAbsent, .static yX8_againstAbsent, .initialized RX8, .fieldLink RX8 79 "MotionFloor$House" "chair" "I", .fieldLink RX8 53 "MotionFloor$House" "speaker" "I", .fieldLink RX8 86 "MotionFloor$Assembly" "pending" "LMotionFloor$Pile;", .methodLink RX8 90 yX5_top, .instanceMethod yX5_top, .selects RX5 yX5_top yX5_top, .initialized RX5, .fieldLink RX8 120 "MotionFloor$House" "limit" "I", .fieldLink RX8 128 "MotionFloor$Motion" "kind" "I", .fieldLink RX8 131 "MotionFloor$Motion" "closed" "Z", .fieldLink RX8 123 "MotionFloor$Motion" "floors" "I"]
def v_Y8_againstFloor : List Cond := .code yX8_againstFloor cX8_againstFloor 5 (some .int) :: (e_Y8_againstFloor ++ (wsX00 ++ (wsX20 ++ (wsX40 ++ (v_Y8_againstAbsent ++ (v_Y5_top ++ []))))))
theorem te_Y8_againstFloor : GoodIn lw_tbl e_Y8_againstFloor := wGc zc418 (wGc zc375 (wGc zc374 (wGc zc373 (wGc zc369 (wGc zc464 (wGc zc380 (wGc zc421 (wGc zc179 (wGc zc178 (wGc zc34 (wGc zc463 (wGc zc371 (wGc zc462 (wGc zc461 (wG0)))))))))))))))
theorem t_Y8_againstFloor : GoodIn lw_tbl v_Y8_againstFloor := wGc zc465 (wGa te_Y8_againstFloor (wGa zcX0 (wGa zcX2 (wGa zcX4 (wGa t_Y8_againstAbsent (wGa t_Y5_top (wG0)))))))
set_option maxHeartbeats 4000000 in
set_option maxRecDepth 100000 in
theorem c_Y8_againstFloor (l : Launch) (G : va_G) (K : Nat → ClassId) (ad : Nat → Nat) (S : Cst) (x0 : Nat) (a1 : Int32) (sz : Nat) : Met l yX8_againstFloor v_Y8_againstFloor ({ frames := 2, cells := 0, slots := 0, locals := 42 }) (va_Pc [.ref (ad x0), .int a1] (cSt G K ad sz S (iK S x0 0 ∧ p_Y8_againstFloor S x0 a1))) (va_Qi (fun (r : Int32) (u : Cst) => (r, u) = (f_Y8_againstFloor S x0 a1, S)) (cBt G K ad (va_A (wsC K ad S) sz)) (va_A (wsC K ad S) sz)) 0 0 (va_A (wsC K ad S) sz) := by
  refine Met.ofW (cc := cX8_againstFloor) (maxL := 5) (ret := (some .int)) (by decide) rfl ?_
  intro p e s m args below meth c s₁ B hml hv
  obtain ⟨rfl, ⟨hsz, hP, hK, hD0, hTE⟩, hp⟩ := hv
  obtain ⟨k_x0, hp⟩ := hp
  have hx := B.exec
  have hb := B.bytes
  have hr := B.returns
  have hts := atoms_spec (ws := v_Y8_againstFloor) B.pre
  have t_ := t_Y8_againstFloor
  have mw : ∀ w ∈ e_Y8_againstFloor, w ∈ v_Y8_againstFloor := fun w h => List.mem_cons_of_mem _ (List.mem_append_left _ h)
  have hw := fun w (h : w ∈ e_Y8_againstFloor) => hts w (mw w h)
  have iX0 : ∀ w ∈ wsX00, w ∈ v_Y8_againstFloor := fun w h => List.mem_cons_of_mem _ (List.mem_append_right _ (List.mem_append_left _ h))
  have iX2 : ∀ w ∈ wsX20, w ∈ v_Y8_againstFloor := fun w h => List.mem_cons_of_mem _ (List.mem_append_right _ (List.mem_append_right _ (List.mem_append_left _ h)))
  have iX4 : ∀ w ∈ wsX40, w ∈ v_Y8_againstFloor := fun w h => List.mem_cons_of_mem _ (List.mem_append_right _ (List.mem_append_right _ (List.mem_append_right _ (List.mem_append_left _ h))))
  have j_Y8_againstAbsent : ∀ w ∈ v_Y8_againstAbsent, w ∈ v_Y8_againstFloor := fun w h => List.mem_cons_of_mem _ (List.mem_append_right _ (List.mem_append_right _ (List.mem_append_right _ (List.mem_append_right _ (List.mem_append_left _ h)))))
  have j_Y5_top : ∀ w ∈ v_Y5_top, w ∈ v_Y8_againstFloor := fun w h => List.mem_cons_of_mem _ (List.mem_append_right _ (List.mem_append_right _ (List.mem_append_right _ (List.mem_append_right _ (List.mem_append_right _ (List.mem_append_left _ h))))))
  have hown : s.vm.findClass RX8 = some m.cls := findClass_of_methodNamed B.named
  have hlocks := B.notSynchronized
  subst hsz
  have hD := hD0.self (sz := s.heap.size)
  generalize hAe : va_A (wsC K ad S) s.heap.size = A at hD ⊢
  have hA : ∀ q : Nat, s.heap.size ≤ q → A q := fun q h => by rw [← hAe]; exact Or.inr h
  have hS : va_S A s.heap s.heap [] := va_S.rf
  have hl : lv_has (lg_sl ([.ref (ad x0), .int a1]) ++ List.replicate (5 - (lg_sl ([.ref (ad x0), .int a1])).length) Slot.unset).toArray 5 [(0, .ref (ad x0)), (1, .int a1)] := by
    exact lv_entry ([.ref (ad x0), .int a1]) (n := 5) (Nat.le_of_ble_eq_true rfl)
  rw [lg_entry_eq]
  generalize (lg_sl ([.ref (ad x0), .int a1]) ++ List.replicate (5 - (lg_sl ([.ref (ad x0), .int a1])).length) Slot.unset).toArray = ls_ at hl ⊢
  refine wGen (fun Q hQ => ?_)
  obtain ⟨X, hX⟩ : ∃ X, f_Y8_againstFloor S x0 a1 = X := ⟨_, rfl⟩
  have B_Y8_againstFloor_37 : ∀ (x1 : Int32) (x2 : Int32) (H : Heap) (locs : List Loc) (ls_ : Array Slot), b_Y8_againstFloor_37 S x0 x1 x2 = X → q_Y8_againstFloor_37 S x0 x1 x2 → va_P G vwCl (wsC K ad S) H → va_D A (wsC K ad S) → va_S A s.heap H locs → lv_has ls_ 5 [(0, .ref (ad x0)), (1, .int x1), (2, .int x2)] → W p l e ({ frames := 2, cells := 0, slots := 0, locals := 42 } : Room) s m #[Value.ref (ad x0), Value.int a1] below meth c H locs 0 0 Q (F0 m 37 ls_ []) := by
    intro x1 x2 H locs ls_ hE hp hP hD hS hl
    unfold b_Y8_againstFloor_37 at hE
    unfold q_Y8_againstFloor_37 at hp
    refine lv_iconst (v := 2) hx hb dX8_againstFloor_37 (by decide) ?_
    subst hQ
    exact W.iret (v := (2 : Int32)) hx hb hr (fun t ht hW => ⟨⟨(2 : Int32), S, rfl, (pair_i (hE.trans hX.symm)), by rw [ht]; exact hP, hD⟩, hS.F ht⟩) hS.2.2 dX8_againstFloor_38
  have B_Y8_againstFloor_111 : ∀ (x1 : Int32) (x2 : Int32) (x3 : Option Nat) (x4 : Int32) (y0 : Int32) (H : Heap) (locs : List Loc) (ls_ : Array Slot), b_Y8_againstFloor_111 S x0 x1 x2 x3 x4 y0 = X → q_Y8_againstFloor_111 S x0 x1 x2 x3 x4 y0 → va_P G vwCl (wsC K ad S) H → va_D A (wsC K ad S) → va_S A s.heap H locs → lv_has ls_ 5 [(0, .ref (ad x0)), (1, .int x1), (2, .int x2), (3, va_re ad x3), (4, .int x4)] → W p l e ({ frames := 2, cells := 0, slots := 0, locals := 42 } : Room) s m #[Value.ref (ad x0), Value.int a1] below meth c H locs 0 0 Q (F0 m 111 ls_ [.int y0]) := by
    intro x1 x2 x3 x4 y0 H locs ls_ hE hp hP hD hS hl
    unfold b_Y8_againstFloor_111 at hE
    unfold q_Y8_againstFloor_111 at hp
    subst hQ
    exact W.iret (v := y0) hx hb hr (fun t ht hW => ⟨⟨y0, S, rfl, (pair_i (hE.trans hX.symm)), by rw [ht]; exact hP, hD⟩, hS.F ht⟩) hS.2.2 dX8_againstFloor_111
  have B_Y8_againstFloor_105 : ∀ (x1 : Int32) (x2 : Int32) (x3 : Option Nat) (x4 : Int32) (H : Heap) (locs : List Loc) (ls_ : Array Slot), b_Y8_againstFloor_105 S x0 x1 x2 x3 x4 = X → q_Y8_againstFloor_105 S x0 x1 x2 x3 x4 → va_P G vwCl (wsC K ad S) H → va_D A (wsC K ad S) → va_S A s.heap H locs → lv_has ls_ 5 [(0, .ref (ad x0)), (1, .int x1), (2, .int x2), (3, va_re ad x3), (4, .int x4)] → W p l e ({ frames := 2, cells := 0, slots := 0, locals := 42 } : Room) s m #[Value.ref (ad x0), Value.int a1] below meth c H locs 0 0 Q (F0 m 105 ls_ []) := by
    intro x1 x2 x3 x4 H locs ls_ hE hp hP hD hS hl
    unfold b_Y8_againstFloor_105 at hE
    unfold q_Y8_againstFloor_105 at hp
    refine lv_bipush (v := 6) hx hb dX8_againstFloor_105 (by decide) ?_
    refine lv_goto (tgt := 111) hx hb dX8_againstFloor_107 (by decide) ?_
    exact B_Y8_againstFloor_111 x1 x2 x3 x4 6 _ _ _ hE hp hP hD hS (lv_sub hl [0, 1, 2, 3, 4] rfl)
  have B_Y8_againstFloor_82 : ∀ (x1 : Int32) (x2 : Int32) (x3 : Option Nat) (y0 : Int32) (H : Heap) (locs : List Loc) (ls_ : Array Slot), b_Y8_againstFloor_82 S x0 x1 x2 x3 y0 = X → q_Y8_againstFloor_82 S x0 x1 x2 x3 y0 → va_P G vwCl (wsC K ad S) H → va_D A (wsC K ad S) → va_S A s.heap H locs → lv_has ls_ 5 [(0, .ref (ad x0)), (1, .int x1), (2, .int x2), (3, va_re ad x3)] → W p l e ({ frames := 2, cells := 0, slots := 0, locals := 42 } : Room) s m #[Value.ref (ad x0), Value.int a1] below meth c H locs 0 0 Q (F0 m 82 ls_ [.int y0]) := by
    intro x1 x2 x3 y0 H locs ls_ hE hp hP hD hS hl
    unfold b_Y8_againstFloor_82 at hE
    unfold q_Y8_againstFloor_82 at hp
    refine lv_istore (i := 4) (lv' := [(4, .int y0), (0, .ref (ad x0)), (1, .int x1), (2, .int x2), (3, va_re ad x3)]) hx hb dX8_againstFloor_82 hl (by decide) (by simp [List.filter, re_cat]) (fun ls_ hl => ?_)
    refine cAload_n (ad := ad) (r := x3) hx hb dX8_againstFloor_84 rfl (lv_at hl 4 rfl) ?_
    obtain ⟨hy17, hp⟩ := hp
    refine cTop (r := x3) hy17.1 ?_
    refine va_get (D := G) (ci := 3) (v := .int (giC S (x3.getD 0) 2)) (C := RX4) (T := TX4) (N := 16) hx hb hts iX4 hown hK hP (x3.getD 0) (at_3 hy17.2) rfl 2 (by decide) (hw (.fieldLink RX8 128 "MotionFloor$Motion" "kind" "I") (List.mem_of_getElem? (i := 12) rfl)) (fun _ h9 => h9) rfl dX8_againstFloor_85 ?_
    refine lv_bipush (v := 6) hx hb dX8_againstFloor_88 (by decide) ?_
    refine lv_icmp_eq (tgt := 105) hx hb dX8_againstFloor_90 (by decide) (fun c18 => ?_) (fun c18 => ?_)
    · rw [if_pos c18] at hE hp
      exact B_Y8_againstFloor_105 x1 x2 x3 y0 _ _ _ hE hp hP hD hS (lv_sub hl [1, 2, 3, 4, 0] rfl)
    · rw [if_neg c18] at hE hp
      refine cAload_n (ad := ad) (r := x3) hx hb dX8_againstFloor_93 rfl (lv_at hl 4 rfl) ?_
      obtain ⟨hy19, hp⟩ := hp
      refine cTop (r := x3) hy19.1 ?_
      refine va_get (D := G) (ci := 3) (v := .int (giC S (x3.getD 0) 7)) (C := RX4) (T := TX4) (N := 16) hx hb hts iX4 hown hK hP (x3.getD 0) (at_3 hy19.2) rfl 7 (by decide) (hw (.fieldLink RX8 131 "MotionFloor$Motion" "closed" "Z") (List.mem_of_getElem? (i := 13) rfl)) (fun _ h9 => h9) rfl dX8_againstFloor_94 ?_
      refine lv_if_ne (tgt := 105) hx hb dX8_againstFloor_97 (by decide) (fun c20 => ?_) (fun c20 => ?_)
      · rw [if_neg c20] at hE hp
        exact B_Y8_againstFloor_105 x1 x2 x3 y0 _ _ _ hE hp hP hD hS (lv_sub hl [1, 2, 3, 4, 0] rfl)
      · rw [if_pos c20] at hE hp
        refine lv_iload hx hb dX8_againstFloor_100 (lv_at hl 0 rfl) ?_
        refine lv_if_eq (tgt := 110) hx hb dX8_againstFloor_102 (by decide) (fun c21 => ?_) (fun c21 => ?_)
        · rw [if_pos c21] at hE hp
          refine lv_iconst (v := 0) hx hb dX8_againstFloor_110 (by decide) ?_
          exact B_Y8_againstFloor_111 x1 x2 x3 y0 0 _ _ _ hE hp hP hD hS (lv_sub hl [1, 2, 3, 4, 0] rfl)
        · rw [if_neg c21] at hE hp
          exact B_Y8_againstFloor_105 x1 x2 x3 y0 _ _ _ hE hp hP hD hS (lv_sub hl [1, 2, 3, 4, 0] rfl)
  have B_Y8_againstFloor_81 : ∀ (x1 : Int32) (x2 : Int32) (x3 : Option Nat) (H : Heap) (locs : List Loc) (ls_ : Array Slot), b_Y8_againstFloor_81 S x0 x1 x2 x3 = X → q_Y8_againstFloor_81 S x0 x1 x2 x3 → va_P G vwCl (wsC K ad S) H → va_D A (wsC K ad S) → va_S A s.heap H locs → lv_has ls_ 5 [(0, .ref (ad x0)), (1, .int x1), (2, .int x2), (3, va_re ad x3)] → W p l e ({ frames := 2, cells := 0, slots := 0, locals := 42 } : Room) s m #[Value.ref (ad x0), Value.int a1] below meth c H locs 0 0 Q (F0 m 81 ls_ []) := by
    intro x1 x2 x3 H locs ls_ hE hp hP hD hS hl
    unfold b_Y8_againstFloor_81 at hE
    unfold q_Y8_againstFloor_81 at hp
    refine lv_iconst (v := 0) hx hb dX8_againstFloor_81 (by decide) ?_
    exact B_Y8_againstFloor_82 x1 x2 x3 0 _ _ _ hE hp hP hD hS (lv_sub hl [0, 1, 2, 3] rfl)
  have B_M : ∀ (x1 : Int32) (H : Heap) (locs : List Loc) (ls_ : Array Slot), f_Y8_againstFloor S x0 x1 = X → p_Y8_againstFloor S x0 x1 → va_P G vwCl (wsC K ad S) H → va_D A (wsC K ad S) → va_S A s.heap H locs → lv_has ls_ 5 [(0, .ref (ad x0)), (1, .int x1)] → W p l e ({ frames := 2, cells := 0, slots := 0, locals := 42 } : Room) s m #[Value.ref (ad x0), Value.int a1] below meth c H locs 0 0 Q (F0 m 0 ls_ []) := by
    intro x1 H locs ls_ hE hp hP hD hS hl
    unfold f_Y8_againstFloor at hE
    unfold p_Y8_againstFloor at hp
    refine lv_aload_n hx hb dX8_againstFloor_0 rfl (lv_at hl 0 rfl) ?_
    refine va_get (D := G) (ci := 0) (v := va_re ad (grC S x0 0)) (C := RX0) (T := TX0) (N := 11) hx hb hts iX0 hown hK hP x0 (at_0 k_x0) rfl 0 (by decide) (hw (.fieldLink RX8 34 "MotionFloor$Assembly" "house" "LMotionFloor$House;") (List.mem_of_getElem? (i := 0) rfl)) (fun _ h9 => h9) rfl dX8_againstFloor_1 ?_
    refine lv_iload_n hx hb dX8_againstFloor_4 rfl (lv_at hl 1 rfl) ?_
    obtain ⟨hy1, hp⟩ := hp
    refine cTop2 (r := (grC S x0 0)) hy1.1 ?_
    obtain ⟨hy2, hp⟩ := hp
    refine cGoi (va_runS (As := [.ref (ad ((grC S x0 0).getD 0)), .int x1]) (rest := []) ⟨hx, hb, hml, hown, hts⟩ (c_Y8_againstAbsent l G K ad S ((grC S x0 0).getD 0) x1 _) (va_cwS 2 hts (wGS t_ (mw (.methodLink RX8 42 yX8_againstAbsent) (List.mem_of_getElem? (i := 1) rfl)) (mw (.static yX8_againstAbsent) (List.mem_of_getElem? (i := 2) rfl)) (mw (.initialized RX8) (List.mem_of_getElem? (i := 3) rfl)) j_Y8_againstAbsent) rfl rfl rfl (by decide +kernel) ⟨Nat.le_of_ble_eq_true rfl, Nat.le_of_ble_eq_true rfl⟩) (cPS hK hTE hP hD ⟨hy1.2, hy2⟩) rfl rfl hl.1 rfl (lv_room (Nat.le_of_ble_eq_true rfl)) dX8_againstFloor_5 ⟨Nat.le_of_ble_eq_true rfl, Nat.le_of_ble_eq_true rfl⟩) hP hD hS hA (fun r4 u3 H locs hv hP hD hS => ?_)
    have h1 := congrArg Prod.fst hv
    have h2 := (congrArg Prod.snd hv).symm
    dsimp only at h1 h2
    subst h1
    subst h2
    refine lv_istore_n (i := 2) (lv' := [(2, .int (f_Y8_againstAbsent S ((grC S x0 0).getD 0) x1)), (0, .ref (ad x0)), (1, .int x1)]) hx hb dX8_againstFloor_8 rfl hl (by decide) rfl (fun ls_ hl => ?_)
    refine lv_iload_n hx hb dX8_againstFloor_9 rfl (lv_at hl 0 rfl) ?_
    refine lv_if_eq (tgt := 15) hx hb dX8_againstFloor_10 (by decide) (fun c5 => ?_) (fun c5 => ?_)
    · rw [if_pos c5] at hE hp
      refine lv_iload_n hx hb dX8_againstFloor_15 rfl (lv_at hl 2 rfl) ?_
      refine lv_aload_n hx hb dX8_againstFloor_16 rfl (lv_at hl 1 rfl) ?_
      refine va_get (D := G) (ci := 0) (v := va_re ad (grC S x0 0)) (C := RX0) (T := TX0) (N := 11) hx hb hts iX0 hown hK hP x0 (at_0 k_x0) rfl 0 (by decide) (hw (.fieldLink RX8 34 "MotionFloor$Assembly" "house" "LMotionFloor$House;") (List.mem_of_getElem? (i := 0) rfl)) (fun _ h9 => h9) rfl dX8_againstFloor_17 ?_
      obtain ⟨hy6, hp⟩ := hp
      refine cTop (r := (grC S x0 0)) hy6.1 ?_
      refine va_get (D := G) (ci := 1) (v := .int (giC S ((grC S x0 0).getD 0) 3)) (C := RX2) (T := TX2) (N := 8) hx hb hts iX2 hown hK hP ((grC S x0 0).getD 0) (at_1 hy6.2) rfl 3 (by decide) (hw (.fieldLink RX8 79 "MotionFloor$House" "chair" "I") (List.mem_of_getElem? (i := 4) rfl)) (fun _ h9 => h9) rfl dX8_againstFloor_20 ?_
      refine lv_icmp_eq (tgt := 37) hx hb dX8_againstFloor_23 (by decide) (fun c7 => ?_) (fun c7 => ?_)
      · rw [if_pos c7] at hE hp
        exact B_Y8_againstFloor_37 x1 (f_Y8_againstAbsent S ((grC S x0 0).getD 0) x1) _ _ _ hE hp hP hD hS (lv_sub hl [1, 2, 0] rfl)
      · rw [if_neg c7] at hE hp
        refine lv_aload_n hx hb dX8_againstFloor_26 rfl (lv_at hl 1 rfl) ?_
        refine va_get (D := G) (ci := 0) (v := va_re ad (grC S x0 0)) (C := RX0) (T := TX0) (N := 11) hx hb hts iX0 hown hK hP x0 (at_0 k_x0) rfl 0 (by decide) (hw (.fieldLink RX8 34 "MotionFloor$Assembly" "house" "LMotionFloor$House;") (List.mem_of_getElem? (i := 0) rfl)) (fun _ h9 => h9) rfl dX8_againstFloor_27 ?_
        obtain ⟨hy8, hp⟩ := hp
        refine cTop (r := (grC S x0 0)) hy8.1 ?_
        refine va_get (D := G) (ci := 1) (v := .int (giC S ((grC S x0 0).getD 0) 6)) (C := RX2) (T := TX2) (N := 8) hx hb hts iX2 hown hK hP ((grC S x0 0).getD 0) (at_1 hy8.2) rfl 6 (by decide) (hw (.fieldLink RX8 53 "MotionFloor$House" "speaker" "I") (List.mem_of_getElem? (i := 5) rfl)) (fun _ h9 => h9) rfl dX8_againstFloor_30 ?_
        refine lv_iconst (v := (-1)) hx hb dX8_againstFloor_33 (by decide) ?_
        refine lv_icmp_eq (tgt := 39) hx hb dX8_againstFloor_34 (by decide) (fun c9 => ?_) (fun c9 => ?_)
        · rw [if_pos c9] at hE hp
          refine lv_aload_n hx hb dX8_againstFloor_39 rfl (lv_at hl 1 rfl) ?_
          refine va_get (D := G) (ci := 0) (v := va_re ad (grC S x0 1)) (C := RX0) (T := TX0) (N := 11) hx hb hts iX0 hown hK hP x0 (at_0 k_x0) rfl 1 (by decide) (hw (.fieldLink RX8 86 "MotionFloor$Assembly" "pending" "LMotionFloor$Pile;") (List.mem_of_getElem? (i := 6) rfl)) (fun _ h9 => h9) rfl dX8_againstFloor_40 ?_
          obtain ⟨hy10, hp⟩ := hp
          refine cTop (r := (grC S x0 1)) hy10.1 ?_
          obtain ⟨hy11, hp⟩ := hp
          refine cGoq (va_runV (As := []) (rest := []) ⟨hx, hb, hml, hown, hts⟩ (c_Y5_top l G K ad S ((grC S x0 1).getD 0) _) (cwV 0 hts (wGV t_ (mw (.methodLink RX8 90 yX5_top) (List.mem_of_getElem? (i := 7) rfl)) (mw (.instanceMethod yX5_top) (List.mem_of_getElem? (i := 8) rfl)) (mw (.selects RX5 yX5_top yX5_top) (List.mem_of_getElem? (i := 9) rfl)) (mw (.initialized RX5) (List.mem_of_getElem? (i := 10) rfl)) j_Y5_top) rfl rfl rfl (by decide +kernel) ⟨Nat.le_of_ble_eq_true rfl, Nat.le_of_ble_eq_true rfl⟩) (cPV hK hTE hP hD 4 rfl (at_4 hy10.2) ⟨hy10.2, hy11⟩) rfl rfl hl.1 rfl (lv_room (Nat.le_of_ble_eq_true rfl)) dX8_againstFloor_43 ⟨Nat.le_of_ble_eq_true rfl, Nat.le_of_ble_eq_true rfl⟩) hP hD hS hA (fun r13 u12 H locs hv hP hD hS => ?_)
          have h1 := congrArg Prod.fst hv
          have h2 := (congrArg Prod.snd hv).symm
          dsimp only at h1 h2
          subst h1
          subst h2
          refine cAstore_n (ad := ad) (r := (f_Y5_top S ((grC S x0 1).getD 0))) (i := 3) (lv' := [(3, va_re ad (f_Y5_top S ((grC S x0 1).getD 0))), (2, .int (f_Y8_againstAbsent S ((grC S x0 0).getD 0) x1)), (0, .ref (ad x0)), (1, .int x1)]) hx hb dX8_againstFloor_46 rfl hl (by decide) rfl (fun ls_ hl => ?_)
          refine cAload_n (ad := ad) (r := (f_Y5_top S ((grC S x0 1).getD 0))) hx hb dX8_againstFloor_47 rfl (lv_at hl 0 rfl) ?_
          refine cIfnonnull (ad := ad) (r := (f_Y5_top S ((grC S x0 1).getD 0))) (tgt := 53) hx hb dX8_againstFloor_48 (by decide) (fun c14 => ?_) (fun c14 => ?_)
          · rw [if_pos c14] at hE hp
            refine lv_iconst (v := 0) hx hb dX8_againstFloor_51 (by decide) ?_
            subst hQ
            exact W.iret (v := (0 : Int32)) hx hb hr (fun t ht hW => ⟨⟨(0 : Int32), S, rfl, (pair_i (hE.trans hX.symm)), by rw [ht]; exact hP, hD⟩, hS.F ht⟩) hS.2.2 dX8_againstFloor_52
          · rw [if_neg c14] at hE hp
            refine lv_aload_n hx hb dX8_againstFloor_53 rfl (lv_at hl 2 rfl) ?_
            refine va_get (D := G) (ci := 0) (v := va_re ad (grC S x0 0)) (C := RX0) (T := TX0) (N := 11) hx hb hts iX0 hown hK hP x0 (at_0 k_x0) rfl 0 (by decide) (hw (.fieldLink RX8 34 "MotionFloor$Assembly" "house" "LMotionFloor$House;") (List.mem_of_getElem? (i := 0) rfl)) (fun _ h9 => h9) rfl dX8_againstFloor_54 ?_
            obtain ⟨hy15, hp⟩ := hp
            refine cTop (r := (grC S x0 0)) hy15.1 ?_
            refine va_get (D := G) (ci := 1) (v := .int (giC S ((grC S x0 0).getD 0) 5)) (C := RX2) (T := TX2) (N := 8) hx hb hts iX2 hown hK hP ((grC S x0 0).getD 0) (at_1 hy15.2) rfl 5 (by decide) (hw (.fieldLink RX8 120 "MotionFloor$House" "limit" "I") (List.mem_of_getElem? (i := 11) rfl)) (fun _ h9 => h9) rfl dX8_againstFloor_57 ?_
            refine lv_if_eq (tgt := 81) hx hb dX8_againstFloor_60 (by decide) (fun c16 => ?_) (fun c16 => ?_)
            · rw [if_pos c16] at hE hp
              exact B_Y8_againstFloor_81 x1 (f_Y8_againstAbsent S ((grC S x0 0).getD 0) x1) (f_Y5_top S ((grC S x0 1).getD 0)) _ _ _ hE hp hP hD hS (lv_sub hl [2, 3, 1, 0] rfl)
            · rw [if_neg c16] at hE hp
              refine cAload_n (ad := ad) (r := (f_Y5_top S ((grC S x0 1).getD 0))) hx hb dX8_againstFloor_63 rfl (lv_at hl 0 rfl) ?_
              obtain ⟨hy22, hp⟩ := hp
              refine cTop (r := (f_Y5_top S ((grC S x0 1).getD 0))) hy22.1 ?_
              refine va_get (D := G) (ci := 3) (v := .int (giC S ((f_Y5_top S ((grC S x0 1).getD 0)).getD 0) 5)) (C := RX4) (T := TX4) (N := 16) hx hb hts iX4 hown hK hP ((f_Y5_top S ((grC S x0 1).getD 0)).getD 0) (at_3 hy22.2) rfl 5 (by decide) (hw (.fieldLink RX8 123 "MotionFloor$Motion" "floors" "I") (List.mem_of_getElem? (i := 14) rfl)) (fun _ h9 => h9) rfl dX8_againstFloor_64 ?_
              refine lv_aload_n hx hb dX8_againstFloor_67 rfl (lv_at hl 2 rfl) ?_
              refine va_get (D := G) (ci := 0) (v := va_re ad (grC S x0 0)) (C := RX0) (T := TX0) (N := 11) hx hb hts iX0 hown hK hP x0 (at_0 k_x0) rfl 0 (by decide) (hw (.fieldLink RX8 34 "MotionFloor$Assembly" "house" "LMotionFloor$House;") (List.mem_of_getElem? (i := 0) rfl)) (fun _ h9 => h9) rfl dX8_againstFloor_68 ?_
              obtain ⟨hy23, hp⟩ := hp
              refine cTop (r := (grC S x0 0)) hy23.1 ?_
              refine va_get (D := G) (ci := 1) (v := .int (giC S ((grC S x0 0).getD 0) 5)) (C := RX2) (T := TX2) (N := 8) hx hb hts iX2 hown hK hP ((grC S x0 0).getD 0) (at_1 hy23.2) rfl 5 (by decide) (hw (.fieldLink RX8 120 "MotionFloor$House" "limit" "I") (List.mem_of_getElem? (i := 11) rfl)) (fun _ h9 => h9) rfl dX8_againstFloor_71 ?_
              refine lv_icmp_lt (tgt := 81) hx hb dX8_againstFloor_74 (by decide) (fun c24 => ?_) (fun c24 => ?_)
              · rw [if_pos c24] at hE hp
                exact B_Y8_againstFloor_81 x1 (f_Y8_againstAbsent S ((grC S x0 0).getD 0) x1) (f_Y5_top S ((grC S x0 1).getD 0)) _ _ _ hE hp hP hD hS (lv_sub hl [2, 3, 1, 0] rfl)
              · rw [if_neg c24] at hE hp
                refine lv_iconst (v := 1) hx hb dX8_againstFloor_77 (by decide) ?_
                refine lv_goto (tgt := 82) hx hb dX8_againstFloor_78 (by decide) ?_
                exact B_Y8_againstFloor_82 x1 (f_Y8_againstAbsent S ((grC S x0 0).getD 0) x1) (f_Y5_top S ((grC S x0 1).getD 0)) 1 _ _ _ hE hp hP hD hS (lv_sub hl [2, 3, 1, 0] rfl)
        · rw [if_neg c9] at hE hp
          exact B_Y8_againstFloor_37 x1 (f_Y8_againstAbsent S ((grC S x0 0).getD 0) x1) _ _ _ hE hp hP hD hS (lv_sub hl [1, 2, 0] rfl)
    · rw [if_neg c5] at hE hp
      refine lv_iload_n hx hb dX8_againstFloor_13 rfl (lv_at hl 0 rfl) ?_
      subst hQ
      exact W.iret (v := (f_Y8_againstAbsent S ((grC S x0 0).getD 0) x1)) hx hb hr (fun t ht hW => ⟨⟨(f_Y8_againstAbsent S ((grC S x0 0).getD 0) x1), S, rfl, (pair_i (hE.trans hX.symm)), by rw [ht]; exact hP, hD⟩, hS.F ht⟩) hS.2.2 dX8_againstFloor_14
  exact B_M a1 _ _ _ hX hp hP hD hS hl
theorem gdX8_againstDebate_0 : ckS (List.drop 0 cX8_againstDebate.data.toList) 0 [(0, .aload_n 0, 1), (1, .getfield 86, 3), (4, .invokevirtual 90, 3), (7, .astore_n 2, 1), (8, .aload_n 2, 1), (9, .ifnonnull 6, 3), (12, .bipush 7, 2), (14, .ireturn, 1), (15, .aload_n 0, 1), (16, .getfield 34, 3), (19, .iload_n 1, 1), (20, .invokevirtual 135, 3), (23, .ifCond .ne 5, 3), (26, .iconst 2, 1), (27, .ireturn, 1), (28, .aload_n 2, 1), (29, .getfield 138, 3), (32, .iconst (-1), 1), (33, .if_icmp .ne 5, 3), (36, .iconst 3, 1), (37, .ireturn, 1), (38, .aload_n 2, 1), (39, .getfield 128, 3), (42, .bipush 6, 2), (44, .if_icmp .eq 21, 3), (47, .aload_n 2, 1), (48, .getfield 128, 3), (51, .bipush 7, 2), (53, .if_icmp .eq 12, 3), (56, .aload_n 2, 1), (57, .getfield 128, 3), (60, .bipush 8, 2), (62, .if_icmp .ne 8, 3), (65, .bipush 6, 2), (67, .goto 4, 3), (70, .iconst 0, 1), (71, .ireturn, 1)] = true := by decide +kernel
theorem dX8_againstDebate_0 : decode cX8_againstDebate 0 = .ok (.aload_n 0, 1) := ckS_g gdX8_againstDebate_0 0 rfl
theorem dX8_againstDebate_1 : decode cX8_againstDebate 1 = .ok (.getfield 86, 3) := ckS_g gdX8_againstDebate_0 1 rfl
theorem dX8_againstDebate_4 : decode cX8_againstDebate 4 = .ok (.invokevirtual 90, 3) := ckS_g gdX8_againstDebate_0 2 rfl
theorem dX8_againstDebate_7 : decode cX8_againstDebate 7 = .ok (.astore_n 2, 1) := ckS_g gdX8_againstDebate_0 3 rfl
theorem dX8_againstDebate_8 : decode cX8_againstDebate 8 = .ok (.aload_n 2, 1) := ckS_g gdX8_againstDebate_0 4 rfl
theorem dX8_againstDebate_9 : decode cX8_againstDebate 9 = .ok (.ifnonnull 6, 3) := ckS_g gdX8_againstDebate_0 5 rfl
theorem dX8_againstDebate_12 : decode cX8_againstDebate 12 = .ok (.bipush 7, 2) := ckS_g gdX8_againstDebate_0 6 rfl
theorem dX8_againstDebate_14 : decode cX8_againstDebate 14 = .ok (.ireturn, 1) := ckS_g gdX8_againstDebate_0 7 rfl
theorem dX8_againstDebate_15 : decode cX8_againstDebate 15 = .ok (.aload_n 0, 1) := ckS_g gdX8_againstDebate_0 8 rfl
theorem dX8_againstDebate_16 : decode cX8_againstDebate 16 = .ok (.getfield 34, 3) := ckS_g gdX8_againstDebate_0 9 rfl
theorem dX8_againstDebate_19 : decode cX8_againstDebate 19 = .ok (.iload_n 1, 1) := ckS_g gdX8_againstDebate_0 10 rfl
theorem dX8_againstDebate_20 : decode cX8_againstDebate 20 = .ok (.invokevirtual 135, 3) := ckS_g gdX8_againstDebate_0 11 rfl
theorem dX8_againstDebate_23 : decode cX8_againstDebate 23 = .ok (.ifCond .ne 5, 3) := ckS_g gdX8_againstDebate_0 12 rfl
theorem dX8_againstDebate_26 : decode cX8_againstDebate 26 = .ok (.iconst 2, 1) := ckS_g gdX8_againstDebate_0 13 rfl
theorem dX8_againstDebate_27 : decode cX8_againstDebate 27 = .ok (.ireturn, 1) := ckS_g gdX8_againstDebate_0 14 rfl
theorem dX8_againstDebate_28 : decode cX8_againstDebate 28 = .ok (.aload_n 2, 1) := ckS_g gdX8_againstDebate_0 15 rfl
theorem dX8_againstDebate_29 : decode cX8_againstDebate 29 = .ok (.getfield 138, 3) := ckS_g gdX8_againstDebate_0 16 rfl
theorem dX8_againstDebate_32 : decode cX8_againstDebate 32 = .ok (.iconst (-1), 1) := ckS_g gdX8_againstDebate_0 17 rfl
theorem dX8_againstDebate_33 : decode cX8_againstDebate 33 = .ok (.if_icmp .ne 5, 3) := ckS_g gdX8_againstDebate_0 18 rfl
theorem dX8_againstDebate_36 : decode cX8_againstDebate 36 = .ok (.iconst 3, 1) := ckS_g gdX8_againstDebate_0 19 rfl
theorem dX8_againstDebate_37 : decode cX8_againstDebate 37 = .ok (.ireturn, 1) := ckS_g gdX8_againstDebate_0 20 rfl
theorem dX8_againstDebate_38 : decode cX8_againstDebate 38 = .ok (.aload_n 2, 1) := ckS_g gdX8_againstDebate_0 21 rfl
theorem dX8_againstDebate_39 : decode cX8_againstDebate 39 = .ok (.getfield 128, 3) := ckS_g gdX8_againstDebate_0 22 rfl
theorem dX8_againstDebate_42 : decode cX8_againstDebate 42 = .ok (.bipush 6, 2) := ckS_g gdX8_againstDebate_0 23 rfl
theorem dX8_againstDebate_44 : decode cX8_againstDebate 44 = .ok (.if_icmp .eq 21, 3) := ckS_g gdX8_againstDebate_0 24 rfl
theorem dX8_againstDebate_47 : decode cX8_againstDebate 47 = .ok (.aload_n 2, 1) := ckS_g gdX8_againstDebate_0 25 rfl
theorem dX8_againstDebate_48 : decode cX8_againstDebate 48 = .ok (.getfield 128, 3) := ckS_g gdX8_againstDebate_0 26 rfl
theorem dX8_againstDebate_51 : decode cX8_againstDebate 51 = .ok (.bipush 7, 2) := ckS_g gdX8_againstDebate_0 27 rfl
theorem dX8_againstDebate_53 : decode cX8_againstDebate 53 = .ok (.if_icmp .eq 12, 3) := ckS_g gdX8_againstDebate_0 28 rfl
theorem dX8_againstDebate_56 : decode cX8_againstDebate 56 = .ok (.aload_n 2, 1) := ckS_g gdX8_againstDebate_0 29 rfl
theorem dX8_againstDebate_57 : decode cX8_againstDebate 57 = .ok (.getfield 128, 3) := ckS_g gdX8_againstDebate_0 30 rfl
theorem dX8_againstDebate_60 : decode cX8_againstDebate 60 = .ok (.bipush 8, 2) := ckS_g gdX8_againstDebate_0 31 rfl
theorem dX8_againstDebate_62 : decode cX8_againstDebate 62 = .ok (.if_icmp .ne 8, 3) := ckS_g gdX8_againstDebate_0 32 rfl
theorem dX8_againstDebate_65 : decode cX8_againstDebate 65 = .ok (.bipush 6, 2) := ckS_g gdX8_againstDebate_0 33 rfl
theorem dX8_againstDebate_67 : decode cX8_againstDebate 67 = .ok (.goto 4, 3) := ckS_g gdX8_againstDebate_0 34 rfl
theorem dX8_againstDebate_70 : decode cX8_againstDebate 70 = .ok (.iconst 0, 1) := ckS_g gdX8_againstDebate_0 35 rfl
theorem dX8_againstDebate_71 : decode cX8_againstDebate 71 = .ok (.ireturn, 1) := ckS_g gdX8_againstDebate_0 36 rfl
theorem gdX8_againstOnFloor_156 : ckS (List.drop 156 cX8_againstOnFloor.data.toList) 156 [(156, .ireturn, 1), (157, .aload_n 0, 1), (158, .getfield 34, 3), (161, .getfield 53, 3), (164, .iconst (-1), 1), (165, .if_icmp .ne 7, 3), (168, .iconst 2, 1), (169, .goto 4, 3), (172, .iconst 0, 1), (173, .ireturn, 1), (174, .aload_n 0, 1), (175, .iload_n 2, 1), (176, .invokestatic 59, 3)] = true := by decide +kernel
theorem dX8_againstOnFloor_156 : decode cX8_againstOnFloor 156 = .ok (.ireturn, 1) := ckS_g gdX8_againstOnFloor_156 0 rfl
theorem dX8_againstOnFloor_157 : decode cX8_againstOnFloor 157 = .ok (.aload_n 0, 1) := ckS_g gdX8_againstOnFloor_156 1 rfl
theorem dX8_againstOnFloor_158 : decode cX8_againstOnFloor 158 = .ok (.getfield 34, 3) := ckS_g gdX8_againstOnFloor_156 2 rfl
theorem dX8_againstOnFloor_161 : decode cX8_againstOnFloor 161 = .ok (.getfield 53, 3) := ckS_g gdX8_againstOnFloor_156 3 rfl
theorem dX8_againstOnFloor_164 : decode cX8_againstOnFloor 164 = .ok (.iconst (-1), 1) := ckS_g gdX8_againstOnFloor_156 4 rfl
theorem dX8_againstOnFloor_165 : decode cX8_againstOnFloor 165 = .ok (.if_icmp .ne 7, 3) := ckS_g gdX8_againstOnFloor_156 5 rfl
theorem dX8_againstOnFloor_168 : decode cX8_againstOnFloor 168 = .ok (.iconst 2, 1) := ckS_g gdX8_againstOnFloor_156 6 rfl
theorem dX8_againstOnFloor_169 : decode cX8_againstOnFloor 169 = .ok (.goto 4, 3) := ckS_g gdX8_againstOnFloor_156 7 rfl
theorem dX8_againstOnFloor_172 : decode cX8_againstOnFloor 172 = .ok (.iconst 0, 1) := ckS_g gdX8_againstOnFloor_156 8 rfl
theorem dX8_againstOnFloor_173 : decode cX8_againstOnFloor 173 = .ok (.ireturn, 1) := ckS_g gdX8_againstOnFloor_156 9 rfl
theorem dX8_againstOnFloor_174 : decode cX8_againstOnFloor 174 = .ok (.aload_n 0, 1) := ckS_g gdX8_againstOnFloor_156 10 rfl
theorem dX8_againstOnFloor_175 : decode cX8_againstOnFloor 175 = .ok (.iload_n 2, 1) := ckS_g gdX8_againstOnFloor_156 11 rfl
theorem dX8_againstOnFloor_176 : decode cX8_againstOnFloor 176 = .ok (.invokestatic 59, 3) := ckS_g gdX8_againstOnFloor_156 12 rfl
set_option maxRecDepth 100000 in
theorem zc466 : wZ (.code yX8_againstDebate cX8_againstDebate 3 (some .int)) := ⟨wT2 (List.mem_of_getElem? (i := 85) rfl), Or.inl rfl⟩
def b_Y8_againstDebate_71 (S : Cst) (x0 : Nat) (x1 : Int32) (x2 : Option Nat) (y0 : Int32) : Int32 := y0
def q_Y8_againstDebate_71 (S : Cst) (x0 : Nat) (x1 : Int32) (x2 : Option Nat) (y0 : Int32) : Prop := True
def b_Y8_againstDebate_65 (S : Cst) (x0 : Nat) (x1 : Int32) (x2 : Option Nat) : Int32 := (b_Y8_againstDebate_71 S x0 x1 x2 6)
def q_Y8_againstDebate_65 (S : Cst) (x0 : Nat) (x1 : Int32) (x2 : Option Nat) : Prop := (q_Y8_againstDebate_71 S x0 x1 x2 6)
def f_Y8_againstDebate (S : Cst) (x0 : Nat) (x1 : Int32) : Int32 := if (f_Y5_top S ((grC S x0 1).getD 0)) = none then (7 : Int32) else if (f_Y2_hasFloor S ((grC S x0 0).getD 0) x1) = 0 then (2 : Int32) else if (giC S ((f_Y5_top S ((grC S x0 1).getD 0)).getD 0) 4) = (-1) then (3 : Int32) else if (giC S ((f_Y5_top S ((grC S x0 1).getD 0)).getD 0) 2) = 6 then (b_Y8_againstDebate_65 S x0 x1 (f_Y5_top S ((grC S x0 1).getD 0))) else if (giC S ((f_Y5_top S ((grC S x0 1).getD 0)).getD 0) 2) = 7 then (b_Y8_againstDebate_65 S x0 x1 (f_Y5_top S ((grC S x0 1).getD 0))) else if (giC S ((f_Y5_top S ((grC S x0 1).getD 0)).getD 0) 2) = 8 then (b_Y8_againstDebate_65 S x0 x1 (f_Y5_top S ((grC S x0 1).getD 0))) else (b_Y8_againstDebate_71 S x0 x1 (f_Y5_top S ((grC S x0 1).getD 0)) 0)
def p_Y8_againstDebate (S : Cst) (x0 : Nat) (x1 : Int32) : Prop := (iR S (grC S x0 1) 4) ∧ (p_Y5_top S ((grC S x0 1).getD 0)) ∧ (if (f_Y5_top S ((grC S x0 1).getD 0)) = none then True else (iR S (grC S x0 0) 1) ∧ (p_Y2_hasFloor S ((grC S x0 0).getD 0) x1) ∧ (if (f_Y2_hasFloor S ((grC S x0 0).getD 0) x1) = 0 then True else (iR S (f_Y5_top S ((grC S x0 1).getD 0)) 3) ∧ (if (giC S ((f_Y5_top S ((grC S x0 1).getD 0)).getD 0) 4) = (-1) then True else (iR S (f_Y5_top S ((grC S x0 1).getD 0)) 3) ∧ (if (giC S ((f_Y5_top S ((grC S x0 1).getD 0)).getD 0) 2) = 6 then (q_Y8_againstDebate_65 S x0 x1 (f_Y5_top S ((grC S x0 1).getD 0))) else (iR S (f_Y5_top S ((grC S x0 1).getD 0)) 3) ∧ (if (giC S ((f_Y5_top S ((grC S x0 1).getD 0)).getD 0) 2) = 7 then (q_Y8_againstDebate_65 S x0 x1 (f_Y5_top S ((grC S x0 1).getD 0))) else (iR S (f_Y5_top S ((grC S x0 1).getD 0)) 3) ∧ (if (giC S ((f_Y5_top S ((grC S x0 1).getD 0)).getD 0) 2) = 8 then (q_Y8_againstDebate_65 S x0 x1 (f_Y5_top S ((grC S x0 1).getD 0))) else (q_Y8_againstDebate_71 S x0 x1 (f_Y5_top S ((grC S x0 1).getD 0)) 0)))))))
def e_Y8_againstDebate : List Cond := [.fieldLink RX8 86 "MotionFloor$Assembly" "pending" "LMotionFloor$Pile;", .methodLink RX8 90 yX5_top, .instanceMethod yX5_top, .selects RX5 yX5_top yX5_top, .initialized RX5, .fieldLink RX8 34 "MotionFloor$Assembly" "house" "LMotionFloor$House;", .methodLink RX8 135 yX2_hasFloor, .instanceMethod yX2_hasFloor, .selects RX2 yX2_hasFloor yX2_hasFloor, .initialized RX2, .fieldLink RX8 138 "MotionFloor$Motion" "seconder" "I", .fieldLink RX8 128 "MotionFloor$Motion" "kind" "I"]
def v_Y8_againstDebate : List Cond := .code yX8_againstDebate cX8_againstDebate 3 (some .int) :: (e_Y8_againstDebate ++ (wsX00 ++ (wsX40 ++ (v_Y5_top ++ (v_Y2_hasFloor ++ [])))))
theorem te_Y8_againstDebate : GoodIn lw_tbl e_Y8_againstDebate := wGc zc380 (wGc zc421 (wGc zc179 (wGc zc178 (wGc zc34 (wGc zc418 (wGc zc417 (wGc zc219 (wGc zc218 (wGc zc77 (wGc zc372 (wGc zc371 (wG0))))))))))))
theorem t_Y8_againstDebate : GoodIn lw_tbl v_Y8_againstDebate := wGc zc466 (wGa te_Y8_againstDebate (wGa zcX0 (wGa zcX4 (wGa t_Y5_top (wGa t_Y2_hasFloor (wG0))))))
set_option maxHeartbeats 4000000 in
set_option maxRecDepth 100000 in
theorem c_Y8_againstDebate (l : Launch) (G : va_G) (K : Nat → ClassId) (ad : Nat → Nat) (S : Cst) (x0 : Nat) (a1 : Int32) (sz : Nat) : Met l yX8_againstDebate v_Y8_againstDebate ({ frames := 2, cells := 0, slots := 0, locals := 41 }) (va_Pc [.ref (ad x0), .int a1] (cSt G K ad sz S (iK S x0 0 ∧ p_Y8_againstDebate S x0 a1))) (va_Qi (fun (r : Int32) (u : Cst) => (r, u) = (f_Y8_againstDebate S x0 a1, S)) (cBt G K ad (va_A (wsC K ad S) sz)) (va_A (wsC K ad S) sz)) 0 0 (va_A (wsC K ad S) sz) := by
  refine Met.ofW (cc := cX8_againstDebate) (maxL := 3) (ret := (some .int)) (by decide) rfl ?_
  intro p e s m args below meth c s₁ B hml hv
  obtain ⟨rfl, ⟨hsz, hP, hK, hD0, hTE⟩, hp⟩ := hv
  obtain ⟨k_x0, hp⟩ := hp
  have hx := B.exec
  have hb := B.bytes
  have hr := B.returns
  have hts := atoms_spec (ws := v_Y8_againstDebate) B.pre
  have t_ := t_Y8_againstDebate
  have mw : ∀ w ∈ e_Y8_againstDebate, w ∈ v_Y8_againstDebate := fun w h => List.mem_cons_of_mem _ (List.mem_append_left _ h)
  have hw := fun w (h : w ∈ e_Y8_againstDebate) => hts w (mw w h)
  have iX0 : ∀ w ∈ wsX00, w ∈ v_Y8_againstDebate := fun w h => List.mem_cons_of_mem _ (List.mem_append_right _ (List.mem_append_left _ h))
  have iX4 : ∀ w ∈ wsX40, w ∈ v_Y8_againstDebate := fun w h => List.mem_cons_of_mem _ (List.mem_append_right _ (List.mem_append_right _ (List.mem_append_left _ h)))
  have j_Y5_top : ∀ w ∈ v_Y5_top, w ∈ v_Y8_againstDebate := fun w h => List.mem_cons_of_mem _ (List.mem_append_right _ (List.mem_append_right _ (List.mem_append_right _ (List.mem_append_left _ h))))
  have j_Y2_hasFloor : ∀ w ∈ v_Y2_hasFloor, w ∈ v_Y8_againstDebate := fun w h => List.mem_cons_of_mem _ (List.mem_append_right _ (List.mem_append_right _ (List.mem_append_right _ (List.mem_append_right _ (List.mem_append_left _ h)))))
  have hown : s.vm.findClass RX8 = some m.cls := findClass_of_methodNamed B.named
  have hlocks := B.notSynchronized
  subst hsz
  have hD := hD0.self (sz := s.heap.size)
  generalize hAe : va_A (wsC K ad S) s.heap.size = A at hD ⊢
  have hA : ∀ q : Nat, s.heap.size ≤ q → A q := fun q h => by rw [← hAe]; exact Or.inr h
  have hS : va_S A s.heap s.heap [] := va_S.rf
  have hl : lv_has (lg_sl ([.ref (ad x0), .int a1]) ++ List.replicate (3 - (lg_sl ([.ref (ad x0), .int a1])).length) Slot.unset).toArray 3 [(0, .ref (ad x0)), (1, .int a1)] := by
    exact lv_entry ([.ref (ad x0), .int a1]) (n := 3) (Nat.le_of_ble_eq_true rfl)
  rw [lg_entry_eq]
  generalize (lg_sl ([.ref (ad x0), .int a1]) ++ List.replicate (3 - (lg_sl ([.ref (ad x0), .int a1])).length) Slot.unset).toArray = ls_ at hl ⊢
  refine wGen (fun Q hQ => ?_)
  obtain ⟨X, hX⟩ : ∃ X, f_Y8_againstDebate S x0 a1 = X := ⟨_, rfl⟩
  have B_Y8_againstDebate_71 : ∀ (x1 : Int32) (x2 : Option Nat) (y0 : Int32) (H : Heap) (locs : List Loc) (ls_ : Array Slot), b_Y8_againstDebate_71 S x0 x1 x2 y0 = X → q_Y8_againstDebate_71 S x0 x1 x2 y0 → va_P G vwCl (wsC K ad S) H → va_D A (wsC K ad S) → va_S A s.heap H locs → lv_has ls_ 3 [(0, .ref (ad x0)), (1, .int x1), (2, va_re ad x2)] → W p l e ({ frames := 2, cells := 0, slots := 0, locals := 41 } : Room) s m #[Value.ref (ad x0), Value.int a1] below meth c H locs 0 0 Q (F0 m 71 ls_ [.int y0]) := by
    intro x1 x2 y0 H locs ls_ hE hp hP hD hS hl
    unfold b_Y8_againstDebate_71 at hE
    unfold q_Y8_againstDebate_71 at hp
    subst hQ
    exact W.iret (v := y0) hx hb hr (fun t ht hW => ⟨⟨y0, S, rfl, (pair_i (hE.trans hX.symm)), by rw [ht]; exact hP, hD⟩, hS.F ht⟩) hS.2.2 dX8_againstDebate_71
  have B_Y8_againstDebate_65 : ∀ (x1 : Int32) (x2 : Option Nat) (H : Heap) (locs : List Loc) (ls_ : Array Slot), b_Y8_againstDebate_65 S x0 x1 x2 = X → q_Y8_againstDebate_65 S x0 x1 x2 → va_P G vwCl (wsC K ad S) H → va_D A (wsC K ad S) → va_S A s.heap H locs → lv_has ls_ 3 [(0, .ref (ad x0)), (1, .int x1), (2, va_re ad x2)] → W p l e ({ frames := 2, cells := 0, slots := 0, locals := 41 } : Room) s m #[Value.ref (ad x0), Value.int a1] below meth c H locs 0 0 Q (F0 m 65 ls_ []) := by
    intro x1 x2 H locs ls_ hE hp hP hD hS hl
    unfold b_Y8_againstDebate_65 at hE
    unfold q_Y8_againstDebate_65 at hp
    refine lv_bipush (v := 6) hx hb dX8_againstDebate_65 (by decide) ?_
    refine lv_goto (tgt := 71) hx hb dX8_againstDebate_67 (by decide) ?_
    exact B_Y8_againstDebate_71 x1 x2 6 _ _ _ hE hp hP hD hS (lv_sub hl [0, 1, 2] rfl)
  have B_M : ∀ (x1 : Int32) (H : Heap) (locs : List Loc) (ls_ : Array Slot), f_Y8_againstDebate S x0 x1 = X → p_Y8_againstDebate S x0 x1 → va_P G vwCl (wsC K ad S) H → va_D A (wsC K ad S) → va_S A s.heap H locs → lv_has ls_ 3 [(0, .ref (ad x0)), (1, .int x1)] → W p l e ({ frames := 2, cells := 0, slots := 0, locals := 41 } : Room) s m #[Value.ref (ad x0), Value.int a1] below meth c H locs 0 0 Q (F0 m 0 ls_ []) := by
    intro x1 H locs ls_ hE hp hP hD hS hl
    unfold f_Y8_againstDebate at hE
    unfold p_Y8_againstDebate at hp
    refine lv_aload_n hx hb dX8_againstDebate_0 rfl (lv_at hl 0 rfl) ?_
    refine va_get (D := G) (ci := 0) (v := va_re ad (grC S x0 1)) (C := RX0) (T := TX0) (N := 11) hx hb hts iX0 hown hK hP x0 (at_0 k_x0) rfl 1 (by decide) (hw (.fieldLink RX8 86 "MotionFloor$Assembly" "pending" "LMotionFloor$Pile;") (List.mem_of_getElem? (i := 0) rfl)) (fun _ h9 => h9) rfl dX8_againstDebate_1 ?_
    obtain ⟨hy1, hp⟩ := hp
    refine cTop (r := (grC S x0 1)) hy1.1 ?_
    obtain ⟨hy2, hp⟩ := hp
    refine cGoq (va_runV (As := []) (rest := []) ⟨hx, hb, hml, hown, hts⟩ (c_Y5_top l G K ad S ((grC S x0 1).getD 0) _) (cwV 0 hts (wGV t_ (mw (.methodLink RX8 90 yX5_top) (List.mem_of_getElem? (i := 1) rfl)) (mw (.instanceMethod yX5_top) (List.mem_of_getElem? (i := 2) rfl)) (mw (.selects RX5 yX5_top yX5_top) (List.mem_of_getElem? (i := 3) rfl)) (mw (.initialized RX5) (List.mem_of_getElem? (i := 4) rfl)) j_Y5_top) rfl rfl rfl (by decide +kernel) ⟨Nat.le_of_ble_eq_true rfl, Nat.le_of_ble_eq_true rfl⟩) (cPV hK hTE hP hD 4 rfl (at_4 hy1.2) ⟨hy1.2, hy2⟩) rfl rfl hl.1 rfl (lv_room (Nat.le_of_ble_eq_true rfl)) dX8_againstDebate_4 ⟨Nat.le_of_ble_eq_true rfl, Nat.le_of_ble_eq_true rfl⟩) hP hD hS hA (fun r4 u3 H locs hv hP hD hS => ?_)
    have h1 := congrArg Prod.fst hv
    have h2 := (congrArg Prod.snd hv).symm
    dsimp only at h1 h2
    subst h1
    subst h2
    refine cAstore_n (ad := ad) (r := (f_Y5_top S ((grC S x0 1).getD 0))) (i := 2) (lv' := [(2, va_re ad (f_Y5_top S ((grC S x0 1).getD 0))), (0, .ref (ad x0)), (1, .int x1)]) hx hb dX8_againstDebate_7 rfl hl (by decide) rfl (fun ls_ hl => ?_)
    refine cAload_n (ad := ad) (r := (f_Y5_top S ((grC S x0 1).getD 0))) hx hb dX8_againstDebate_8 rfl (lv_at hl 0 rfl) ?_
    refine cIfnonnull (ad := ad) (r := (f_Y5_top S ((grC S x0 1).getD 0))) (tgt := 15) hx hb dX8_againstDebate_9 (by decide) (fun c5 => ?_) (fun c5 => ?_)
    · rw [if_pos c5] at hE hp
      refine lv_bipush (v := 7) hx hb dX8_againstDebate_12 (by decide) ?_
      subst hQ
      exact W.iret (v := (7 : Int32)) hx hb hr (fun t ht hW => ⟨⟨(7 : Int32), S, rfl, (pair_i (hE.trans hX.symm)), by rw [ht]; exact hP, hD⟩, hS.F ht⟩) hS.2.2 dX8_againstDebate_14
    · rw [if_neg c5] at hE hp
      refine lv_aload_n hx hb dX8_againstDebate_15 rfl (lv_at hl 1 rfl) ?_
      refine va_get (D := G) (ci := 0) (v := va_re ad (grC S x0 0)) (C := RX0) (T := TX0) (N := 11) hx hb hts iX0 hown hK hP x0 (at_0 k_x0) rfl 0 (by decide) (hw (.fieldLink RX8 34 "MotionFloor$Assembly" "house" "LMotionFloor$House;") (List.mem_of_getElem? (i := 5) rfl)) (fun _ h9 => h9) rfl dX8_againstDebate_16 ?_
      refine lv_iload_n hx hb dX8_againstDebate_19 rfl (lv_at hl 2 rfl) ?_
      obtain ⟨hy6, hp⟩ := hp
      refine cTop2 (r := (grC S x0 0)) hy6.1 ?_
      obtain ⟨hy7, hp⟩ := hp
      refine cGoi (va_runV (As := [.int x1]) (rest := []) ⟨hx, hb, hml, hown, hts⟩ (c_Y2_hasFloor l G K ad S ((grC S x0 0).getD 0) x1 _) (cwV 1 hts (wGV t_ (mw (.methodLink RX8 135 yX2_hasFloor) (List.mem_of_getElem? (i := 6) rfl)) (mw (.instanceMethod yX2_hasFloor) (List.mem_of_getElem? (i := 7) rfl)) (mw (.selects RX2 yX2_hasFloor yX2_hasFloor) (List.mem_of_getElem? (i := 8) rfl)) (mw (.initialized RX2) (List.mem_of_getElem? (i := 9) rfl)) j_Y2_hasFloor) rfl rfl rfl (by decide +kernel) ⟨Nat.le_of_ble_eq_true rfl, Nat.le_of_ble_eq_true rfl⟩) (cPV hK hTE hP hD 1 rfl (at_1 hy6.2) ⟨hy6.2, hy7⟩) rfl rfl hl.1 rfl (lv_room (Nat.le_of_ble_eq_true rfl)) dX8_againstDebate_20 ⟨Nat.le_of_ble_eq_true rfl, Nat.le_of_ble_eq_true rfl⟩) hP hD hS hA (fun r9 u8 H locs hv hP hD hS => ?_)
      have h1 := congrArg Prod.fst hv
      have h2 := (congrArg Prod.snd hv).symm
      dsimp only at h1 h2
      subst h1
      subst h2
      refine lv_if_ne (tgt := 28) hx hb dX8_againstDebate_23 (by decide) (fun c10 => ?_) (fun c10 => ?_)
      · rw [if_neg c10] at hE hp
        refine cAload_n (ad := ad) (r := (f_Y5_top S ((grC S x0 1).getD 0))) hx hb dX8_againstDebate_28 rfl (lv_at hl 0 rfl) ?_
        obtain ⟨hy11, hp⟩ := hp
        refine cTop (r := (f_Y5_top S ((grC S x0 1).getD 0))) hy11.1 ?_
        refine va_get (D := G) (ci := 3) (v := .int (giC S ((f_Y5_top S ((grC S x0 1).getD 0)).getD 0) 4)) (C := RX4) (T := TX4) (N := 16) hx hb hts iX4 hown hK hP ((f_Y5_top S ((grC S x0 1).getD 0)).getD 0) (at_3 hy11.2) rfl 4 (by decide) (hw (.fieldLink RX8 138 "MotionFloor$Motion" "seconder" "I") (List.mem_of_getElem? (i := 10) rfl)) (fun _ h9 => h9) rfl dX8_againstDebate_29 ?_
        refine lv_iconst (v := (-1)) hx hb dX8_againstDebate_32 (by decide) ?_
        refine lv_icmp_ne (tgt := 38) hx hb dX8_againstDebate_33 (by decide) (fun c12 => ?_) (fun c12 => ?_)
        · rw [if_neg c12] at hE hp
          refine cAload_n (ad := ad) (r := (f_Y5_top S ((grC S x0 1).getD 0))) hx hb dX8_againstDebate_38 rfl (lv_at hl 0 rfl) ?_
          obtain ⟨hy13, hp⟩ := hp
          refine cTop (r := (f_Y5_top S ((grC S x0 1).getD 0))) hy13.1 ?_
          refine va_get (D := G) (ci := 3) (v := .int (giC S ((f_Y5_top S ((grC S x0 1).getD 0)).getD 0) 2)) (C := RX4) (T := TX4) (N := 16) hx hb hts iX4 hown hK hP ((f_Y5_top S ((grC S x0 1).getD 0)).getD 0) (at_3 hy13.2) rfl 2 (by decide) (hw (.fieldLink RX8 128 "MotionFloor$Motion" "kind" "I") (List.mem_of_getElem? (i := 11) rfl)) (fun _ h9 => h9) rfl dX8_againstDebate_39 ?_
          refine lv_bipush (v := 6) hx hb dX8_againstDebate_42 (by decide) ?_
          refine lv_icmp_eq (tgt := 65) hx hb dX8_againstDebate_44 (by decide) (fun c14 => ?_) (fun c14 => ?_)
          · rw [if_pos c14] at hE hp
            exact B_Y8_againstDebate_65 x1 (f_Y5_top S ((grC S x0 1).getD 0)) _ _ _ hE hp hP hD hS (lv_sub hl [1, 2, 0] rfl)
          · rw [if_neg c14] at hE hp
            refine cAload_n (ad := ad) (r := (f_Y5_top S ((grC S x0 1).getD 0))) hx hb dX8_againstDebate_47 rfl (lv_at hl 0 rfl) ?_
            obtain ⟨hy15, hp⟩ := hp
            refine cTop (r := (f_Y5_top S ((grC S x0 1).getD 0))) hy15.1 ?_
            refine va_get (D := G) (ci := 3) (v := .int (giC S ((f_Y5_top S ((grC S x0 1).getD 0)).getD 0) 2)) (C := RX4) (T := TX4) (N := 16) hx hb hts iX4 hown hK hP ((f_Y5_top S ((grC S x0 1).getD 0)).getD 0) (at_3 hy15.2) rfl 2 (by decide) (hw (.fieldLink RX8 128 "MotionFloor$Motion" "kind" "I") (List.mem_of_getElem? (i := 11) rfl)) (fun _ h9 => h9) rfl dX8_againstDebate_48 ?_
            refine lv_bipush (v := 7) hx hb dX8_againstDebate_51 (by decide) ?_
            refine lv_icmp_eq (tgt := 65) hx hb dX8_againstDebate_53 (by decide) (fun c16 => ?_) (fun c16 => ?_)
            · rw [if_pos c16] at hE hp
              exact B_Y8_againstDebate_65 x1 (f_Y5_top S ((grC S x0 1).getD 0)) _ _ _ hE hp hP hD hS (lv_sub hl [1, 2, 0] rfl)
            · rw [if_neg c16] at hE hp
              refine cAload_n (ad := ad) (r := (f_Y5_top S ((grC S x0 1).getD 0))) hx hb dX8_againstDebate_56 rfl (lv_at hl 0 rfl) ?_
              obtain ⟨hy17, hp⟩ := hp
              refine cTop (r := (f_Y5_top S ((grC S x0 1).getD 0))) hy17.1 ?_
              refine va_get (D := G) (ci := 3) (v := .int (giC S ((f_Y5_top S ((grC S x0 1).getD 0)).getD 0) 2)) (C := RX4) (T := TX4) (N := 16) hx hb hts iX4 hown hK hP ((f_Y5_top S ((grC S x0 1).getD 0)).getD 0) (at_3 hy17.2) rfl 2 (by decide) (hw (.fieldLink RX8 128 "MotionFloor$Motion" "kind" "I") (List.mem_of_getElem? (i := 11) rfl)) (fun _ h9 => h9) rfl dX8_againstDebate_57 ?_
              refine lv_bipush (v := 8) hx hb dX8_againstDebate_60 (by decide) ?_
              refine lv_icmp_ne (tgt := 70) hx hb dX8_againstDebate_62 (by decide) (fun c18 => ?_) (fun c18 => ?_)
              · rw [if_neg c18] at hE hp
                refine lv_iconst (v := 0) hx hb dX8_againstDebate_70 (by decide) ?_
                exact B_Y8_againstDebate_71 x1 (f_Y5_top S ((grC S x0 1).getD 0)) 0 _ _ _ hE hp hP hD hS (lv_sub hl [1, 2, 0] rfl)
              · rw [if_pos c18] at hE hp
                exact B_Y8_againstDebate_65 x1 (f_Y5_top S ((grC S x0 1).getD 0)) _ _ _ hE hp hP hD hS (lv_sub hl [1, 2, 0] rfl)
        · rw [if_pos c12] at hE hp
          refine lv_iconst (v := 3) hx hb dX8_againstDebate_36 (by decide) ?_
          subst hQ
          exact W.iret (v := (3 : Int32)) hx hb hr (fun t ht hW => ⟨⟨(3 : Int32), S, rfl, (pair_i (hE.trans hX.symm)), by rw [ht]; exact hP, hD⟩, hS.F ht⟩) hS.2.2 dX8_againstDebate_37
      · rw [if_pos c10] at hE hp
        refine lv_iconst (v := 2) hx hb dX8_againstDebate_26 (by decide) ?_
        subst hQ
        exact W.iret (v := (2 : Int32)) hx hb hr (fun t ht hW => ⟨⟨(2 : Int32), S, rfl, (pair_i (hE.trans hX.symm)), by rw [ht]; exact hP, hD⟩, hS.F ht⟩) hS.2.2 dX8_againstDebate_27
  exact B_M a1 _ _ _ hX hp hP hD hS hl
theorem gdX8_againstOnFloor_179 : ckS (List.drop 179 cX8_againstOnFloor.data.toList) 179 [(179, .ireturn, 1), (180, .bipush 11, 2), (182, .ireturn, 1)] = true := by decide +kernel
theorem dX8_againstOnFloor_179 : decode cX8_againstOnFloor 179 = .ok (.ireturn, 1) := ckS_g gdX8_againstOnFloor_179 0 rfl
theorem dX8_againstOnFloor_180 : decode cX8_againstOnFloor 180 = .ok (.bipush 11, 2) := ckS_g gdX8_againstOnFloor_179 1 rfl
theorem dX8_againstOnFloor_182 : decode cX8_againstOnFloor 182 = .ok (.ireturn, 1) := ckS_g gdX8_againstOnFloor_179 2 rfl
set_option maxRecDepth 100000 in
theorem zc467 : wZ (.static yX8_againstDebate) := ⟨wT2 (List.mem_of_getElem? (i := 84) (by decide +kernel)), Or.inl rfl⟩
set_option maxRecDepth 100000 in
theorem zc468 : wZ (.methodLink RX8 59 yX8_againstDebate) := ⟨wT2 (List.mem_of_getElem? (i := 83) (by decide +kernel)), Or.inl rfl⟩
set_option maxRecDepth 100000 in
theorem zc469 : wZ (.static yX8_againstFloor) := ⟨wT2 (List.mem_of_getElem? (i := 73) (by decide +kernel)), Or.inl rfl⟩
set_option maxRecDepth 100000 in
theorem zc470 : wZ (.methodLink RX8 49 yX8_againstFloor) := ⟨wT2 (List.mem_of_getElem? (i := 72) (by decide +kernel)), Or.inl rfl⟩
set_option maxRecDepth 100000 in
theorem zc471 : wZ (.static yX8_againstSetting) := ⟨wT2 (List.mem_of_getElem? (i := 70) (by decide +kernel)), Or.inl rfl⟩
set_option maxRecDepth 100000 in
theorem zc472 : wZ (.methodLink RX8 45 yX8_againstSetting) := ⟨wT2 (List.mem_of_getElem? (i := 69) (by decide +kernel)), Or.inl rfl⟩
set_option maxRecDepth 100000 in
theorem zc473 : wZ (.static yX8_againstThere) := ⟨wT2 (List.mem_of_getElem? (i := 56) (by decide +kernel)), Or.inl rfl⟩
set_option maxRecDepth 100000 in
theorem zc474 : wZ (.methodLink RX8 38 yX8_againstThere) := ⟨wT2 (List.mem_of_getElem? (i := 55) (by decide +kernel)), Or.inl rfl⟩
set_option maxRecDepth 100000 in
theorem zc475 : wZ (.code yX8_againstOnFloor cX8_againstOnFloor 4 (some .int)) := ⟨wT2 (List.mem_of_getElem? (i := 54) rfl), Or.inl rfl⟩
def b_Y8_againstOnFloor_87 (S : Cst) (x0 : Nat) (x1 : Int32) (x2 : Int32) (x3 : Int32) (y0 : Int32) : Int32 := (f_Y8_againstSetting S x0 y0)
def q_Y8_againstOnFloor_87 (S : Cst) (x0 : Nat) (x1 : Int32) (x2 : Int32) (x3 : Int32) (y0 : Int32) : Prop := (p_Y8_againstSetting S x0 y0) ∧ True
def b_Y8_againstOnFloor_86 (S : Cst) (x0 : Nat) (x1 : Int32) (x2 : Int32) (x3 : Int32) : Int32 := (b_Y8_againstOnFloor_87 S x0 x1 x2 x3 0)
def q_Y8_againstOnFloor_86 (S : Cst) (x0 : Nat) (x1 : Int32) (x2 : Int32) (x3 : Int32) : Prop := (q_Y8_againstOnFloor_87 S x0 x1 x2 x3 0)
def b_Y8_againstOnFloor_127 (S : Cst) (x0 : Nat) (x1 : Int32) (x2 : Int32) (x3 : Int32) (y0 : Int32) : Int32 := (f_Y8_againstSetting S x0 y0)
def q_Y8_againstOnFloor_127 (S : Cst) (x0 : Nat) (x1 : Int32) (x2 : Int32) (x3 : Int32) (y0 : Int32) : Prop := (p_Y8_againstSetting S x0 y0) ∧ True
def b_Y8_againstOnFloor_126 (S : Cst) (x0 : Nat) (x1 : Int32) (x2 : Int32) (x3 : Int32) : Int32 := (b_Y8_againstOnFloor_127 S x0 x1 x2 x3 0)
def q_Y8_againstOnFloor_126 (S : Cst) (x0 : Nat) (x1 : Int32) (x2 : Int32) (x3 : Int32) : Prop := (q_Y8_againstOnFloor_127 S x0 x1 x2 x3 0)
def b_Y8_againstOnFloor_147 (S : Cst) (x0 : Nat) (x1 : Int32) (x2 : Int32) (x3 : Int32) (y0 : Int32) : Int32 := (f_Y8_againstSetting S x0 y0)
def q_Y8_againstOnFloor_147 (S : Cst) (x0 : Nat) (x1 : Int32) (x2 : Int32) (x3 : Int32) (y0 : Int32) : Prop := (p_Y8_againstSetting S x0 y0) ∧ True
def b_Y8_againstOnFloor_146 (S : Cst) (x0 : Nat) (x1 : Int32) (x2 : Int32) (x3 : Int32) : Int32 := (b_Y8_againstOnFloor_147 S x0 x1 x2 x3 0)
def q_Y8_againstOnFloor_146 (S : Cst) (x0 : Nat) (x1 : Int32) (x2 : Int32) (x3 : Int32) : Prop := (q_Y8_againstOnFloor_147 S x0 x1 x2 x3 0)
def b_Y8_againstOnFloor_173 (S : Cst) (x0 : Nat) (x1 : Int32) (x2 : Int32) (x3 : Int32) (y0 : Int32) : Int32 := y0
def q_Y8_againstOnFloor_173 (S : Cst) (x0 : Nat) (x1 : Int32) (x2 : Int32) (x3 : Int32) (y0 : Int32) : Prop := True
def f_Y8_againstOnFloor (S : Cst) (x0 : Nat) (x1 : Int32) (x2 : Int32) (x3 : Int32) : Int32 := if x1 = 1 then (f_Y8_againstThere S ((grC S x0 0).getD 0) x2) else if x1 = 2 then (f_Y8_againstAbsent S ((grC S x0 0).getD 0) x2) else if x1 = 3 then if x2 < 0 then (b_Y8_againstOnFloor_86 S x0 x1 x2 x3) else if 200 < x2 then (b_Y8_againstOnFloor_86 S x0 x1 x2 x3) else (b_Y8_againstOnFloor_87 S x0 x1 x2 x3 1) else if x1 = 4 then (f_Y8_againstAbsent S ((grC S x0 0).getD 0) x2) else if x1 = 5 then if x2 < 1 then (b_Y8_againstOnFloor_126 S x0 x1 x2 x3) else if 8 < x2 then (b_Y8_againstOnFloor_126 S x0 x1 x2 x3) else if x3 < 1 then (b_Y8_againstOnFloor_126 S x0 x1 x2 x3) else if 3 < x3 then (b_Y8_againstOnFloor_126 S x0 x1 x2 x3) else (b_Y8_againstOnFloor_127 S x0 x1 x2 x3 1) else if x1 = 6 then if x2 < 0 then (b_Y8_againstOnFloor_146 S x0 x1 x2 x3) else if 99 < x2 then (b_Y8_againstOnFloor_146 S x0 x1 x2 x3) else (b_Y8_againstOnFloor_147 S x0 x1 x2 x3 1) else if x1 = 7 then (f_Y8_againstFloor S x0 x2) else if x1 = 8 then if (giC S ((grC S x0 0).getD 0) 6) = (-1) then (b_Y8_againstOnFloor_173 S x0 x1 x2 x3 2) else (b_Y8_againstOnFloor_173 S x0 x1 x2 x3 0) else if x1 = 9 then (f_Y8_againstDebate S x0 x2) else (11 : Int32)
def p_Y8_againstOnFloor (S : Cst) (x0 : Nat) (x1 : Int32) (x2 : Int32) (x3 : Int32) : Prop := (if x1 = 1 then (iR S (grC S x0 0) 1) ∧ (p_Y8_againstThere S ((grC S x0 0).getD 0) x2) ∧ True else (if x1 = 2 then (iR S (grC S x0 0) 1) ∧ (p_Y8_againstAbsent S ((grC S x0 0).getD 0) x2) ∧ True else (if x1 = 3 then (if x2 < 0 then (q_Y8_againstOnFloor_86 S x0 x1 x2 x3) else (if 200 < x2 then (q_Y8_againstOnFloor_86 S x0 x1 x2 x3) else (q_Y8_againstOnFloor_87 S x0 x1 x2 x3 1))) else (if x1 = 4 then (iR S (grC S x0 0) 1) ∧ (p_Y8_againstAbsent S ((grC S x0 0).getD 0) x2) ∧ True else (if x1 = 5 then (if x2 < 1 then (q_Y8_againstOnFloor_126 S x0 x1 x2 x3) else (if 8 < x2 then (q_Y8_againstOnFloor_126 S x0 x1 x2 x3) else (if x3 < 1 then (q_Y8_againstOnFloor_126 S x0 x1 x2 x3) else (if 3 < x3 then (q_Y8_againstOnFloor_126 S x0 x1 x2 x3) else (q_Y8_againstOnFloor_127 S x0 x1 x2 x3 1))))) else (if x1 = 6 then (if x2 < 0 then (q_Y8_againstOnFloor_146 S x0 x1 x2 x3) else (if 99 < x2 then (q_Y8_againstOnFloor_146 S x0 x1 x2 x3) else (q_Y8_againstOnFloor_147 S x0 x1 x2 x3 1))) else (if x1 = 7 then (p_Y8_againstFloor S x0 x2) ∧ True else (if x1 = 8 then (iR S (grC S x0 0) 1) ∧ (if (giC S ((grC S x0 0).getD 0) 6) = (-1) then (q_Y8_againstOnFloor_173 S x0 x1 x2 x3 2) else (q_Y8_againstOnFloor_173 S x0 x1 x2 x3 0)) else (if x1 = 9 then (p_Y8_againstDebate S x0 x2) ∧ True else True)))))))))
def e_Y8_againstOnFloor : List Cond := [.fieldLink RX8 34 "MotionFloor$Assembly" "house" "LMotionFloor$House;", .methodLink RX8 38 yX8_againstThere, .static yX8_againstThere, .initialized RX8, .methodLink RX8 42 yX8_againstAbsent, .static yX8_againstAbsent, .methodLink RX8 45 yX8_againstSetting, .static yX8_againstSetting, .methodLink RX8 49 yX8_againstFloor, .static yX8_againstFloor, .fieldLink RX8 53 "MotionFloor$House" "speaker" "I", .methodLink RX8 59 yX8_againstDebate, .static yX8_againstDebate]
def v_Y8_againstOnFloor : List Cond := .code yX8_againstOnFloor cX8_againstOnFloor 4 (some .int) :: (e_Y8_againstOnFloor ++ (wsX00 ++ (wsX20 ++ (v_Y8_againstThere ++ (v_Y8_againstAbsent ++ (v_Y8_againstSetting ++ (v_Y8_againstFloor ++ (v_Y8_againstDebate ++ []))))))))
theorem te_Y8_againstOnFloor : GoodIn lw_tbl e_Y8_againstOnFloor := wGc zc418 (wGc zc474 (wGc zc473 (wGc zc373 (wGc zc375 (wGc zc374 (wGc zc472 (wGc zc471 (wGc zc470 (wGc zc469 (wGc zc464 (wGc zc468 (wGc zc467 (wG0)))))))))))))
theorem t_Y8_againstOnFloor : GoodIn lw_tbl v_Y8_againstOnFloor := wGc zc475 (wGa te_Y8_againstOnFloor (wGa zcX0 (wGa zcX2 (wGa t_Y8_againstThere (wGa t_Y8_againstAbsent (wGa t_Y8_againstSetting (wGa t_Y8_againstFloor (wGa t_Y8_againstDebate (wG0)))))))))
set_option maxHeartbeats 4000000 in
set_option maxRecDepth 100000 in
theorem c_Y8_againstOnFloor (l : Launch) (G : va_G) (K : Nat → ClassId) (ad : Nat → Nat) (S : Cst) (x0 : Nat) (a1 : Int32) (a2 : Int32) (a3 : Int32) (sz : Nat) : Met l yX8_againstOnFloor v_Y8_againstOnFloor ({ frames := 3, cells := 0, slots := 0, locals := 66 }) (va_Pc [.ref (ad x0), .int a1, .int a2, .int a3] (cSt G K ad sz S (iK S x0 0 ∧ p_Y8_againstOnFloor S x0 a1 a2 a3))) (va_Qi (fun (r : Int32) (u : Cst) => (r, u) = (f_Y8_againstOnFloor S x0 a1 a2 a3, S)) (cBt G K ad (va_A (wsC K ad S) sz)) (va_A (wsC K ad S) sz)) 0 0 (va_A (wsC K ad S) sz) := by
  refine Met.ofW (cc := cX8_againstOnFloor) (maxL := 4) (ret := (some .int)) (by decide) rfl ?_
  intro p e s m args below meth c s₁ B hml hv
  obtain ⟨rfl, ⟨hsz, hP, hK, hD0, hTE⟩, hp⟩ := hv
  obtain ⟨k_x0, hp⟩ := hp
  have hx := B.exec
  have hb := B.bytes
  have hr := B.returns
  have hts := atoms_spec (ws := v_Y8_againstOnFloor) B.pre
  have t_ := t_Y8_againstOnFloor
  have mw : ∀ w ∈ e_Y8_againstOnFloor, w ∈ v_Y8_againstOnFloor := fun w h => List.mem_cons_of_mem _ (List.mem_append_left _ h)
  have hw := fun w (h : w ∈ e_Y8_againstOnFloor) => hts w (mw w h)
  have iX0 : ∀ w ∈ wsX00, w ∈ v_Y8_againstOnFloor := fun w h => List.mem_cons_of_mem _ (List.mem_append_right _ (List.mem_append_left _ h))
  have iX2 : ∀ w ∈ wsX20, w ∈ v_Y8_againstOnFloor := fun w h => List.mem_cons_of_mem _ (List.mem_append_right _ (List.mem_append_right _ (List.mem_append_left _ h)))
  have j_Y8_againstThere : ∀ w ∈ v_Y8_againstThere, w ∈ v_Y8_againstOnFloor := fun w h => List.mem_cons_of_mem _ (List.mem_append_right _ (List.mem_append_right _ (List.mem_append_right _ (List.mem_append_left _ h))))
  have j_Y8_againstAbsent : ∀ w ∈ v_Y8_againstAbsent, w ∈ v_Y8_againstOnFloor := fun w h => List.mem_cons_of_mem _ (List.mem_append_right _ (List.mem_append_right _ (List.mem_append_right _ (List.mem_append_right _ (List.mem_append_left _ h)))))
  have j_Y8_againstSetting : ∀ w ∈ v_Y8_againstSetting, w ∈ v_Y8_againstOnFloor := fun w h => List.mem_cons_of_mem _ (List.mem_append_right _ (List.mem_append_right _ (List.mem_append_right _ (List.mem_append_right _ (List.mem_append_right _ (List.mem_append_left _ h))))))
  have j_Y8_againstFloor : ∀ w ∈ v_Y8_againstFloor, w ∈ v_Y8_againstOnFloor := fun w h => List.mem_cons_of_mem _ (List.mem_append_right _ (List.mem_append_right _ (List.mem_append_right _ (List.mem_append_right _ (List.mem_append_right _ (List.mem_append_right _ (List.mem_append_left _ h)))))))
  have j_Y8_againstDebate : ∀ w ∈ v_Y8_againstDebate, w ∈ v_Y8_againstOnFloor := fun w h => List.mem_cons_of_mem _ (List.mem_append_right _ (List.mem_append_right _ (List.mem_append_right _ (List.mem_append_right _ (List.mem_append_right _ (List.mem_append_right _ (List.mem_append_right _ (List.mem_append_left _ h))))))))
  have hown : s.vm.findClass RX8 = some m.cls := findClass_of_methodNamed B.named
  have hlocks := B.notSynchronized
  subst hsz
  have hD := hD0.self (sz := s.heap.size)
  generalize hAe : va_A (wsC K ad S) s.heap.size = A at hD ⊢
  have hA : ∀ q : Nat, s.heap.size ≤ q → A q := fun q h => by rw [← hAe]; exact Or.inr h
  have hS : va_S A s.heap s.heap [] := va_S.rf
  have hl : lv_has (lg_sl ([.ref (ad x0), .int a1, .int a2, .int a3]) ++ List.replicate (4 - (lg_sl ([.ref (ad x0), .int a1, .int a2, .int a3])).length) Slot.unset).toArray 4 [(0, .ref (ad x0)), (1, .int a1), (2, .int a2), (3, .int a3)] := by
    exact lv_entry ([.ref (ad x0), .int a1, .int a2, .int a3]) (n := 4) (Nat.le_of_ble_eq_true rfl)
  rw [lg_entry_eq]
  generalize (lg_sl ([.ref (ad x0), .int a1, .int a2, .int a3]) ++ List.replicate (4 - (lg_sl ([.ref (ad x0), .int a1, .int a2, .int a3])).length) Slot.unset).toArray = ls_ at hl ⊢
  refine wGen (fun Q hQ => ?_)
  obtain ⟨X, hX⟩ : ∃ X, f_Y8_againstOnFloor S x0 a1 a2 a3 = X := ⟨_, rfl⟩
  have B_Y8_againstOnFloor_87 : ∀ (x1 : Int32) (x2 : Int32) (x3 : Int32) (y0 : Int32) (H : Heap) (locs : List Loc) (ls_ : Array Slot), b_Y8_againstOnFloor_87 S x0 x1 x2 x3 y0 = X → q_Y8_againstOnFloor_87 S x0 x1 x2 x3 y0 → va_P G vwCl (wsC K ad S) H → va_D A (wsC K ad S) → va_S A s.heap H locs → lv_has ls_ 4 [(0, .ref (ad x0)), (1, .int x1), (2, .int x2), (3, .int x3)] → W p l e ({ frames := 3, cells := 0, slots := 0, locals := 66 } : Room) s m #[Value.ref (ad x0), Value.int a1, Value.int a2, Value.int a3] below meth c H locs 0 0 Q (F0 m 87 ls_ [.int y0, .ref (ad x0)]) := by
    intro x1 x2 x3 y0 H locs ls_ hE hp hP hD hS hl
    unfold b_Y8_againstOnFloor_87 at hE
    unfold q_Y8_againstOnFloor_87 at hp
    obtain ⟨hy10, hp⟩ := hp
    refine cGoi (va_runS (As := [.ref (ad x0), .int y0]) (rest := []) ⟨hx, hb, hml, hown, hts⟩ (c_Y8_againstSetting l G K ad S x0 y0 _) (va_cwS 2 hts (wGS t_ (mw (.methodLink RX8 45 yX8_againstSetting) (List.mem_of_getElem? (i := 6) rfl)) (mw (.static yX8_againstSetting) (List.mem_of_getElem? (i := 7) rfl)) (mw (.initialized RX8) (List.mem_of_getElem? (i := 3) rfl)) j_Y8_againstSetting) rfl rfl rfl (by decide +kernel) ⟨Nat.le_of_ble_eq_true rfl, Nat.le_of_ble_eq_true rfl⟩) (cPS hK hTE hP hD ⟨k_x0, hy10⟩) rfl rfl hl.1 rfl (lv_room (Nat.le_of_ble_eq_true rfl)) dX8_againstOnFloor_87 ⟨Nat.le_of_ble_eq_true rfl, Nat.le_of_ble_eq_true rfl⟩) hP hD hS hA (fun r12 u11 H locs hv hP hD hS => ?_)
    have h1 := congrArg Prod.fst hv
    have h2 := (congrArg Prod.snd hv).symm
    dsimp only at h1 h2
    subst h1
    subst h2
    subst hQ
    exact W.iret (v := (f_Y8_againstSetting S x0 y0)) hx hb hr (fun t ht hW => ⟨⟨(f_Y8_againstSetting S x0 y0), S, rfl, (pair_i (hE.trans hX.symm)), by rw [ht]; exact hP, hD⟩, hS.F ht⟩) hS.2.2 dX8_againstOnFloor_90
  have B_Y8_againstOnFloor_86 : ∀ (x1 : Int32) (x2 : Int32) (x3 : Int32) (H : Heap) (locs : List Loc) (ls_ : Array Slot), b_Y8_againstOnFloor_86 S x0 x1 x2 x3 = X → q_Y8_againstOnFloor_86 S x0 x1 x2 x3 → va_P G vwCl (wsC K ad S) H → va_D A (wsC K ad S) → va_S A s.heap H locs → lv_has ls_ 4 [(0, .ref (ad x0)), (1, .int x1), (2, .int x2), (3, .int x3)] → W p l e ({ frames := 3, cells := 0, slots := 0, locals := 66 } : Room) s m #[Value.ref (ad x0), Value.int a1, Value.int a2, Value.int a3] below meth c H locs 0 0 Q (F0 m 86 ls_ [.ref (ad x0)]) := by
    intro x1 x2 x3 H locs ls_ hE hp hP hD hS hl
    unfold b_Y8_againstOnFloor_86 at hE
    unfold q_Y8_againstOnFloor_86 at hp
    refine lv_iconst (v := 0) hx hb dX8_againstOnFloor_86 (by decide) ?_
    exact B_Y8_againstOnFloor_87 x1 x2 x3 0 _ _ _ hE hp hP hD hS (lv_sub hl [0, 1, 2, 3] rfl)
  have B_Y8_againstOnFloor_127 : ∀ (x1 : Int32) (x2 : Int32) (x3 : Int32) (y0 : Int32) (H : Heap) (locs : List Loc) (ls_ : Array Slot), b_Y8_againstOnFloor_127 S x0 x1 x2 x3 y0 = X → q_Y8_againstOnFloor_127 S x0 x1 x2 x3 y0 → va_P G vwCl (wsC K ad S) H → va_D A (wsC K ad S) → va_S A s.heap H locs → lv_has ls_ 4 [(0, .ref (ad x0)), (1, .int x1), (2, .int x2), (3, .int x3)] → W p l e ({ frames := 3, cells := 0, slots := 0, locals := 66 } : Room) s m #[Value.ref (ad x0), Value.int a1, Value.int a2, Value.int a3] below meth c H locs 0 0 Q (F0 m 127 ls_ [.int y0, .ref (ad x0)]) := by
    intro x1 x2 x3 y0 H locs ls_ hE hp hP hD hS hl
    unfold b_Y8_againstOnFloor_127 at hE
    unfold q_Y8_againstOnFloor_127 at hp
    obtain ⟨hy19, hp⟩ := hp
    refine cGoi (va_runS (As := [.ref (ad x0), .int y0]) (rest := []) ⟨hx, hb, hml, hown, hts⟩ (c_Y8_againstSetting l G K ad S x0 y0 _) (va_cwS 2 hts (wGS t_ (mw (.methodLink RX8 45 yX8_againstSetting) (List.mem_of_getElem? (i := 6) rfl)) (mw (.static yX8_againstSetting) (List.mem_of_getElem? (i := 7) rfl)) (mw (.initialized RX8) (List.mem_of_getElem? (i := 3) rfl)) j_Y8_againstSetting) rfl rfl rfl (by decide +kernel) ⟨Nat.le_of_ble_eq_true rfl, Nat.le_of_ble_eq_true rfl⟩) (cPS hK hTE hP hD ⟨k_x0, hy19⟩) rfl rfl hl.1 rfl (lv_room (Nat.le_of_ble_eq_true rfl)) dX8_againstOnFloor_127 ⟨Nat.le_of_ble_eq_true rfl, Nat.le_of_ble_eq_true rfl⟩) hP hD hS hA (fun r21 u20 H locs hv hP hD hS => ?_)
    have h1 := congrArg Prod.fst hv
    have h2 := (congrArg Prod.snd hv).symm
    dsimp only at h1 h2
    subst h1
    subst h2
    subst hQ
    exact W.iret (v := (f_Y8_againstSetting S x0 y0)) hx hb hr (fun t ht hW => ⟨⟨(f_Y8_againstSetting S x0 y0), S, rfl, (pair_i (hE.trans hX.symm)), by rw [ht]; exact hP, hD⟩, hS.F ht⟩) hS.2.2 dX8_againstOnFloor_130
  have B_Y8_againstOnFloor_126 : ∀ (x1 : Int32) (x2 : Int32) (x3 : Int32) (H : Heap) (locs : List Loc) (ls_ : Array Slot), b_Y8_againstOnFloor_126 S x0 x1 x2 x3 = X → q_Y8_againstOnFloor_126 S x0 x1 x2 x3 → va_P G vwCl (wsC K ad S) H → va_D A (wsC K ad S) → va_S A s.heap H locs → lv_has ls_ 4 [(0, .ref (ad x0)), (1, .int x1), (2, .int x2), (3, .int x3)] → W p l e ({ frames := 3, cells := 0, slots := 0, locals := 66 } : Room) s m #[Value.ref (ad x0), Value.int a1, Value.int a2, Value.int a3] below meth c H locs 0 0 Q (F0 m 126 ls_ [.ref (ad x0)]) := by
    intro x1 x2 x3 H locs ls_ hE hp hP hD hS hl
    unfold b_Y8_againstOnFloor_126 at hE
    unfold q_Y8_againstOnFloor_126 at hp
    refine lv_iconst (v := 0) hx hb dX8_againstOnFloor_126 (by decide) ?_
    exact B_Y8_againstOnFloor_127 x1 x2 x3 0 _ _ _ hE hp hP hD hS (lv_sub hl [0, 1, 2, 3] rfl)
  have B_Y8_againstOnFloor_147 : ∀ (x1 : Int32) (x2 : Int32) (x3 : Int32) (y0 : Int32) (H : Heap) (locs : List Loc) (ls_ : Array Slot), b_Y8_againstOnFloor_147 S x0 x1 x2 x3 y0 = X → q_Y8_againstOnFloor_147 S x0 x1 x2 x3 y0 → va_P G vwCl (wsC K ad S) H → va_D A (wsC K ad S) → va_S A s.heap H locs → lv_has ls_ 4 [(0, .ref (ad x0)), (1, .int x1), (2, .int x2), (3, .int x3)] → W p l e ({ frames := 3, cells := 0, slots := 0, locals := 66 } : Room) s m #[Value.ref (ad x0), Value.int a1, Value.int a2, Value.int a3] below meth c H locs 0 0 Q (F0 m 147 ls_ [.int y0, .ref (ad x0)]) := by
    intro x1 x2 x3 y0 H locs ls_ hE hp hP hD hS hl
    unfold b_Y8_againstOnFloor_147 at hE
    unfold q_Y8_againstOnFloor_147 at hp
    obtain ⟨hy26, hp⟩ := hp
    refine cGoi (va_runS (As := [.ref (ad x0), .int y0]) (rest := []) ⟨hx, hb, hml, hown, hts⟩ (c_Y8_againstSetting l G K ad S x0 y0 _) (va_cwS 2 hts (wGS t_ (mw (.methodLink RX8 45 yX8_againstSetting) (List.mem_of_getElem? (i := 6) rfl)) (mw (.static yX8_againstSetting) (List.mem_of_getElem? (i := 7) rfl)) (mw (.initialized RX8) (List.mem_of_getElem? (i := 3) rfl)) j_Y8_againstSetting) rfl rfl rfl (by decide +kernel) ⟨Nat.le_of_ble_eq_true rfl, Nat.le_of_ble_eq_true rfl⟩) (cPS hK hTE hP hD ⟨k_x0, hy26⟩) rfl rfl hl.1 rfl (lv_room (Nat.le_of_ble_eq_true rfl)) dX8_againstOnFloor_147 ⟨Nat.le_of_ble_eq_true rfl, Nat.le_of_ble_eq_true rfl⟩) hP hD hS hA (fun r28 u27 H locs hv hP hD hS => ?_)
    have h1 := congrArg Prod.fst hv
    have h2 := (congrArg Prod.snd hv).symm
    dsimp only at h1 h2
    subst h1
    subst h2
    subst hQ
    exact W.iret (v := (f_Y8_againstSetting S x0 y0)) hx hb hr (fun t ht hW => ⟨⟨(f_Y8_againstSetting S x0 y0), S, rfl, (pair_i (hE.trans hX.symm)), by rw [ht]; exact hP, hD⟩, hS.F ht⟩) hS.2.2 dX8_againstOnFloor_150
  have B_Y8_againstOnFloor_146 : ∀ (x1 : Int32) (x2 : Int32) (x3 : Int32) (H : Heap) (locs : List Loc) (ls_ : Array Slot), b_Y8_againstOnFloor_146 S x0 x1 x2 x3 = X → q_Y8_againstOnFloor_146 S x0 x1 x2 x3 → va_P G vwCl (wsC K ad S) H → va_D A (wsC K ad S) → va_S A s.heap H locs → lv_has ls_ 4 [(0, .ref (ad x0)), (1, .int x1), (2, .int x2), (3, .int x3)] → W p l e ({ frames := 3, cells := 0, slots := 0, locals := 66 } : Room) s m #[Value.ref (ad x0), Value.int a1, Value.int a2, Value.int a3] below meth c H locs 0 0 Q (F0 m 146 ls_ [.ref (ad x0)]) := by
    intro x1 x2 x3 H locs ls_ hE hp hP hD hS hl
    unfold b_Y8_againstOnFloor_146 at hE
    unfold q_Y8_againstOnFloor_146 at hp
    refine lv_iconst (v := 0) hx hb dX8_againstOnFloor_146 (by decide) ?_
    exact B_Y8_againstOnFloor_147 x1 x2 x3 0 _ _ _ hE hp hP hD hS (lv_sub hl [0, 1, 2, 3] rfl)
  have B_Y8_againstOnFloor_173 : ∀ (x1 : Int32) (x2 : Int32) (x3 : Int32) (y0 : Int32) (H : Heap) (locs : List Loc) (ls_ : Array Slot), b_Y8_againstOnFloor_173 S x0 x1 x2 x3 y0 = X → q_Y8_againstOnFloor_173 S x0 x1 x2 x3 y0 → va_P G vwCl (wsC K ad S) H → va_D A (wsC K ad S) → va_S A s.heap H locs → lv_has ls_ 4 [(0, .ref (ad x0)), (1, .int x1), (2, .int x2), (3, .int x3)] → W p l e ({ frames := 3, cells := 0, slots := 0, locals := 66 } : Room) s m #[Value.ref (ad x0), Value.int a1, Value.int a2, Value.int a3] below meth c H locs 0 0 Q (F0 m 173 ls_ [.int y0]) := by
    intro x1 x2 x3 y0 H locs ls_ hE hp hP hD hS hl
    unfold b_Y8_againstOnFloor_173 at hE
    unfold q_Y8_againstOnFloor_173 at hp
    subst hQ
    exact W.iret (v := y0) hx hb hr (fun t ht hW => ⟨⟨y0, S, rfl, (pair_i (hE.trans hX.symm)), by rw [ht]; exact hP, hD⟩, hS.F ht⟩) hS.2.2 dX8_againstOnFloor_173
  have B_M : ∀ (x1 : Int32) (x2 : Int32) (x3 : Int32) (H : Heap) (locs : List Loc) (ls_ : Array Slot), f_Y8_againstOnFloor S x0 x1 x2 x3 = X → p_Y8_againstOnFloor S x0 x1 x2 x3 → va_P G vwCl (wsC K ad S) H → va_D A (wsC K ad S) → va_S A s.heap H locs → lv_has ls_ 4 [(0, .ref (ad x0)), (1, .int x1), (2, .int x2), (3, .int x3)] → W p l e ({ frames := 3, cells := 0, slots := 0, locals := 66 } : Room) s m #[Value.ref (ad x0), Value.int a1, Value.int a2, Value.int a3] below meth c H locs 0 0 Q (F0 m 0 ls_ []) := by
    intro x1 x2 x3 H locs ls_ hE hp hP hD hS hl
    unfold f_Y8_againstOnFloor at hE
    unfold p_Y8_againstOnFloor at hp
    refine lv_iload_n hx hb dX8_againstOnFloor_0 rfl (lv_at hl 1 rfl) ?_
    by_cases s1 : x1 = 1
    · rw [if_pos s1] at hE hp
      refine lv_tableIn (off := 51) (tgt := 52) hx hb dX8_againstOnFloor_1 (by rw [s1]; decide) (by rw [s1]; decide) (by rw [s1]; decide) (by decide) ?_
      refine lv_aload_n hx hb dX8_againstOnFloor_52 rfl (lv_at hl 0 rfl) ?_
      refine va_get (D := G) (ci := 0) (v := va_re ad (grC S x0 0)) (C := RX0) (T := TX0) (N := 11) hx hb hts iX0 hown hK hP x0 (at_0 k_x0) rfl 0 (by decide) (hw (.fieldLink RX8 34 "MotionFloor$Assembly" "house" "LMotionFloor$House;") (List.mem_of_getElem? (i := 0) rfl)) (fun _ h9 => h9) rfl dX8_againstOnFloor_53 ?_
      refine lv_iload_n hx hb dX8_againstOnFloor_56 rfl (lv_at hl 2 rfl) ?_
      obtain ⟨hy1, hp⟩ := hp
      refine cTop2 (r := (grC S x0 0)) hy1.1 ?_
      obtain ⟨hy2, hp⟩ := hp
      refine cGoi (va_runS (As := [.ref (ad ((grC S x0 0).getD 0)), .int x2]) (rest := []) ⟨hx, hb, hml, hown, hts⟩ (c_Y8_againstThere l G K ad S ((grC S x0 0).getD 0) x2 _) (va_cwS 2 hts (wGS t_ (mw (.methodLink RX8 38 yX8_againstThere) (List.mem_of_getElem? (i := 1) rfl)) (mw (.static yX8_againstThere) (List.mem_of_getElem? (i := 2) rfl)) (mw (.initialized RX8) (List.mem_of_getElem? (i := 3) rfl)) j_Y8_againstThere) rfl rfl rfl (by decide +kernel) ⟨Nat.le_of_ble_eq_true rfl, Nat.le_of_ble_eq_true rfl⟩) (cPS hK hTE hP hD ⟨hy1.2, hy2⟩) rfl rfl hl.1 rfl (lv_room (Nat.le_of_ble_eq_true rfl)) dX8_againstOnFloor_57 ⟨Nat.le_of_ble_eq_true rfl, Nat.le_of_ble_eq_true rfl⟩) hP hD hS hA (fun r4 u3 H locs hv hP hD hS => ?_)
      have h1 := congrArg Prod.fst hv
      have h2 := (congrArg Prod.snd hv).symm
      dsimp only at h1 h2
      subst h1
      subst h2
      subst hQ
      exact W.iret (v := (f_Y8_againstThere S ((grC S x0 0).getD 0) x2)) hx hb hr (fun t ht hW => ⟨⟨(f_Y8_againstThere S ((grC S x0 0).getD 0) x2), S, rfl, (pair_i (hE.trans hX.symm)), by rw [ht]; exact hP, hD⟩, hS.F ht⟩) hS.2.2 dX8_againstOnFloor_60
    rw [if_neg s1] at hE hp
    have s1 := wNe (b := 1) rfl (by decide) s1
    by_cases s2 : x1 = 2
    · rw [if_pos s2] at hE hp
      refine lv_tableIn (off := 60) (tgt := 61) hx hb dX8_againstOnFloor_1 (by rw [s2]; decide) (by rw [s2]; decide) (by rw [s2]; decide) (by decide) ?_
      refine lv_aload_n hx hb dX8_againstOnFloor_61 rfl (lv_at hl 0 rfl) ?_
      refine va_get (D := G) (ci := 0) (v := va_re ad (grC S x0 0)) (C := RX0) (T := TX0) (N := 11) hx hb hts iX0 hown hK hP x0 (at_0 k_x0) rfl 0 (by decide) (hw (.fieldLink RX8 34 "MotionFloor$Assembly" "house" "LMotionFloor$House;") (List.mem_of_getElem? (i := 0) rfl)) (fun _ h9 => h9) rfl dX8_againstOnFloor_62 ?_
      refine lv_iload_n hx hb dX8_againstOnFloor_65 rfl (lv_at hl 2 rfl) ?_
      obtain ⟨hy5, hp⟩ := hp
      refine cTop2 (r := (grC S x0 0)) hy5.1 ?_
      obtain ⟨hy6, hp⟩ := hp
      refine cGoi (va_runS (As := [.ref (ad ((grC S x0 0).getD 0)), .int x2]) (rest := []) ⟨hx, hb, hml, hown, hts⟩ (c_Y8_againstAbsent l G K ad S ((grC S x0 0).getD 0) x2 _) (va_cwS 2 hts (wGS t_ (mw (.methodLink RX8 42 yX8_againstAbsent) (List.mem_of_getElem? (i := 4) rfl)) (mw (.static yX8_againstAbsent) (List.mem_of_getElem? (i := 5) rfl)) (mw (.initialized RX8) (List.mem_of_getElem? (i := 3) rfl)) j_Y8_againstAbsent) rfl rfl rfl (by decide +kernel) ⟨Nat.le_of_ble_eq_true rfl, Nat.le_of_ble_eq_true rfl⟩) (cPS hK hTE hP hD ⟨hy5.2, hy6⟩) rfl rfl hl.1 rfl (lv_room (Nat.le_of_ble_eq_true rfl)) dX8_againstOnFloor_66 ⟨Nat.le_of_ble_eq_true rfl, Nat.le_of_ble_eq_true rfl⟩) hP hD hS hA (fun r8 u7 H locs hv hP hD hS => ?_)
      have h1 := congrArg Prod.fst hv
      have h2 := (congrArg Prod.snd hv).symm
      dsimp only at h1 h2
      subst h1
      subst h2
      subst hQ
      exact W.iret (v := (f_Y8_againstAbsent S ((grC S x0 0).getD 0) x2)) hx hb hr (fun t ht hW => ⟨⟨(f_Y8_againstAbsent S ((grC S x0 0).getD 0) x2), S, rfl, (pair_i (hE.trans hX.symm)), by rw [ht]; exact hP, hD⟩, hS.F ht⟩) hS.2.2 dX8_againstOnFloor_69
    rw [if_neg s2] at hE hp
    have s2 := wNe (b := 2) rfl (by decide) s2
    by_cases s3 : x1 = 3
    · rw [if_pos s3] at hE hp
      refine lv_tableIn (off := 69) (tgt := 70) hx hb dX8_againstOnFloor_1 (by rw [s3]; decide) (by rw [s3]; decide) (by rw [s3]; decide) (by decide) ?_
      refine lv_aload_n hx hb dX8_againstOnFloor_70 rfl (lv_at hl 0 rfl) ?_
      refine lv_iload_n hx hb dX8_againstOnFloor_71 rfl (lv_at hl 2 rfl) ?_
      refine lv_if_lt (tgt := 86) hx hb dX8_againstOnFloor_72 (by decide) (fun c9 => ?_) (fun c9 => ?_)
      · rw [if_pos c9] at hE hp
        exact B_Y8_againstOnFloor_86 x1 x2 x3 _ _ _ hE hp hP hD hS (lv_sub hl [0, 1, 2, 3] rfl)
      · rw [if_neg c9] at hE hp
        refine lv_iload_n hx hb dX8_againstOnFloor_75 rfl (lv_at hl 2 rfl) ?_
        refine lv_sipush (v := 200) hx hb dX8_againstOnFloor_76 (by decide) ?_
        refine lv_icmp_gt (tgt := 86) hx hb dX8_againstOnFloor_79 (by decide) (fun c13 => ?_) (fun c13 => ?_)
        · rw [if_pos c13] at hE hp
          exact B_Y8_againstOnFloor_86 x1 x2 x3 _ _ _ hE hp hP hD hS (lv_sub hl [0, 1, 2, 3] rfl)
        · rw [if_neg c13] at hE hp
          refine lv_iconst (v := 1) hx hb dX8_againstOnFloor_82 (by decide) ?_
          refine lv_goto (tgt := 87) hx hb dX8_againstOnFloor_83 (by decide) ?_
          exact B_Y8_againstOnFloor_87 x1 x2 x3 1 _ _ _ hE hp hP hD hS (lv_sub hl [0, 1, 2, 3] rfl)
    rw [if_neg s3] at hE hp
    have s3 := wNe (b := 3) rfl (by decide) s3
    by_cases s4 : x1 = 4
    · rw [if_pos s4] at hE hp
      refine lv_tableIn (off := 90) (tgt := 91) hx hb dX8_againstOnFloor_1 (by rw [s4]; decide) (by rw [s4]; decide) (by rw [s4]; decide) (by decide) ?_
      refine lv_aload_n hx hb dX8_againstOnFloor_91 rfl (lv_at hl 0 rfl) ?_
      refine va_get (D := G) (ci := 0) (v := va_re ad (grC S x0 0)) (C := RX0) (T := TX0) (N := 11) hx hb hts iX0 hown hK hP x0 (at_0 k_x0) rfl 0 (by decide) (hw (.fieldLink RX8 34 "MotionFloor$Assembly" "house" "LMotionFloor$House;") (List.mem_of_getElem? (i := 0) rfl)) (fun _ h9 => h9) rfl dX8_againstOnFloor_92 ?_
      refine lv_iload_n hx hb dX8_againstOnFloor_95 rfl (lv_at hl 2 rfl) ?_
      obtain ⟨hy14, hp⟩ := hp
      refine cTop2 (r := (grC S x0 0)) hy14.1 ?_
      obtain ⟨hy15, hp⟩ := hp
      refine cGoi (va_runS (As := [.ref (ad ((grC S x0 0).getD 0)), .int x2]) (rest := []) ⟨hx, hb, hml, hown, hts⟩ (c_Y8_againstAbsent l G K ad S ((grC S x0 0).getD 0) x2 _) (va_cwS 2 hts (wGS t_ (mw (.methodLink RX8 42 yX8_againstAbsent) (List.mem_of_getElem? (i := 4) rfl)) (mw (.static yX8_againstAbsent) (List.mem_of_getElem? (i := 5) rfl)) (mw (.initialized RX8) (List.mem_of_getElem? (i := 3) rfl)) j_Y8_againstAbsent) rfl rfl rfl (by decide +kernel) ⟨Nat.le_of_ble_eq_true rfl, Nat.le_of_ble_eq_true rfl⟩) (cPS hK hTE hP hD ⟨hy14.2, hy15⟩) rfl rfl hl.1 rfl (lv_room (Nat.le_of_ble_eq_true rfl)) dX8_againstOnFloor_96 ⟨Nat.le_of_ble_eq_true rfl, Nat.le_of_ble_eq_true rfl⟩) hP hD hS hA (fun r17 u16 H locs hv hP hD hS => ?_)
      have h1 := congrArg Prod.fst hv
      have h2 := (congrArg Prod.snd hv).symm
      dsimp only at h1 h2
      subst h1
      subst h2
      subst hQ
      exact W.iret (v := (f_Y8_againstAbsent S ((grC S x0 0).getD 0) x2)) hx hb hr (fun t ht hW => ⟨⟨(f_Y8_againstAbsent S ((grC S x0 0).getD 0) x2), S, rfl, (pair_i (hE.trans hX.symm)), by rw [ht]; exact hP, hD⟩, hS.F ht⟩) hS.2.2 dX8_againstOnFloor_99
    rw [if_neg s4] at hE hp
    have s4 := wNe (b := 4) rfl (by decide) s4
    by_cases s5 : x1 = 5
    · rw [if_pos s5] at hE hp
      refine lv_tableIn (off := 99) (tgt := 100) hx hb dX8_againstOnFloor_1 (by rw [s5]; decide) (by rw [s5]; decide) (by rw [s5]; decide) (by decide) ?_
      refine lv_aload_n hx hb dX8_againstOnFloor_100 rfl (lv_at hl 0 rfl) ?_
      refine lv_iload_n hx hb dX8_againstOnFloor_101 rfl (lv_at hl 2 rfl) ?_
      refine lv_iconst (v := 1) hx hb dX8_againstOnFloor_102 (by decide) ?_
      refine lv_icmp_lt (tgt := 126) hx hb dX8_againstOnFloor_103 (by decide) (fun c18 => ?_) (fun c18 => ?_)
      · rw [if_pos c18] at hE hp
        exact B_Y8_againstOnFloor_126 x1 x2 x3 _ _ _ hE hp hP hD hS (lv_sub hl [0, 1, 2, 3] rfl)
      · rw [if_neg c18] at hE hp
        refine lv_iload_n hx hb dX8_againstOnFloor_106 rfl (lv_at hl 2 rfl) ?_
        refine lv_bipush (v := 8) hx hb dX8_againstOnFloor_107 (by decide) ?_
        refine lv_icmp_gt (tgt := 126) hx hb dX8_againstOnFloor_109 (by decide) (fun c22 => ?_) (fun c22 => ?_)
        · rw [if_pos c22] at hE hp
          exact B_Y8_againstOnFloor_126 x1 x2 x3 _ _ _ hE hp hP hD hS (lv_sub hl [0, 1, 2, 3] rfl)
        · rw [if_neg c22] at hE hp
          refine lv_iload_n hx hb dX8_againstOnFloor_112 rfl (lv_at hl 3 rfl) ?_
          refine lv_iconst (v := 1) hx hb dX8_againstOnFloor_113 (by decide) ?_
          refine lv_icmp_lt (tgt := 126) hx hb dX8_againstOnFloor_114 (by decide) (fun c23 => ?_) (fun c23 => ?_)
          · rw [if_pos c23] at hE hp
            exact B_Y8_againstOnFloor_126 x1 x2 x3 _ _ _ hE hp hP hD hS (lv_sub hl [0, 1, 2, 3] rfl)
          · rw [if_neg c23] at hE hp
            refine lv_iload_n hx hb dX8_againstOnFloor_117 rfl (lv_at hl 3 rfl) ?_
            refine lv_iconst (v := 3) hx hb dX8_againstOnFloor_118 (by decide) ?_
            refine lv_icmp_gt (tgt := 126) hx hb dX8_againstOnFloor_119 (by decide) (fun c24 => ?_) (fun c24 => ?_)
            · rw [if_pos c24] at hE hp
              exact B_Y8_againstOnFloor_126 x1 x2 x3 _ _ _ hE hp hP hD hS (lv_sub hl [0, 1, 2, 3] rfl)
            · rw [if_neg c24] at hE hp
              refine lv_iconst (v := 1) hx hb dX8_againstOnFloor_122 (by decide) ?_
              refine lv_goto (tgt := 127) hx hb dX8_againstOnFloor_123 (by decide) ?_
              exact B_Y8_againstOnFloor_127 x1 x2 x3 1 _ _ _ hE hp hP hD hS (lv_sub hl [0, 1, 2, 3] rfl)
    rw [if_neg s5] at hE hp
    have s5 := wNe (b := 5) rfl (by decide) s5
    by_cases s6 : x1 = 6
    · rw [if_pos s6] at hE hp
      refine lv_tableIn (off := 130) (tgt := 131) hx hb dX8_againstOnFloor_1 (by rw [s6]; decide) (by rw [s6]; decide) (by rw [s6]; decide) (by decide) ?_
      refine lv_aload_n hx hb dX8_againstOnFloor_131 rfl (lv_at hl 0 rfl) ?_
      refine lv_iload_n hx hb dX8_againstOnFloor_132 rfl (lv_at hl 2 rfl) ?_
      refine lv_if_lt (tgt := 146) hx hb dX8_againstOnFloor_133 (by decide) (fun c25 => ?_) (fun c25 => ?_)
      · rw [if_pos c25] at hE hp
        exact B_Y8_againstOnFloor_146 x1 x2 x3 _ _ _ hE hp hP hD hS (lv_sub hl [0, 1, 2, 3] rfl)
      · rw [if_neg c25] at hE hp
        refine lv_iload_n hx hb dX8_againstOnFloor_136 rfl (lv_at hl 2 rfl) ?_
        refine lv_bipush (v := 99) hx hb dX8_againstOnFloor_137 (by decide) ?_
        refine lv_icmp_gt (tgt := 146) hx hb dX8_againstOnFloor_139 (by decide) (fun c29 => ?_) (fun c29 => ?_)
        · rw [if_pos c29] at hE hp
          exact B_Y8_againstOnFloor_146 x1 x2 x3 _ _ _ hE hp hP hD hS (lv_sub hl [0, 1, 2, 3] rfl)
        · rw [if_neg c29] at hE hp
          refine lv_iconst (v := 1) hx hb dX8_againstOnFloor_142 (by decide) ?_
          refine lv_goto (tgt := 147) hx hb dX8_againstOnFloor_143 (by decide) ?_
          exact B_Y8_againstOnFloor_147 x1 x2 x3 1 _ _ _ hE hp hP hD hS (lv_sub hl [0, 1, 2, 3] rfl)
    rw [if_neg s6] at hE hp
    have s6 := wNe (b := 6) rfl (by decide) s6
    by_cases s7 : x1 = 7
    · rw [if_pos s7] at hE hp
      refine lv_tableIn (off := 150) (tgt := 151) hx hb dX8_againstOnFloor_1 (by rw [s7]; decide) (by rw [s7]; decide) (by rw [s7]; decide) (by decide) ?_
      refine lv_aload_n hx hb dX8_againstOnFloor_151 rfl (lv_at hl 0 rfl) ?_
      refine lv_iload_n hx hb dX8_againstOnFloor_152 rfl (lv_at hl 2 rfl) ?_
      obtain ⟨hy30, hp⟩ := hp
      refine cGoi (va_runS (As := [.ref (ad x0), .int x2]) (rest := []) ⟨hx, hb, hml, hown, hts⟩ (c_Y8_againstFloor l G K ad S x0 x2 _) (va_cwS 2 hts (wGS t_ (mw (.methodLink RX8 49 yX8_againstFloor) (List.mem_of_getElem? (i := 8) rfl)) (mw (.static yX8_againstFloor) (List.mem_of_getElem? (i := 9) rfl)) (mw (.initialized RX8) (List.mem_of_getElem? (i := 3) rfl)) j_Y8_againstFloor) rfl rfl rfl (by decide +kernel) ⟨Nat.le_of_ble_eq_true rfl, Nat.le_of_ble_eq_true rfl⟩) (cPS hK hTE hP hD ⟨k_x0, hy30⟩) rfl rfl hl.1 rfl (lv_room (Nat.le_of_ble_eq_true rfl)) dX8_againstOnFloor_153 ⟨Nat.le_of_ble_eq_true rfl, Nat.le_of_ble_eq_true rfl⟩) hP hD hS hA (fun r32 u31 H locs hv hP hD hS => ?_)
      have h1 := congrArg Prod.fst hv
      have h2 := (congrArg Prod.snd hv).symm
      dsimp only at h1 h2
      subst h1
      subst h2
      subst hQ
      exact W.iret (v := (f_Y8_againstFloor S x0 x2)) hx hb hr (fun t ht hW => ⟨⟨(f_Y8_againstFloor S x0 x2), S, rfl, (pair_i (hE.trans hX.symm)), by rw [ht]; exact hP, hD⟩, hS.F ht⟩) hS.2.2 dX8_againstOnFloor_156
    rw [if_neg s7] at hE hp
    have s7 := wNe (b := 7) rfl (by decide) s7
    by_cases s8 : x1 = 8
    · rw [if_pos s8] at hE hp
      refine lv_tableIn (off := 156) (tgt := 157) hx hb dX8_againstOnFloor_1 (by rw [s8]; decide) (by rw [s8]; decide) (by rw [s8]; decide) (by decide) ?_
      refine lv_aload_n hx hb dX8_againstOnFloor_157 rfl (lv_at hl 0 rfl) ?_
      refine va_get (D := G) (ci := 0) (v := va_re ad (grC S x0 0)) (C := RX0) (T := TX0) (N := 11) hx hb hts iX0 hown hK hP x0 (at_0 k_x0) rfl 0 (by decide) (hw (.fieldLink RX8 34 "MotionFloor$Assembly" "house" "LMotionFloor$House;") (List.mem_of_getElem? (i := 0) rfl)) (fun _ h9 => h9) rfl dX8_againstOnFloor_158 ?_
      obtain ⟨hy33, hp⟩ := hp
      refine cTop (r := (grC S x0 0)) hy33.1 ?_
      refine va_get (D := G) (ci := 1) (v := .int (giC S ((grC S x0 0).getD 0) 6)) (C := RX2) (T := TX2) (N := 8) hx hb hts iX2 hown hK hP ((grC S x0 0).getD 0) (at_1 hy33.2) rfl 6 (by decide) (hw (.fieldLink RX8 53 "MotionFloor$House" "speaker" "I") (List.mem_of_getElem? (i := 10) rfl)) (fun _ h9 => h9) rfl dX8_againstOnFloor_161 ?_
      refine lv_iconst (v := (-1)) hx hb dX8_againstOnFloor_164 (by decide) ?_
      refine lv_icmp_ne (tgt := 172) hx hb dX8_againstOnFloor_165 (by decide) (fun c34 => ?_) (fun c34 => ?_)
      · rw [if_neg c34] at hE hp
        refine lv_iconst (v := 0) hx hb dX8_againstOnFloor_172 (by decide) ?_
        exact B_Y8_againstOnFloor_173 x1 x2 x3 0 _ _ _ hE hp hP hD hS (lv_sub hl [0, 1, 2, 3] rfl)
      · rw [if_pos c34] at hE hp
        refine lv_iconst (v := 2) hx hb dX8_againstOnFloor_168 (by decide) ?_
        refine lv_goto (tgt := 173) hx hb dX8_againstOnFloor_169 (by decide) ?_
        exact B_Y8_againstOnFloor_173 x1 x2 x3 2 _ _ _ hE hp hP hD hS (lv_sub hl [0, 1, 2, 3] rfl)
    rw [if_neg s8] at hE hp
    have s8 := wNe (b := 8) rfl (by decide) s8
    by_cases s9 : x1 = 9
    · rw [if_pos s9] at hE hp
      refine lv_tableIn (off := 173) (tgt := 174) hx hb dX8_againstOnFloor_1 (by rw [s9]; decide) (by rw [s9]; decide) (by rw [s9]; decide) (by decide) ?_
      refine lv_aload_n hx hb dX8_againstOnFloor_174 rfl (lv_at hl 0 rfl) ?_
      refine lv_iload_n hx hb dX8_againstOnFloor_175 rfl (lv_at hl 2 rfl) ?_
      obtain ⟨hy35, hp⟩ := hp
      refine cGoi (va_runS (As := [.ref (ad x0), .int x2]) (rest := []) ⟨hx, hb, hml, hown, hts⟩ (c_Y8_againstDebate l G K ad S x0 x2 _) (va_cwS 2 hts (wGS t_ (mw (.methodLink RX8 59 yX8_againstDebate) (List.mem_of_getElem? (i := 11) rfl)) (mw (.static yX8_againstDebate) (List.mem_of_getElem? (i := 12) rfl)) (mw (.initialized RX8) (List.mem_of_getElem? (i := 3) rfl)) j_Y8_againstDebate) rfl rfl rfl (by decide +kernel) ⟨Nat.le_of_ble_eq_true rfl, Nat.le_of_ble_eq_true rfl⟩) (cPS hK hTE hP hD ⟨k_x0, hy35⟩) rfl rfl hl.1 rfl (lv_room (Nat.le_of_ble_eq_true rfl)) dX8_againstOnFloor_176 ⟨Nat.le_of_ble_eq_true rfl, Nat.le_of_ble_eq_true rfl⟩) hP hD hS hA (fun r37 u36 H locs hv hP hD hS => ?_)
      have h1 := congrArg Prod.fst hv
      have h2 := (congrArg Prod.snd hv).symm
      dsimp only at h1 h2
      subst h1
      subst h2
      subst hQ
      exact W.iret (v := (f_Y8_againstDebate S x0 x2)) hx hb hr (fun t ht hW => ⟨⟨(f_Y8_againstDebate S x0 x2), S, rfl, (pair_i (hE.trans hX.symm)), by rw [ht]; exact hP, hD⟩, hS.F ht⟩) hS.2.2 dX8_againstOnFloor_179
    rw [if_neg s9] at hE hp
    have s9 := wNe (b := 9) rfl (by decide) s9
    refine lv_tableOut (tgt := 180) hx hb dX8_againstOnFloor_1 (by omega) (by decide) ?_
    refine lv_bipush (v := 11) hx hb dX8_againstOnFloor_180 (by decide) ?_
    subst hQ
    exact W.iret (v := (11 : Int32)) hx hb hr (fun t ht hW => ⟨⟨(11 : Int32), S, rfl, (pair_i (hE.trans hX.symm)), by rw [ht]; exact hP, hD⟩, hS.F ht⟩) hS.2.2 dX8_againstOnFloor_182
  exact B_M a1 a2 a3 _ _ _ hX hp hP hD hS hl
theorem dX8_against_13 : decode cX8_against 13 = .ok (.istore 6, 2) := by decide +kernel
theorem dX8_against_15 : decode cX8_against 15 = .ok (.goto 34, 3) := by decide +kernel
set_option maxRecDepth 100000 in
theorem zc476 : wZ (.static yX8_againstOnFloor) := ⟨wT2 (List.mem_of_getElem? (i := 53) (by decide +kernel)), Or.inl rfl⟩
set_option maxRecDepth 100000 in
theorem zc477 : wZ (.methodLink RX8 9 yX8_againstOnFloor) := ⟨wT2 (List.mem_of_getElem? (i := 52) (by decide +kernel)), Or.inl rfl⟩
set_option maxRecDepth 100000 in
theorem zc478 : wZ (.static yX8_againstOnPaper) := ⟨wT2 (List.mem_of_getElem? (i := 91) (by decide +kernel)), Or.inl rfl⟩
set_option maxRecDepth 100000 in
theorem zc479 : wZ (.methodLink RX8 15 yX8_againstOnPaper) := ⟨wT2 (List.mem_of_getElem? (i := 90) (by decide +kernel)), Or.inl rfl⟩
set_option maxRecDepth 100000 in
theorem zc480 : wZ (.initialized RX3) := ⟨wT1 (List.mem_of_getElem? (i := 6) (by decide +kernel)), Or.inl rfl⟩
set_option maxRecDepth 100000 in
theorem zc481 : wZ (.selects RX3 yX3_isFull yX3_isFull) := ⟨wT2 (List.mem_of_getElem? (i := 192) (by decide +kernel)), Or.inl rfl⟩
set_option maxRecDepth 100000 in
theorem zc482 : wZ (.instanceMethod yX3_isFull) := ⟨wT2 (List.mem_of_getElem? (i := 191) (by decide +kernel)), Or.inl rfl⟩
set_option maxRecDepth 100000 in
theorem zc483 : wZ (.methodLink RX8 28 yX3_isFull) := ⟨wT2 (List.mem_of_getElem? (i := 190) (by decide +kernel)), Or.inl rfl⟩
set_option maxRecDepth 100000 in
theorem zc484 : wZ (.fieldLink RX8 22 "MotionFloor$Assembly" "minutes" "LMotionFloor$Ledger;") := ⟨wT1 (List.mem_of_getElem? (i := 195) (by decide +kernel)), Or.inl rfl⟩
set_option maxRecDepth 100000 in
theorem zc485 : wZ (.static yX8_againstOnMotion) := ⟨wT2 (List.mem_of_getElem? (i := 143) (by decide +kernel)), Or.inl rfl⟩
set_option maxRecDepth 100000 in
theorem zc486 : wZ (.methodLink RX8 19 yX8_againstOnMotion) := ⟨wT2 (List.mem_of_getElem? (i := 142) (by decide +kernel)), Or.inl rfl⟩
set_option maxRecDepth 100000 in
theorem zc487 : wZ (.code yX8_against cX8_against 7 (some .int)) := ⟨wT2 (List.mem_of_getElem? (i := 51) rfl), Or.inl rfl⟩
def b_Y8_against_71 (S : Cst) (x0 : Nat) (x1 : Int32) (x2 : Int32) (x3 : Int32) (x4 : Int32) (x5 : Int32) (x6 : Int32) (y0 : Int32) : Int32 := y0
def q_Y8_against_71 (S : Cst) (x0 : Nat) (x1 : Int32) (x2 : Int32) (x3 : Int32) (x4 : Int32) (x5 : Int32) (x6 : Int32) (y0 : Int32) : Prop := True
def b_Y8_against_69 (S : Cst) (x0 : Nat) (x1 : Int32) (x2 : Int32) (x3 : Int32) (x4 : Int32) (x5 : Int32) (x6 : Int32) : Int32 := (b_Y8_against_71 S x0 x1 x2 x3 x4 x5 x6 x6)
def q_Y8_against_69 (S : Cst) (x0 : Nat) (x1 : Int32) (x2 : Int32) (x3 : Int32) (x4 : Int32) (x5 : Int32) (x6 : Int32) : Prop := (q_Y8_against_71 S x0 x1 x2 x3 x4 x5 x6 x6)
def b_Y8_against_49 (S : Cst) (x0 : Nat) (x1 : Int32) (x2 : Int32) (x3 : Int32) (x4 : Int32) (x5 : Int32) (x6 : Int32) : Int32 := if x6 = 0 then if (f_Y3_isFull S ((grC S x0 4).getD 0)) = 0 then (b_Y8_against_69 S x0 x1 x2 x3 x4 x5 x6) else (b_Y8_against_71 S x0 x1 x2 x3 x4 x5 x6 10) else (b_Y8_against_69 S x0 x1 x2 x3 x4 x5 x6)
def q_Y8_against_49 (S : Cst) (x0 : Nat) (x1 : Int32) (x2 : Int32) (x3 : Int32) (x4 : Int32) (x5 : Int32) (x6 : Int32) : Prop := (if x6 = 0 then (iR S (grC S x0 4) 2) ∧ (p_Y3_isFull S ((grC S x0 4).getD 0)) ∧ (if (f_Y3_isFull S ((grC S x0 4).getD 0)) = 0 then (q_Y8_against_69 S x0 x1 x2 x3 x4 x5 x6) else (q_Y8_against_71 S x0 x1 x2 x3 x4 x5 x6 10)) else (q_Y8_against_69 S x0 x1 x2 x3 x4 x5 x6))
def f_Y8_against (S : Cst) (x0 : Nat) (x1 : Int32) (x2 : Int32) (x3 : Int32) (x4 : Int32) (x5 : Int32) : Int32 := if 9 < x1 then if 14 < x1 then (b_Y8_against_49 S x0 x1 x2 x3 x4 x5 (f_Y8_againstOnMotion S x0 x1 x2 x3)) else (b_Y8_against_49 S x0 x1 x2 x3 x4 x5 (f_Y8_againstOnPaper S x0 x1 x2 x3 x4 x5)) else (b_Y8_against_49 S x0 x1 x2 x3 x4 x5 (f_Y8_againstOnFloor S x0 x1 x2 x3))
def p_Y8_against (S : Cst) (x0 : Nat) (x1 : Int32) (x2 : Int32) (x3 : Int32) (x4 : Int32) (x5 : Int32) : Prop := (if 9 < x1 then (if 14 < x1 then (p_Y8_againstOnMotion S x0 x1 x2 x3) ∧ (q_Y8_against_49 S x0 x1 x2 x3 x4 x5 (f_Y8_againstOnMotion S x0 x1 x2 x3)) else (p_Y8_againstOnPaper S x0 x1 x2 x3 x4 x5) ∧ (q_Y8_against_49 S x0 x1 x2 x3 x4 x5 (f_Y8_againstOnPaper S x0 x1 x2 x3 x4 x5))) else (p_Y8_againstOnFloor S x0 x1 x2 x3) ∧ (q_Y8_against_49 S x0 x1 x2 x3 x4 x5 (f_Y8_againstOnFloor S x0 x1 x2 x3)))
def e_Y8_against : List Cond := [.methodLink RX8 19 yX8_againstOnMotion, .static yX8_againstOnMotion, .initialized RX8, .fieldLink RX8 22 "MotionFloor$Assembly" "minutes" "LMotionFloor$Ledger;", .methodLink RX8 28 yX3_isFull, .instanceMethod yX3_isFull, .selects RX3 yX3_isFull yX3_isFull, .initialized RX3, .methodLink RX8 15 yX8_againstOnPaper, .static yX8_againstOnPaper, .methodLink RX8 9 yX8_againstOnFloor, .static yX8_againstOnFloor]
def v_Y8_against : List Cond := .code yX8_against cX8_against 7 (some .int) :: (e_Y8_against ++ (wsX00 ++ (v_Y8_againstOnMotion ++ (v_Y3_isFull ++ (v_Y8_againstOnPaper ++ (v_Y8_againstOnFloor ++ []))))))
theorem te_Y8_against : GoodIn lw_tbl e_Y8_against := wGc zc486 (wGc zc485 (wGc zc373 (wGc zc484 (wGc zc483 (wGc zc482 (wGc zc481 (wGc zc480 (wGc zc479 (wGc zc478 (wGc zc477 (wGc zc476 (wG0))))))))))))
theorem t_Y8_against : GoodIn lw_tbl v_Y8_against := wGc zc487 (wGa te_Y8_against (wGa zcX0 (wGa t_Y8_againstOnMotion (wGa t_Y3_isFull (wGa t_Y8_againstOnPaper (wGa t_Y8_againstOnFloor (wG0)))))))
set_option maxHeartbeats 4000000 in
set_option maxRecDepth 100000 in
theorem c_Y8_against (l : Launch) (G : va_G) (K : Nat → ClassId) (ad : Nat → Nat) (S : Cst) (x0 : Nat) (a1 : Int32) (a2 : Int32) (a3 : Int32) (a4 : Int32) (a5 : Int32) (sz : Nat) : Met l yX8_against v_Y8_against ({ frames := 5, cells := 0, slots := 0, locals := 117 }) (va_Pc [.ref (ad x0), .int a1, .int a2, .int a3, .int a4, .int a5] (cSt G K ad sz S (iK S x0 0 ∧ p_Y8_against S x0 a1 a2 a3 a4 a5))) (va_Qi (fun (r : Int32) (u : Cst) => (r, u) = (f_Y8_against S x0 a1 a2 a3 a4 a5, S)) (cBt G K ad (va_A (wsC K ad S) sz)) (va_A (wsC K ad S) sz)) 0 0 (va_A (wsC K ad S) sz) := by
  refine Met.ofW (cc := cX8_against) (maxL := 7) (ret := (some .int)) (by decide) rfl ?_
  intro p e s m args below meth c s₁ B hml hv
  obtain ⟨rfl, ⟨hsz, hP, hK, hD0, hTE⟩, hp⟩ := hv
  obtain ⟨k_x0, hp⟩ := hp
  have hx := B.exec
  have hb := B.bytes
  have hr := B.returns
  have hts := atoms_spec (ws := v_Y8_against) B.pre
  have t_ := t_Y8_against
  have mw : ∀ w ∈ e_Y8_against, w ∈ v_Y8_against := fun w h => List.mem_cons_of_mem _ (List.mem_append_left _ h)
  have hw := fun w (h : w ∈ e_Y8_against) => hts w (mw w h)
  have iX0 : ∀ w ∈ wsX00, w ∈ v_Y8_against := fun w h => List.mem_cons_of_mem _ (List.mem_append_right _ (List.mem_append_left _ h))
  have j_Y8_againstOnMotion : ∀ w ∈ v_Y8_againstOnMotion, w ∈ v_Y8_against := fun w h => List.mem_cons_of_mem _ (List.mem_append_right _ (List.mem_append_right _ (List.mem_append_left _ h)))
  have j_Y3_isFull : ∀ w ∈ v_Y3_isFull, w ∈ v_Y8_against := fun w h => List.mem_cons_of_mem _ (List.mem_append_right _ (List.mem_append_right _ (List.mem_append_right _ (List.mem_append_left _ h))))
  have j_Y8_againstOnPaper : ∀ w ∈ v_Y8_againstOnPaper, w ∈ v_Y8_against := fun w h => List.mem_cons_of_mem _ (List.mem_append_right _ (List.mem_append_right _ (List.mem_append_right _ (List.mem_append_right _ (List.mem_append_left _ h)))))
  have j_Y8_againstOnFloor : ∀ w ∈ v_Y8_againstOnFloor, w ∈ v_Y8_against := fun w h => List.mem_cons_of_mem _ (List.mem_append_right _ (List.mem_append_right _ (List.mem_append_right _ (List.mem_append_right _ (List.mem_append_right _ (List.mem_append_left _ h))))))
  have hown : s.vm.findClass RX8 = some m.cls := findClass_of_methodNamed B.named
  have hlocks := B.notSynchronized
  subst hsz
  have hD := hD0.self (sz := s.heap.size)
  generalize hAe : va_A (wsC K ad S) s.heap.size = A at hD ⊢
  have hA : ∀ q : Nat, s.heap.size ≤ q → A q := fun q h => by rw [← hAe]; exact Or.inr h
  have hS : va_S A s.heap s.heap [] := va_S.rf
  have hl : lv_has (lg_sl ([.ref (ad x0), .int a1, .int a2, .int a3, .int a4, .int a5]) ++ List.replicate (7 - (lg_sl ([.ref (ad x0), .int a1, .int a2, .int a3, .int a4, .int a5])).length) Slot.unset).toArray 7 [(0, .ref (ad x0)), (1, .int a1), (2, .int a2), (3, .int a3), (4, .int a4), (5, .int a5)] := by
    exact lv_entry ([.ref (ad x0), .int a1, .int a2, .int a3, .int a4, .int a5]) (n := 7) (Nat.le_of_ble_eq_true rfl)
  rw [lg_entry_eq]
  generalize (lg_sl ([.ref (ad x0), .int a1, .int a2, .int a3, .int a4, .int a5]) ++ List.replicate (7 - (lg_sl ([.ref (ad x0), .int a1, .int a2, .int a3, .int a4, .int a5])).length) Slot.unset).toArray = ls_ at hl ⊢
  refine wGen (fun Q hQ => ?_)
  obtain ⟨X, hX⟩ : ∃ X, f_Y8_against S x0 a1 a2 a3 a4 a5 = X := ⟨_, rfl⟩
  have B_Y8_against_71 : ∀ (x1 : Int32) (x2 : Int32) (x3 : Int32) (x4 : Int32) (x5 : Int32) (x6 : Int32) (y0 : Int32) (H : Heap) (locs : List Loc) (ls_ : Array Slot), b_Y8_against_71 S x0 x1 x2 x3 x4 x5 x6 y0 = X → q_Y8_against_71 S x0 x1 x2 x3 x4 x5 x6 y0 → va_P G vwCl (wsC K ad S) H → va_D A (wsC K ad S) → va_S A s.heap H locs → lv_has ls_ 7 [(0, .ref (ad x0)), (1, .int x1), (2, .int x2), (3, .int x3), (4, .int x4), (5, .int x5), (6, .int x6)] → W p l e ({ frames := 5, cells := 0, slots := 0, locals := 117 } : Room) s m #[Value.ref (ad x0), Value.int a1, Value.int a2, Value.int a3, Value.int a4, Value.int a5] below meth c H locs 0 0 Q (F0 m 71 ls_ [.int y0]) := by
    intro x1 x2 x3 x4 x5 x6 y0 H locs ls_ hE hp hP hD hS hl
    unfold b_Y8_against_71 at hE
    unfold q_Y8_against_71 at hp
    subst hQ
    exact W.iret (v := y0) hx hb hr (fun t ht hW => ⟨⟨y0, S, rfl, (pair_i (hE.trans hX.symm)), by rw [ht]; exact hP, hD⟩, hS.F ht⟩) hS.2.2 dX8_against_71
  have B_Y8_against_69 : ∀ (x1 : Int32) (x2 : Int32) (x3 : Int32) (x4 : Int32) (x5 : Int32) (x6 : Int32) (H : Heap) (locs : List Loc) (ls_ : Array Slot), b_Y8_against_69 S x0 x1 x2 x3 x4 x5 x6 = X → q_Y8_against_69 S x0 x1 x2 x3 x4 x5 x6 → va_P G vwCl (wsC K ad S) H → va_D A (wsC K ad S) → va_S A s.heap H locs → lv_has ls_ 7 [(0, .ref (ad x0)), (1, .int x1), (2, .int x2), (3, .int x3), (4, .int x4), (5, .int x5), (6, .int x6)] → W p l e ({ frames := 5, cells := 0, slots := 0, locals := 117 } : Room) s m #[Value.ref (ad x0), Value.int a1, Value.int a2, Value.int a3, Value.int a4, Value.int a5] below meth c H locs 0 0 Q (F0 m 69 ls_ []) := by
    intro x1 x2 x3 x4 x5 x6 H locs ls_ hE hp hP hD hS hl
    unfold b_Y8_against_69 at hE
    unfold q_Y8_against_69 at hp
    refine lv_iload hx hb dX8_against_69 (lv_at hl 6 rfl) ?_
    exact B_Y8_against_71 x1 x2 x3 x4 x5 x6 x6 _ _ _ hE hp hP hD hS (lv_sub hl [0, 1, 2, 3, 4, 5, 6] rfl)
  have B_Y8_against_49 : ∀ (x1 : Int32) (x2 : Int32) (x3 : Int32) (x4 : Int32) (x5 : Int32) (x6 : Int32) (H : Heap) (locs : List Loc) (ls_ : Array Slot), b_Y8_against_49 S x0 x1 x2 x3 x4 x5 x6 = X → q_Y8_against_49 S x0 x1 x2 x3 x4 x5 x6 → va_P G vwCl (wsC K ad S) H → va_D A (wsC K ad S) → va_S A s.heap H locs → lv_has ls_ 7 [(0, .ref (ad x0)), (1, .int x1), (2, .int x2), (3, .int x3), (4, .int x4), (5, .int x5), (6, .int x6)] → W p l e ({ frames := 5, cells := 0, slots := 0, locals := 117 } : Room) s m #[Value.ref (ad x0), Value.int a1, Value.int a2, Value.int a3, Value.int a4, Value.int a5] below meth c H locs 0 0 Q (F0 m 49 ls_ []) := by
    intro x1 x2 x3 x4 x5 x6 H locs ls_ hE hp hP hD hS hl
    unfold b_Y8_against_49 at hE
    unfold q_Y8_against_49 at hp
    refine lv_iload hx hb dX8_against_49 (lv_at hl 6 rfl) ?_
    refine lv_if_ne (tgt := 69) hx hb dX8_against_51 (by decide) (fun c6 => ?_) (fun c6 => ?_)
    · rw [if_neg c6] at hE hp
      exact B_Y8_against_69 x1 x2 x3 x4 x5 x6 _ _ _ hE hp hP hD hS (lv_sub hl [0, 1, 2, 3, 4, 5, 6] rfl)
    · rw [if_pos c6] at hE hp
      refine lv_aload_n hx hb dX8_against_54 rfl (lv_at hl 0 rfl) ?_
      refine va_get (D := G) (ci := 0) (v := va_re ad (grC S x0 4)) (C := RX0) (T := TX0) (N := 11) hx hb hts iX0 hown hK hP x0 (at_0 k_x0) rfl 4 (by decide) (hw (.fieldLink RX8 22 "MotionFloor$Assembly" "minutes" "LMotionFloor$Ledger;") (List.mem_of_getElem? (i := 3) rfl)) (fun _ h9 => h9) rfl dX8_against_55 ?_
      obtain ⟨hy7, hp⟩ := hp
      refine cTop (r := (grC S x0 4)) hy7.1 ?_
      obtain ⟨hy8, hp⟩ := hp
      refine cGoi (va_runV (As := []) (rest := []) ⟨hx, hb, hml, hown, hts⟩ (c_Y3_isFull l G K ad S ((grC S x0 4).getD 0) _) (cwV 0 hts (wGV t_ (mw (.methodLink RX8 28 yX3_isFull) (List.mem_of_getElem? (i := 4) rfl)) (mw (.instanceMethod yX3_isFull) (List.mem_of_getElem? (i := 5) rfl)) (mw (.selects RX3 yX3_isFull yX3_isFull) (List.mem_of_getElem? (i := 6) rfl)) (mw (.initialized RX3) (List.mem_of_getElem? (i := 7) rfl)) j_Y3_isFull) rfl rfl rfl (by decide +kernel) ⟨Nat.le_of_ble_eq_true rfl, Nat.le_of_ble_eq_true rfl⟩) (cPV hK hTE hP hD 2 rfl (at_2 hy7.2) ⟨hy7.2, hy8⟩) rfl rfl hl.1 rfl (lv_room (Nat.le_of_ble_eq_true rfl)) dX8_against_58 ⟨Nat.le_of_ble_eq_true rfl, Nat.le_of_ble_eq_true rfl⟩) hP hD hS hA (fun r10 u9 H locs hv hP hD hS => ?_)
      have h1 := congrArg Prod.fst hv
      have h2 := (congrArg Prod.snd hv).symm
      dsimp only at h1 h2
      subst h1
      subst h2
      refine lv_if_eq (tgt := 69) hx hb dX8_against_61 (by decide) (fun c11 => ?_) (fun c11 => ?_)
      · rw [if_pos c11] at hE hp
        exact B_Y8_against_69 x1 x2 x3 x4 x5 x6 _ _ _ hE hp hP hD hS (lv_sub hl [0, 1, 2, 3, 4, 5, 6] rfl)
      · rw [if_neg c11] at hE hp
        refine lv_bipush (v := 10) hx hb dX8_against_64 (by decide) ?_
        refine lv_goto (tgt := 71) hx hb dX8_against_66 (by decide) ?_
        exact B_Y8_against_71 x1 x2 x3 x4 x5 x6 10 _ _ _ hE hp hP hD hS (lv_sub hl [0, 1, 2, 3, 4, 5, 6] rfl)
  have B_M : ∀ (x1 : Int32) (x2 : Int32) (x3 : Int32) (x4 : Int32) (x5 : Int32) (H : Heap) (locs : List Loc) (ls_ : Array Slot), f_Y8_against S x0 x1 x2 x3 x4 x5 = X → p_Y8_against S x0 x1 x2 x3 x4 x5 → va_P G vwCl (wsC K ad S) H → va_D A (wsC K ad S) → va_S A s.heap H locs → lv_has ls_ 7 [(0, .ref (ad x0)), (1, .int x1), (2, .int x2), (3, .int x3), (4, .int x4), (5, .int x5)] → W p l e ({ frames := 5, cells := 0, slots := 0, locals := 117 } : Room) s m #[Value.ref (ad x0), Value.int a1, Value.int a2, Value.int a3, Value.int a4, Value.int a5] below meth c H locs 0 0 Q (F0 m 0 ls_ []) := by
    intro x1 x2 x3 x4 x5 H locs ls_ hE hp hP hD hS hl
    unfold f_Y8_against at hE
    unfold p_Y8_against at hp
    refine lv_iload_n hx hb dX8_against_0 rfl (lv_at hl 1 rfl) ?_
    refine lv_bipush (v := 9) hx hb dX8_against_1 (by decide) ?_
    refine lv_icmp_gt (tgt := 18) hx hb dX8_against_3 (by decide) (fun c1 => ?_) (fun c1 => ?_)
    · rw [if_pos c1] at hE hp
      refine lv_iload_n hx hb dX8_against_18 rfl (lv_at hl 1 rfl) ?_
      refine lv_bipush (v := 14) hx hb dX8_against_19 (by decide) ?_
      refine lv_icmp_gt (tgt := 40) hx hb dX8_against_21 (by decide) (fun c2 => ?_) (fun c2 => ?_)
      · rw [if_pos c2] at hE hp
        refine lv_aload_n hx hb dX8_against_40 rfl (lv_at hl 0 rfl) ?_
        refine lv_iload_n hx hb dX8_against_41 rfl (lv_at hl 1 rfl) ?_
        refine lv_iload_n hx hb dX8_against_42 rfl (lv_at hl 2 rfl) ?_
        refine lv_iload_n hx hb dX8_against_43 rfl (lv_at hl 3 rfl) ?_
        obtain ⟨hy3, hp⟩ := hp
        refine cGoi (va_runS (As := [.ref (ad x0), .int x1, .int x2, .int x3]) (rest := []) ⟨hx, hb, hml, hown, hts⟩ (c_Y8_againstOnMotion l G K ad S x0 x1 x2 x3 _) (va_cwS 4 hts (wGS t_ (mw (.methodLink RX8 19 yX8_againstOnMotion) (List.mem_of_getElem? (i := 0) rfl)) (mw (.static yX8_againstOnMotion) (List.mem_of_getElem? (i := 1) rfl)) (mw (.initialized RX8) (List.mem_of_getElem? (i := 2) rfl)) j_Y8_againstOnMotion) rfl rfl rfl (by decide +kernel) ⟨Nat.le_of_ble_eq_true rfl, Nat.le_of_ble_eq_true rfl⟩) (cPS hK hTE hP hD ⟨k_x0, hy3⟩) rfl rfl hl.1 rfl (lv_room (Nat.le_of_ble_eq_true rfl)) dX8_against_44 ⟨Nat.le_of_ble_eq_true rfl, Nat.le_of_ble_eq_true rfl⟩) hP hD hS hA (fun r5 u4 H locs hv hP hD hS => ?_)
        have h1 := congrArg Prod.fst hv
        have h2 := (congrArg Prod.snd hv).symm
        dsimp only at h1 h2
        subst h1
        subst h2
        refine lv_istore (i := 6) (lv' := [(6, .int (f_Y8_againstOnMotion S x0 x1 x2 x3)), (0, .ref (ad x0)), (1, .int x1), (2, .int x2), (3, .int x3), (4, .int x4), (5, .int x5)]) hx hb dX8_against_47 hl (by decide) rfl (fun ls_ hl => ?_)
        exact B_Y8_against_49 x1 x2 x3 x4 x5 (f_Y8_againstOnMotion S x0 x1 x2 x3) _ _ _ hE hp hP hD hS (lv_sub hl [1, 2, 3, 4, 5, 6, 0] rfl)
      · rw [if_neg c2] at hE hp
        refine lv_aload_n hx hb dX8_against_24 rfl (lv_at hl 0 rfl) ?_
        refine lv_iload_n hx hb dX8_against_25 rfl (lv_at hl 1 rfl) ?_
        refine lv_iload_n hx hb dX8_against_26 rfl (lv_at hl 2 rfl) ?_
        refine lv_iload_n hx hb dX8_against_27 rfl (lv_at hl 3 rfl) ?_
        refine lv_iload hx hb dX8_against_28 (lv_at hl 4 rfl) ?_
        refine lv_iload hx hb dX8_against_30 (lv_at hl 5 rfl) ?_
        obtain ⟨hy12, hp⟩ := hp
        refine cGoi (va_runS (As := [.ref (ad x0), .int x1, .int x2, .int x3, .int x4, .int x5]) (rest := []) ⟨hx, hb, hml, hown, hts⟩ (c_Y8_againstOnPaper l G K ad S x0 x1 x2 x3 x4 x5 _) (va_cwS 6 hts (wGS t_ (mw (.methodLink RX8 15 yX8_againstOnPaper) (List.mem_of_getElem? (i := 8) rfl)) (mw (.static yX8_againstOnPaper) (List.mem_of_getElem? (i := 9) rfl)) (mw (.initialized RX8) (List.mem_of_getElem? (i := 2) rfl)) j_Y8_againstOnPaper) rfl rfl rfl (by decide +kernel) ⟨Nat.le_of_ble_eq_true rfl, Nat.le_of_ble_eq_true rfl⟩) (cPS hK hTE hP hD ⟨k_x0, hy12⟩) rfl rfl hl.1 rfl (lv_room (Nat.le_of_ble_eq_true rfl)) dX8_against_32 ⟨Nat.le_of_ble_eq_true rfl, Nat.le_of_ble_eq_true rfl⟩) hP hD hS hA (fun r14 u13 H locs hv hP hD hS => ?_)
        have h1 := congrArg Prod.fst hv
        have h2 := (congrArg Prod.snd hv).symm
        dsimp only at h1 h2
        subst h1
        subst h2
        refine lv_istore (i := 6) (lv' := [(6, .int (f_Y8_againstOnPaper S x0 x1 x2 x3 x4 x5)), (0, .ref (ad x0)), (1, .int x1), (2, .int x2), (3, .int x3), (4, .int x4), (5, .int x5)]) hx hb dX8_against_35 hl (by decide) rfl (fun ls_ hl => ?_)
        refine lv_goto (tgt := 49) hx hb dX8_against_37 (by decide) ?_
        exact B_Y8_against_49 x1 x2 x3 x4 x5 (f_Y8_againstOnPaper S x0 x1 x2 x3 x4 x5) _ _ _ hE hp hP hD hS (lv_sub hl [1, 2, 3, 4, 5, 6, 0] rfl)
    · rw [if_neg c1] at hE hp
      refine lv_aload_n hx hb dX8_against_6 rfl (lv_at hl 0 rfl) ?_
      refine lv_iload_n hx hb dX8_against_7 rfl (lv_at hl 1 rfl) ?_
      refine lv_iload_n hx hb dX8_against_8 rfl (lv_at hl 2 rfl) ?_
      refine lv_iload_n hx hb dX8_against_9 rfl (lv_at hl 3 rfl) ?_
      obtain ⟨hy15, hp⟩ := hp
      refine cGoi (va_runS (As := [.ref (ad x0), .int x1, .int x2, .int x3]) (rest := []) ⟨hx, hb, hml, hown, hts⟩ (c_Y8_againstOnFloor l G K ad S x0 x1 x2 x3 _) (va_cwS 4 hts (wGS t_ (mw (.methodLink RX8 9 yX8_againstOnFloor) (List.mem_of_getElem? (i := 10) rfl)) (mw (.static yX8_againstOnFloor) (List.mem_of_getElem? (i := 11) rfl)) (mw (.initialized RX8) (List.mem_of_getElem? (i := 2) rfl)) j_Y8_againstOnFloor) rfl rfl rfl (by decide +kernel) ⟨Nat.le_of_ble_eq_true rfl, Nat.le_of_ble_eq_true rfl⟩) (cPS hK hTE hP hD ⟨k_x0, hy15⟩) rfl rfl hl.1 rfl (lv_room (Nat.le_of_ble_eq_true rfl)) dX8_against_10 ⟨Nat.le_of_ble_eq_true rfl, Nat.le_of_ble_eq_true rfl⟩) hP hD hS hA (fun r17 u16 H locs hv hP hD hS => ?_)
      have h1 := congrArg Prod.fst hv
      have h2 := (congrArg Prod.snd hv).symm
      dsimp only at h1 h2
      subst h1
      subst h2
      refine lv_istore (i := 6) (lv' := [(6, .int (f_Y8_againstOnFloor S x0 x1 x2 x3)), (0, .ref (ad x0)), (1, .int x1), (2, .int x2), (3, .int x3), (4, .int x4), (5, .int x5)]) hx hb dX8_against_13 hl (by decide) rfl (fun ls_ hl => ?_)
      refine lv_goto (tgt := 49) hx hb dX8_against_15 (by decide) ?_
      exact B_Y8_against_49 x1 x2 x3 x4 x5 (f_Y8_againstOnFloor S x0 x1 x2 x3) _ _ _ hE hp hP hD hS (lv_sub hl [1, 2, 3, 4, 5, 6, 0] rfl)
  exact B_M a1 a2 a3 a4 a5 _ _ _ hX hp hP hD hS hl
theorem gdX10_seats_0 : ckS (List.drop 0 cX10_seats.data.toList) 0 [(0, .iload_n 1, 1), (1, .iconst 1, 1), (2, .if_icmp .lt 10, 3), (5, .iload_n 1, 1), (6, .sipush 200, 3), (9, .if_icmp .le 6, 3), (12, .bipush (-9), 2), (14, .ireturn, 1), (15, .aload_n 0, 1), (16, .getfield 10, 3), (19, .iload_n 1, 1), (20, .invokevirtual 28, 3), (23, .iload_n 1, 1), (24, .ireturn, 1)] = true := by decide +kernel
theorem dX10_seats_0 : decode cX10_seats 0 = .ok (.iload_n 1, 1) := ckS_g gdX10_seats_0 0 rfl
theorem dX10_seats_1 : decode cX10_seats 1 = .ok (.iconst 1, 1) := ckS_g gdX10_seats_0 1 rfl
theorem dX10_seats_2 : decode cX10_seats 2 = .ok (.if_icmp .lt 10, 3) := ckS_g gdX10_seats_0 2 rfl
theorem dX10_seats_5 : decode cX10_seats 5 = .ok (.iload_n 1, 1) := ckS_g gdX10_seats_0 3 rfl
theorem dX10_seats_6 : decode cX10_seats 6 = .ok (.sipush 200, 3) := ckS_g gdX10_seats_0 4 rfl
theorem dX10_seats_9 : decode cX10_seats 9 = .ok (.if_icmp .le 6, 3) := ckS_g gdX10_seats_0 5 rfl
theorem dX10_seats_12 : decode cX10_seats 12 = .ok (.bipush (-9), 2) := ckS_g gdX10_seats_0 6 rfl
theorem dX10_seats_14 : decode cX10_seats 14 = .ok (.ireturn, 1) := ckS_g gdX10_seats_0 7 rfl
theorem dX10_seats_15 : decode cX10_seats 15 = .ok (.aload_n 0, 1) := ckS_g gdX10_seats_0 8 rfl
theorem dX10_seats_16 : decode cX10_seats 16 = .ok (.getfield 10, 3) := ckS_g gdX10_seats_0 9 rfl
theorem dX10_seats_19 : decode cX10_seats 19 = .ok (.iload_n 1, 1) := ckS_g gdX10_seats_0 10 rfl
theorem dX10_seats_20 : decode cX10_seats 20 = .ok (.invokevirtual 28, 3) := ckS_g gdX10_seats_0 11 rfl
theorem dX10_seats_23 : decode cX10_seats 23 = .ok (.iload_n 1, 1) := ckS_g gdX10_seats_0 12 rfl
theorem dX10_seats_24 : decode cX10_seats 24 = .ok (.ireturn, 1) := ckS_g gdX10_seats_0 13 rfl
set_option maxRecDepth 100000 in
theorem zc488 : wZ (.laysFinal "MotionFloor" "MotionFloor" "now" "LMotionFloor$Assembly;") := ⟨wT2 (List.mem_of_getElem? (i := 2) (by decide +kernel)), Or.inl rfl⟩
set_option maxRecDepth 100000 in
theorem zc489 : wZ (.laysFinal "MotionFloor" "MotionFloor" "trial" "LMotionFloor$Assembly;") := ⟨wT2 (List.mem_of_getElem? (i := 4) (by decide +kernel)), Or.inl rfl⟩
set_option maxRecDepth 100000 in
theorem zc490 : wZ (.lays "MotionFloor" "MotionFloor" "firstImage" "LMotionFloor$Assembly;") := ⟨wT2 (List.mem_of_getElem? (i := 6) (by decide +kernel)), Or.inl rfl⟩
set_option maxRecDepth 100000 in
theorem zc491 : wZ (.lays "MotionFloor" "MotionFloor" "secondImage" "LMotionFloor$Assembly;") := ⟨wT2 (List.mem_of_getElem? (i := 8) (by decide +kernel)), Or.inl rfl⟩
set_option maxRecDepth 100000 in
theorem zc492 : wZ (.laysFinal "MotionFloor" "MotionFloor" "row" "LMotionFloor$Ledger;") := ⟨wT2 (List.mem_of_getElem? (i := 10) (by decide +kernel)), Or.inl rfl⟩
theorem zcX10 : GoodIn lw_tbl wsX100 := by
  show GoodIn lw_tbl [.laysFinal "MotionFloor" "MotionFloor" "now" "LMotionFloor$Assembly;", .laysFinal "MotionFloor" "MotionFloor" "trial" "LMotionFloor$Assembly;", .lays "MotionFloor" "MotionFloor" "firstImage" "LMotionFloor$Assembly;", .lays "MotionFloor" "MotionFloor" "secondImage" "LMotionFloor$Assembly;", .laysFinal "MotionFloor" "MotionFloor" "row" "LMotionFloor$Ledger;"]
  exact wGc zc488 (wGc zc489 (wGc zc490 (wGc zc491 (wGc zc492 (wG0)))))
set_option maxRecDepth 100000 in
theorem zc493 : wZ (.selects RX0 yX0_begin yX0_begin) := ⟨wT2 (List.mem_of_getElem? (i := 19) (by decide +kernel)), Or.inl rfl⟩
set_option maxRecDepth 100000 in
theorem zc494 : wZ (.instanceMethod yX0_begin) := ⟨wT2 (List.mem_of_getElem? (i := 18) (by decide +kernel)), Or.inl rfl⟩
set_option maxRecDepth 100000 in
theorem zc495 : wZ (.methodLink RX10 28 yX0_begin) := ⟨wT2 (List.mem_of_getElem? (i := 17) (by decide +kernel)), Or.inl rfl⟩
set_option maxRecDepth 100000 in
theorem zc496 : wZ (.fieldLink RX10 10 "MotionFloor" "now" "LMotionFloor$Assembly;") := ⟨wT1 (List.mem_of_getElem? (i := 237) (by decide +kernel)), Or.inl rfl⟩
set_option maxRecDepth 100000 in
theorem zc497 : wZ (.code yX10_seats cX10_seats 2 (some .int)) := ⟨wT2 (List.mem_of_getElem? (i := 16) rfl), Or.inl rfl⟩
def b_Y10_seats_12 (S : Cst) (x0 : Nat) (x1 : Int32) : Int32 × Cst := (((-9) : Int32), S)
def q_Y10_seats_12 (S : Cst) (x0 : Nat) (x1 : Int32) : Prop := True
def b_Y10_seats_23a (S : Cst) (x0 : Nat) (x1 : Int32) : Int32 × Cst := (x1, S)
def q_Y10_seats_23a (S : Cst) (x0 : Nat) (x1 : Int32) : Prop := True
def f_Y10_seats (S : Cst) (x0 : Nat) (x1 : Int32) : Int32 × Cst := if x1 < 1 then (b_Y10_seats_12 S x0 x1) else if x1 ≤ 200 then (b_Y10_seats_23a ((f_Y0_begin S ((grC S x0 0).getD 0) x1).2) x0 x1) else (b_Y10_seats_12 S x0 x1)
def p_Y10_seats (S : Cst) (x0 : Nat) (x1 : Int32) : Prop := (if x1 < 1 then (q_Y10_seats_12 S x0 x1) else (if x1 ≤ 200 then (iR S (grC S x0 0) 0) ∧ (p_Y0_begin S ((grC S x0 0).getD 0) x1) ∧ (q_Y10_seats_23a ((f_Y0_begin S ((grC S x0 0).getD 0) x1).2) x0 x1) else (q_Y10_seats_12 S x0 x1)))
def e_Y10_seats : List Cond := [.fieldLink RX10 10 "MotionFloor" "now" "LMotionFloor$Assembly;", .methodLink RX10 28 yX0_begin, .instanceMethod yX0_begin, .selects RX0 yX0_begin yX0_begin, .initialized RX0]
def v_Y10_seats : List Cond := .code yX10_seats cX10_seats 2 (some .int) :: (e_Y10_seats ++ (wsX100 ++ (v_Y0_begin ++ [])))
theorem te_Y10_seats : GoodIn lw_tbl e_Y10_seats := wGc zc496 (wGc zc495 (wGc zc494 (wGc zc493 (wGc zc39 (wG0)))))
theorem t_Y10_seats : GoodIn lw_tbl v_Y10_seats := wGc zc497 (wGa te_Y10_seats (wGa zcX10 (wGa t_Y0_begin (wG0))))
set_option maxHeartbeats 4000000 in
set_option maxRecDepth 100000 in
theorem c_Y10_seats (l : Launch) (G : va_G) (K : Nat → ClassId) (ad : Nat → Nat) (S0 : Cst) (x0 : Nat) (a1 : Int32) (sz : Nat) : Met l yX10_seats v_Y10_seats ({ frames := 6, cells := 0, slots := 0, locals := 128 }) (va_Pc [.ref (ad x0), .int a1] (cSt G K ad sz S0 (iK S0 x0 7 ∧ p_Y10_seats S0 x0 a1))) (va_Qi (fun (r : Int32) (u : Cst) => (r, u) = f_Y10_seats S0 x0 a1 ∧ eK S0 u) (cBt G K ad (va_A (wsC K ad S0) sz)) (va_A (wsC K ad S0) sz)) 0 0 (va_A (wsC K ad S0) sz) := by
  refine Met.ofW (cc := cX10_seats) (maxL := 2) (ret := (some .int)) (by decide) rfl ?_
  intro p e s m args below meth c s₁ B hml hv
  obtain ⟨rfl, ⟨hsz, hP, hK, hD0, hTE⟩, hp⟩ := hv
  obtain ⟨k_x0, hp⟩ := hp
  have hx := B.exec
  have hb := B.bytes
  have hr := B.returns
  have hts := atoms_spec (ws := v_Y10_seats) B.pre
  have t_ := t_Y10_seats
  have mw : ∀ w ∈ e_Y10_seats, w ∈ v_Y10_seats := fun w h => List.mem_cons_of_mem _ (List.mem_append_left _ h)
  have hw := fun w (h : w ∈ e_Y10_seats) => hts w (mw w h)
  have iX10 : ∀ w ∈ wsX100, w ∈ v_Y10_seats := fun w h => List.mem_cons_of_mem _ (List.mem_append_right _ (List.mem_append_left _ h))
  have j_Y0_begin : ∀ w ∈ v_Y0_begin, w ∈ v_Y10_seats := fun w h => List.mem_cons_of_mem _ (List.mem_append_right _ (List.mem_append_right _ (List.mem_append_left _ h)))
  have hown : s.vm.findClass RX10 = some m.cls := findClass_of_methodNamed B.named
  have hlocks := B.notSynchronized
  subst hsz
  have hD := hD0.self (sz := s.heap.size)
  generalize hAe : va_A (wsC K ad S0) s.heap.size = A at hD ⊢
  have hA : ∀ q : Nat, s.heap.size ≤ q → A q := fun q h => by rw [← hAe]; exact Or.inr h
  have hS : va_S A s.heap s.heap [] := va_S.rf
  have hl : lv_has (lg_sl ([.ref (ad x0), .int a1]) ++ List.replicate (2 - (lg_sl ([.ref (ad x0), .int a1])).length) Slot.unset).toArray 2 [(0, .ref (ad x0)), (1, .int a1)] := by
    exact lv_entry ([.ref (ad x0), .int a1]) (n := 2) (Nat.le_of_ble_eq_true rfl)
  rw [lg_entry_eq]
  generalize (lg_sl ([.ref (ad x0), .int a1]) ++ List.replicate (2 - (lg_sl ([.ref (ad x0), .int a1])).length) Slot.unset).toArray = ls_ at hl ⊢
  refine wGen (fun Q hQ => ?_)
  obtain ⟨X, hX⟩ : ∃ X, f_Y10_seats S0 x0 a1 = X := ⟨_, rfl⟩
  have B_Y10_seats_12 : ∀ (S : Cst) (x1 : Int32) (H : Heap) (locs : List Loc) (ls_ : Array Slot), b_Y10_seats_12 S x0 x1 = X → q_Y10_seats_12 S x0 x1 → eK S0 S → va_P G vwCl (wsC K ad S) H → va_D A (wsC K ad S) → va_S A s.heap H locs → lv_has ls_ 2 [(0, .ref (ad x0)), (1, .int x1)] → W p l e ({ frames := 6, cells := 0, slots := 0, locals := 128 } : Room) s m #[Value.ref (ad x0), Value.int a1] below meth c H locs 0 0 Q (F0 m 12 ls_ []) := by
    intro S x1 H locs ls_ hE hp hZ hP hD hS hl
    unfold b_Y10_seats_12 at hE
    unfold q_Y10_seats_12 at hp
    refine lv_bipush (v := (-9)) hx hb dX10_seats_12 (by decide) ?_
    subst hQ
    exact W.iret (v := ((-9) : Int32)) hx hb hr (fun t ht hW => ⟨⟨((-9) : Int32), S, rfl, ⟨hE.trans hX.symm, hZ⟩, by rw [ht]; exact hP, hD⟩, hS.F ht⟩) hS.2.2 dX10_seats_14
  have B_Y10_seats_23a : ∀ (S : Cst) (x1 : Int32) (H : Heap) (locs : List Loc) (ls_ : Array Slot), b_Y10_seats_23a S x0 x1 = X → q_Y10_seats_23a S x0 x1 → eK S0 S → va_P G vwCl (wsC K ad S) H → va_D A (wsC K ad S) → va_S A s.heap H locs → lv_has ls_ 2 [(0, .ref (ad x0)), (1, .int x1)] → W p l e ({ frames := 6, cells := 0, slots := 0, locals := 128 } : Room) s m #[Value.ref (ad x0), Value.int a1] below meth c H locs 0 0 Q (F0 m 23 ls_ []) := by
    intro S x1 H locs ls_ hE hp hZ hP hD hS hl
    unfold b_Y10_seats_23a at hE
    unfold q_Y10_seats_23a at hp
    refine lv_iload_n hx hb dX10_seats_23 rfl (lv_at hl 1 rfl) ?_
    subst hQ
    exact W.iret (v := x1) hx hb hr (fun t ht hW => ⟨⟨x1, S, rfl, ⟨hE.trans hX.symm, hZ⟩, by rw [ht]; exact hP, hD⟩, hS.F ht⟩) hS.2.2 dX10_seats_24
  have B_M : ∀ (S : Cst) (x1 : Int32) (H : Heap) (locs : List Loc) (ls_ : Array Slot), f_Y10_seats S x0 x1 = X → p_Y10_seats S x0 x1 → eK S0 S → va_P G vwCl (wsC K ad S) H → va_D A (wsC K ad S) → va_S A s.heap H locs → lv_has ls_ 2 [(0, .ref (ad x0)), (1, .int x1)] → W p l e ({ frames := 6, cells := 0, slots := 0, locals := 128 } : Room) s m #[Value.ref (ad x0), Value.int a1] below meth c H locs 0 0 Q (F0 m 0 ls_ []) := by
    intro S x1 H locs ls_ hE hp hZ hP hD hS hl
    unfold f_Y10_seats at hE
    unfold p_Y10_seats at hp
    refine lv_iload_n hx hb dX10_seats_0 rfl (lv_at hl 1 rfl) ?_
    refine lv_iconst (v := 1) hx hb dX10_seats_1 (by decide) ?_
    refine lv_icmp_lt (tgt := 12) hx hb dX10_seats_2 (by decide) (fun c1 => ?_) (fun c1 => ?_)
    · rw [if_pos c1] at hE hp
      exact B_Y10_seats_12 S x1 _ _ _ hE hp hZ hP hD hS (lv_sub hl [0, 1] rfl)
    · rw [if_neg c1] at hE hp
      refine lv_iload_n hx hb dX10_seats_5 rfl (lv_at hl 1 rfl) ?_
      refine lv_sipush (v := 200) hx hb dX10_seats_6 (by decide) ?_
      refine lv_icmp_le (tgt := 15) hx hb dX10_seats_9 (by decide) (fun c2 => ?_) (fun c2 => ?_)
      · rw [if_pos c2] at hE hp
        refine lv_aload_n hx hb dX10_seats_15 rfl (lv_at hl 0 rfl) ?_
        refine va_get (D := G) (ci := 7) (v := va_re ad (grC S x0 0)) (C := RX10) (T := TX10) (N := 5) hx hb hts iX10 hown hK hP x0 (at_7 (k_x0.e hZ)) rfl 0 (by decide) (hw (.fieldLink RX10 10 "MotionFloor" "now" "LMotionFloor$Assembly;") (List.mem_of_getElem? (i := 0) rfl)) (fun _ h9 => h9) rfl dX10_seats_16 ?_
        refine lv_iload_n hx hb dX10_seats_19 rfl (lv_at hl 1 rfl) ?_
        obtain ⟨hy3, hp⟩ := hp
        refine cTop2 (r := (grC S x0 0)) hy3.1 ?_
        obtain ⟨hy4, hp⟩ := hp
        refine cGov (va_runV (As := [.int x1]) (rest := []) ⟨hx, hb, hml, hown, hts⟩ (c_Y0_begin l G K ad S ((grC S x0 0).getD 0) x1 _) (cwV 1 hts (wGV t_ (mw (.methodLink RX10 28 yX0_begin) (List.mem_of_getElem? (i := 1) rfl)) (mw (.instanceMethod yX0_begin) (List.mem_of_getElem? (i := 2) rfl)) (mw (.selects RX0 yX0_begin yX0_begin) (List.mem_of_getElem? (i := 3) rfl)) (mw (.initialized RX0) (List.mem_of_getElem? (i := 4) rfl)) j_Y0_begin) rfl rfl rfl (by decide +kernel) ⟨Nat.le_of_ble_eq_true rfl, Nat.le_of_ble_eq_true rfl⟩) (cPV hK hTE hP hD 0 rfl (at_0 hy3.2) ⟨hy3.2, hy4⟩) rfl rfl hl.1 rfl (lv_room (Nat.le_of_ble_eq_true rfl)) dX10_seats_20 ⟨Nat.le_of_ble_eq_true rfl, Nat.le_of_ble_eq_true rfl⟩) hP hD hS hA (fun u5 H locs hv hP hD hS => ?_)
        obtain ⟨hv, hz⟩ := hv
        have hZ := hZ.tr hz
        rw [← hv] at hE hp
        dsimp only at hE hp
        exact B_Y10_seats_23a u5 x1 _ _ _ hE hp hZ hP hD hS (lv_sub hl [0, 1] rfl)
      · rw [if_neg c2] at hE hp
        exact B_Y10_seats_12 S x1 _ _ _ hE hp hZ hP hD hS (lv_sub hl [0, 1] rfl)
  exact B_M S0 a1 _ _ _ hX hp (eK.rf S0) hP hD hS hl
