theorem gdX0_newMotion_0 : ckS (List.drop 0 cX0_newMotion.data.toList) 0 [(0, .aload_n 0, 1), (1, .getfield 130, 3), (4, .astore_n 2, 1), (5, .aload_n 2, 1), (6, .ifnonnull 14, 3), (9, .new 102, 3), (12, .dup, 1), (13, .invokespecial 137, 3), (16, .astore_n 2, 1), (17, .goto 16, 3), (20, .aload_n 0, 1), (21, .aload_n 2, 1), (22, .getfield 134, 3), (25, .putfield 130, 3), (28, .aload_n 2, 1), (29, .aconst_null, 1), (30, .putfield 134, 3), (33, .aload_n 2, 1), (34, .iload_n 1, 1), (35, .invokevirtual 138, 3), (38, .aload_n 2, 1), (39, .areturn, 1)] = true := by decide +kernel
theorem dX0_newMotion_0 : decode cX0_newMotion 0 = .ok (.aload_n 0, 1) := ckS_g gdX0_newMotion_0 0 rfl
theorem dX0_newMotion_1 : decode cX0_newMotion 1 = .ok (.getfield 130, 3) := ckS_g gdX0_newMotion_0 1 rfl
theorem dX0_newMotion_4 : decode cX0_newMotion 4 = .ok (.astore_n 2, 1) := ckS_g gdX0_newMotion_0 2 rfl
theorem dX0_newMotion_5 : decode cX0_newMotion 5 = .ok (.aload_n 2, 1) := ckS_g gdX0_newMotion_0 3 rfl
theorem dX0_newMotion_6 : decode cX0_newMotion 6 = .ok (.ifnonnull 14, 3) := ckS_g gdX0_newMotion_0 4 rfl
theorem dX0_newMotion_9 : decode cX0_newMotion 9 = .ok (.new 102, 3) := ckS_g gdX0_newMotion_0 5 rfl
theorem dX0_newMotion_12 : decode cX0_newMotion 12 = .ok (.dup, 1) := ckS_g gdX0_newMotion_0 6 rfl
theorem dX0_newMotion_13 : decode cX0_newMotion 13 = .ok (.invokespecial 137, 3) := ckS_g gdX0_newMotion_0 7 rfl
theorem dX0_newMotion_16 : decode cX0_newMotion 16 = .ok (.astore_n 2, 1) := ckS_g gdX0_newMotion_0 8 rfl
theorem dX0_newMotion_17 : decode cX0_newMotion 17 = .ok (.goto 16, 3) := ckS_g gdX0_newMotion_0 9 rfl
theorem dX0_newMotion_20 : decode cX0_newMotion 20 = .ok (.aload_n 0, 1) := ckS_g gdX0_newMotion_0 10 rfl
theorem dX0_newMotion_21 : decode cX0_newMotion 21 = .ok (.aload_n 2, 1) := ckS_g gdX0_newMotion_0 11 rfl
theorem dX0_newMotion_22 : decode cX0_newMotion 22 = .ok (.getfield 134, 3) := ckS_g gdX0_newMotion_0 12 rfl
theorem dX0_newMotion_25 : decode cX0_newMotion 25 = .ok (.putfield 130, 3) := ckS_g gdX0_newMotion_0 13 rfl
theorem dX0_newMotion_28 : decode cX0_newMotion 28 = .ok (.aload_n 2, 1) := ckS_g gdX0_newMotion_0 14 rfl
theorem dX0_newMotion_29 : decode cX0_newMotion 29 = .ok (.aconst_null, 1) := ckS_g gdX0_newMotion_0 15 rfl
theorem dX0_newMotion_30 : decode cX0_newMotion 30 = .ok (.putfield 134, 3) := ckS_g gdX0_newMotion_0 16 rfl
theorem dX0_newMotion_33 : decode cX0_newMotion 33 = .ok (.aload_n 2, 1) := ckS_g gdX0_newMotion_0 17 rfl
theorem dX0_newMotion_34 : decode cX0_newMotion 34 = .ok (.iload_n 1, 1) := ckS_g gdX0_newMotion_0 18 rfl
theorem dX0_newMotion_35 : decode cX0_newMotion 35 = .ok (.invokevirtual 138, 3) := ckS_g gdX0_newMotion_0 19 rfl
theorem dX0_newMotion_38 : decode cX0_newMotion 38 = .ok (.aload_n 2, 1) := ckS_g gdX0_newMotion_0 20 rfl
theorem dX0_newMotion_39 : decode cX0_newMotion 39 = .ok (.areturn, 1) := ckS_g gdX0_newMotion_0 21 rfl
theorem dX4_init_19 : decode cX4_init 19 = .ok (.newarray .byte, 2) := by decide +kernel
theorem gdX4_init_0 : ckS (List.drop 0 cX4_init.data.toList) 0 [(0, .aload_n 0, 1), (1, .invokespecial 3, 3), (4, .aload_n 0, 1), (5, .new 9, 3), (8, .dup, 1), (9, .invokespecial 11, 3), (12, .putfield 12, 3), (15, .aload_n 0, 1), (16, .sipush 200, 3), (21, .putfield 18, 3), (24, .return_, 1)] = true := by decide +kernel
theorem dX4_init_0 : decode cX4_init 0 = .ok (.aload_n 0, 1) := ckS_g gdX4_init_0 0 rfl
theorem dX4_init_1 : decode cX4_init 1 = .ok (.invokespecial 3, 3) := ckS_g gdX4_init_0 1 rfl
theorem dX4_init_4 : decode cX4_init 4 = .ok (.aload_n 0, 1) := ckS_g gdX4_init_0 2 rfl
theorem dX4_init_5 : decode cX4_init 5 = .ok (.new 9, 3) := ckS_g gdX4_init_0 3 rfl
theorem dX4_init_8 : decode cX4_init 8 = .ok (.dup, 1) := ckS_g gdX4_init_0 4 rfl
theorem dX4_init_9 : decode cX4_init 9 = .ok (.invokespecial 11, 3) := ckS_g gdX4_init_0 5 rfl
theorem dX4_init_12 : decode cX4_init 12 = .ok (.putfield 12, 3) := ckS_g gdX4_init_0 6 rfl
theorem dX4_init_15 : decode cX4_init 15 = .ok (.aload_n 0, 1) := ckS_g gdX4_init_0 7 rfl
theorem dX4_init_16 : decode cX4_init 16 = .ok (.sipush 200, 3) := ckS_g gdX4_init_0 8 rfl
theorem dX4_init_21 : decode cX4_init 21 = .ok (.putfield 18, 3) := ckS_g gdX4_init_0 9 rfl
theorem dX4_init_24 : decode cX4_init 24 = .ok (.return_, 1) := ckS_g gdX4_init_0 10 rfl
theorem dX9_init_8 : decode cX9_init 8 = .ok (.newarray .int, 2) := by decide +kernel
theorem gdX9_init_0 : ckS (List.drop 0 cX9_init.data.toList) 0 [(0, .aload_n 0, 1), (1, .invokespecial 3, 3), (4, .aload_n 0, 1), (5, .sipush 400, 3), (10, .putfield 9, 3), (13, .return_, 1)] = true := by decide +kernel
theorem dX9_init_0 : decode cX9_init 0 = .ok (.aload_n 0, 1) := ckS_g gdX9_init_0 0 rfl
theorem dX9_init_1 : decode cX9_init 1 = .ok (.invokespecial 3, 3) := ckS_g gdX9_init_0 1 rfl
theorem dX9_init_4 : decode cX9_init 4 = .ok (.aload_n 0, 1) := ckS_g gdX9_init_0 2 rfl
theorem dX9_init_5 : decode cX9_init 5 = .ok (.sipush 400, 3) := ckS_g gdX9_init_0 3 rfl
theorem dX9_init_10 : decode cX9_init 10 = .ok (.putfield 9, 3) := ckS_g gdX9_init_0 4 rfl
theorem dX9_init_13 : decode cX9_init 13 = .ok (.return_, 1) := ckS_g gdX9_init_0 5 rfl
set_option maxRecDepth 100000 in
theorem zc552 : wZ (.arrayClass .int) := ⟨wT1 (List.mem_of_getElem? (i := 77) (by decide +kernel)), Or.inr ⟨_, rfl⟩⟩
set_option maxRecDepth 100000 in
theorem zc553 : wZ (.code objectInit ⟨#[0xb1]⟩ 1 none) := ⟨wT1 (List.mem_of_getElem? (i := 24) rfl), Or.inl rfl⟩
set_option maxRecDepth 100000 in
theorem zc554 : wZ (.instanceMethod objectInit) := ⟨wT1 (List.mem_of_getElem? (i := 23) (by decide +kernel)), Or.inl rfl⟩
set_option maxRecDepth 100000 in
theorem zc555 : wZ (.methodLink RX9 3 objectInit) := ⟨wT1 (List.mem_of_getElem? (i := 151) (by decide +kernel)), Or.inl rfl⟩
set_option maxRecDepth 100000 in
theorem zc556 : wZ (.code yX9_init cX9_init 1 none) := ⟨wT1 (List.mem_of_getElem? (i := 150) rfl), Or.inl rfl⟩
set_option maxRecDepth 100000 in
theorem zc557 : wZ (.arrayClass .byte) := ⟨wT3 (List.mem_of_getElem? (i := 95) (by decide +kernel)), Or.inr ⟨_, rfl⟩⟩
set_option maxRecDepth 100000 in
theorem zc558 : wZ (.instanceMethod yX9_init) := ⟨wT1 (List.mem_of_getElem? (i := 149) (by decide +kernel)), Or.inl rfl⟩
set_option maxRecDepth 100000 in
theorem zc559 : wZ (.instantiable RX9 2) := ⟨wT1 (List.mem_of_getElem? (i := 147) (by decide +kernel)), Or.inl rfl⟩
set_option maxRecDepth 100000 in
theorem zc560 : wZ (.classLink RX4 9 RX9) := ⟨wT3 (List.mem_of_getElem? (i := 4) (by decide +kernel)), Or.inl rfl⟩
set_option maxRecDepth 100000 in
theorem zc561 : wZ (.methodLink RX4 3 objectInit) := ⟨wT3 (List.mem_of_getElem? (i := 3) (by decide +kernel)), Or.inl rfl⟩
set_option maxRecDepth 100000 in
theorem zc562 : wZ (.code yX4_init cX4_init 1 none) := ⟨wT3 (List.mem_of_getElem? (i := 2) rfl), Or.inl rfl⟩
set_option maxRecDepth 100000 in
theorem zc563 : wZ (.selects RX4 yX4_renew yX4_renew) := ⟨wT3 (List.mem_of_getElem? (i := 98) (by decide +kernel)), Or.inl rfl⟩
set_option maxRecDepth 100000 in
theorem zc564 : wZ (.instanceMethod yX4_renew) := ⟨wT3 (List.mem_of_getElem? (i := 97) (by decide +kernel)), Or.inl rfl⟩
set_option maxRecDepth 100000 in
theorem zc565 : wZ (.methodLink RX0 138 yX4_renew) := ⟨wT3 (List.mem_of_getElem? (i := 96) (by decide +kernel)), Or.inl rfl⟩
set_option maxRecDepth 100000 in
theorem zc566 : wZ (.instanceMethod yX4_init) := ⟨wT3 (List.mem_of_getElem? (i := 1) (by decide +kernel)), Or.inl rfl⟩
set_option maxRecDepth 100000 in
theorem zc567 : wZ (.instantiable RX4 16) := ⟨wT2 (List.mem_of_getElem? (i := 239) (by decide +kernel)), Or.inl rfl⟩
set_option maxRecDepth 100000 in
theorem zc568 : wZ (.classLink RX0 102 RX4) := ⟨wT2 (List.mem_of_getElem? (i := 238) (by decide +kernel)), Or.inl rfl⟩
set_option maxRecDepth 100000 in
theorem zc569 : wZ (.code yX0_newMotion cX0_newMotion 3 (some (.object "MotionFloor$Motion"))) := ⟨wT2 (List.mem_of_getElem? (i := 237) rfl), Or.inl rfl⟩
def e_Y9_init_0 : List Cond := [.methodLink RX9 3 objectInit, .instanceMethod objectInit, .code objectInit ⟨#[0xb1]⟩ 1 none, .arrayClass .int, .fieldLink RX9 9 "MotionFloor$Text" "words" "[I"]
def v_Y9_init_0 : List Cond := .code yX9_init cX9_init 1 none :: (e_Y9_init_0 ++ (wsX90 ++ []))
theorem te_Y9_init_0 : GoodIn lw_tbl e_Y9_init_0 := wGc zc555 (wGc zc554 (wGc zc553 (wGc zc552 (wGc zc119 (wG0)))))
theorem t_Y9_init_0 : GoodIn lw_tbl v_Y9_init_0 := wGc zc556 (wGa te_Y9_init_0 (wGa zcX9 (wG0)))
set_option maxHeartbeats 4000000 in
set_option maxRecDepth 100000 in
theorem m_X9_init_0 (l : Launch) (G : va_G) (K : Nat → ClassId) (h0 : Nat) (sz : Nat) : Met l yX9_init v_Y9_init_0 ({ frames := 1, cells := 1, slots := 400, locals := 12 }) (va_Pc [.ref h0] (wS G K sz [(h0, .inr (6, [.null, .int 0]))])) (va_Qv (fun u : va_W => (∃ n0 : Nat, u = [(h0, .inr (6, [.ref n0, .int 0])), (n0, .inl (K 0, 400, .inl (fun _ => 0)))])) (wB G (va_A [(h0, .inr (6, [.null, .int 0]))] sz)) (va_A [(h0, .inr (6, [.null, .int 0]))] sz)) 1 400 (va_A [(h0, .inr (6, [.null, .int 0]))] sz) := by
  refine Met.ofW (cc := cX9_init) (maxL := 1) (ret := none) (by decide) rfl ?_
  intro p e s m args below meth c s₁ B hml hv
  obtain ⟨rfl, hsz, hP, hK, hD0, hE⟩ := hv
  have hx := B.exec
  have hb := B.bytes
  have hr := B.returns
  have hts := atoms_spec (ws := v_Y9_init_0) B.pre
  have t_ := t_Y9_init_0
  have mw : ∀ w ∈ e_Y9_init_0, w ∈ v_Y9_init_0 := fun w h => List.mem_cons_of_mem _ (List.mem_append_left _ h)
  have hw := fun w (h : w ∈ e_Y9_init_0) => hts w (mw w h)
  have iX9 : ∀ w ∈ wsX90, w ∈ v_Y9_init_0 := fun w h => List.mem_cons_of_mem _ (List.mem_append_right _ (List.mem_append_left _ h))
  have hown : s.vm.findClass RX9 = some m.cls := findClass_of_methodNamed B.named
  have hlocks := B.notSynchronized
  have hin : meth.name = "<init>" := (name_of_methodNamed B.named B.method).1
  subst hsz
  have hD := hD0.self (sz := s.heap.size)
  generalize hAe : va_A [(h0, .inr (6, [.null, .int 0]))] s.heap.size = A at hD ⊢
  have hA : ∀ q : Nat, s.heap.size ≤ q → A q := fun q h => by rw [← hAe]; exact Or.inr h
  have hS : va_S A s.heap s.heap [] := va_S.rf
  have hP : va_P G vwCl [(h0, .inr (6, [.null, .int 0]))] s.heap := hP
  have hl := lv_entry ([.ref h0]) (n := 1) (Nat.le_of_ble_eq_true rfl)
  rw [lg_entry_eq]
  generalize (lg_sl ([.ref h0]) ++ List.replicate (1 - (lg_sl ([.ref h0])).length) Slot.unset).toArray = ls at hl ⊢
  have hl : lv_has ls 1 [(0, .ref h0)] := hl
  refine lv_aload_n hx hb dX9_init_0 rfl (lv_at hl 0 rfl) ?_
  refine W.objInit hx hb hown (hw (.methodLink RX9 3 objectInit) (List.mem_of_getElem? (i := 0) rfl)) (hw (.instanceMethod objectInit) (List.mem_of_getElem? (i := 1) rfl)) (hw (.code objectInit ⟨#[0xb1]⟩ 1 none) (List.mem_of_getElem? (i := 2) rfl)) rfl (by rw [hml]; exact hl.1) rfl dX9_init_1 (Nat.le_of_ble_eq_true rfl) (Nat.le_of_ble_eq_true rfl) ?_
  refine W.eq (g2 := F0 m 4 ls []) rfl ?_
  refine lv_aload_n hx hb dX9_init_4 rfl (lv_at hl 0 rfl) ?_
  refine lv_sipush (v := 400) hx hb dX9_init_5 (by decide) ?_
  refine va_newa (atype := .int) (ty := .int) (a0 := (400, .inl (fun _ => 0))) (N' := 400) hx hb (hw (.arrayClass .int) (List.mem_of_getElem? (i := 3) rfl)) rfl hK hP hD hS hA (fun _ => rfl) (by decide) (by decide) (Nat.le_of_ble_eq_true rfl) (Nat.le_of_ble_eq_true rfl) (Nat.le_of_ble_eq_true rfl) dX9_init_8 (fun q1 cA H hK5 hP hD hS => ?_)
  obtain rfl : cA = K 0 := wTyI hK5 5 0 rfl rfl
  have hP : va_P G vwCl [(h0, .inr (6, [.null, .int 0])), (q1, .inl (K 0, 400, .inl (fun _ => 0)))] _ := hP
  have hD : va_D A [(h0, .inr (6, [.null, .int 0])), (q1, .inl (K 0, 400, .inl (fun _ => 0)))] := hD
  refine va_putF (D := G) (ci := 6) (v := .ref q1) (ty := .array .int) (C := RX9) (T := TX9) (N := 2) hx hb hts iX9 tyX9 tyX9_ok nmX9 hown hK hP hD hS 0 rfl rfl 0 (by decide) (hw (.fieldLink RX9 9 "MotionFloor$Text" "words" "[I") (List.mem_of_getElem? (i := 4) rfl)) (fun _ h9 => h9) rfl hin rfl (by decide +kernel) rfl rfl (Nat.le_of_ble_eq_true rfl) dX9_init_10 (fun H locs hP hD hS => ?_)
  have hP : va_P G vwCl [(h0, .inr (6, [.ref q1, .int 0])), (q1, .inl (K 0, 400, .inl (fun _ => 0)))] _ := hP
  have hD : va_D A [(h0, .inr (6, [.ref q1, .int 0])), (q1, .inl (K 0, 400, .inl (fun _ => 0)))] := hD
  have hP9 : va_P G vwCl [(h0, .inr (6, [.ref q1, .int 0])), (q1, .inl (K 0, 400, .inl (fun _ => 0)))] _ := hP
  have hD9 : va_D A [(h0, .inr (6, [.ref q1, .int 0])), (q1, .inl (K 0, 400, .inl (fun _ => 0)))] := hD
  refine W.widen (k := 1) (n := 400) (Nat.le_of_ble_eq_true rfl) (Nat.le_of_ble_eq_true rfl) ?_
  exact W.vret hx hb hr (fun t ht hW => ⟨⟨_, rfl, ⟨q1, rfl⟩, by rw [ht]; exact hP9, hD9⟩, hS.F ht⟩) hS.2.2 dX9_init_13
def e_Y4_init_0 : List Cond := [.methodLink RX4 3 objectInit, .instanceMethod objectInit, .code objectInit ⟨#[0xb1]⟩ 1 none, .classLink RX4 9 RX9, .instantiable RX9 2, .initialized RX9, .instanceMethod yX9_init, .fieldLink RX4 12 "MotionFloor$Motion" "text" "LMotionFloor$Text;", .arrayClass .byte, .fieldLink RX4 18 "MotionFloor$Motion" "votes" "[B"]
def v_Y4_init_0 : List Cond := .code yX4_init cX4_init 1 none :: (e_Y4_init_0 ++ (wsX90 ++ (wsX40 ++ (v_Y9_init_0 ++ []))))
theorem te_Y4_init_0 : GoodIn lw_tbl e_Y4_init_0 := wGc zc561 (wGc zc554 (wGc zc553 (wGc zc560 (wGc zc559 (wGc zc130 (wGc zc558 (wGc zc262 (wGc zc557 (wGc zc231 (wG0))))))))))
theorem t_Y4_init_0 : GoodIn lw_tbl v_Y4_init_0 := wGc zc562 (wGa te_Y4_init_0 (wGa zcX9 (wGa zcX4 (wGa t_Y9_init_0 (wG0)))))
set_option maxHeartbeats 4000000 in
set_option maxRecDepth 100000 in
theorem m_X4_init_0 (l : Launch) (G : va_G) (K : Nat → ClassId) (h0 : Nat) (sz : Nat) : Met l yX4_init v_Y4_init_0 ({ frames := 2, cells := 3, slots := 602, locals := 32 }) (va_Pc [.ref h0] (wS G K sz [(h0, .inr (3, [.int 0, .int 0, .int 0, .int 0, .int 0, .int 0, .int 0, .int 0, .int 0, .int 0, .int 0, .int 0, .null, .null, .int 0, .null]))])) (va_Qv (fun u : va_W => (∃ n0 n1 n2 : Nat, u = [(h0, .inr (3, [.int 0, .int 0, .int 0, .int 0, .int 0, .int 0, .int 0, .int 0, .int 0, .int 0, .int 0, .int 0, .ref n0, .ref n2, .int 0, .null])), (n0, .inr (6, [.ref n1, .int 0])), (n1, .inl (K 0, 400, .inl (fun _ => 0))), (n2, .inl (K 2, 200, .inl (fun _ => 0)))])) (wB G (va_A [(h0, .inr (3, [.int 0, .int 0, .int 0, .int 0, .int 0, .int 0, .int 0, .int 0, .int 0, .int 0, .int 0, .int 0, .null, .null, .int 0, .null]))] sz)) (va_A [(h0, .inr (3, [.int 0, .int 0, .int 0, .int 0, .int 0, .int 0, .int 0, .int 0, .int 0, .int 0, .int 0, .int 0, .null, .null, .int 0, .null]))] sz)) 3 602 (va_A [(h0, .inr (3, [.int 0, .int 0, .int 0, .int 0, .int 0, .int 0, .int 0, .int 0, .int 0, .int 0, .int 0, .int 0, .null, .null, .int 0, .null]))] sz) := by
  refine Met.ofW (cc := cX4_init) (maxL := 1) (ret := none) (by decide) rfl ?_
  intro p e s m args below meth c s₁ B hml hv
  obtain ⟨rfl, hsz, hP, hK, hD0, hE⟩ := hv
  have hx := B.exec
  have hb := B.bytes
  have hr := B.returns
  have hts := atoms_spec (ws := v_Y4_init_0) B.pre
  have t_ := t_Y4_init_0
  have mw : ∀ w ∈ e_Y4_init_0, w ∈ v_Y4_init_0 := fun w h => List.mem_cons_of_mem _ (List.mem_append_left _ h)
  have hw := fun w (h : w ∈ e_Y4_init_0) => hts w (mw w h)
  have iX9 : ∀ w ∈ wsX90, w ∈ v_Y4_init_0 := fun w h => List.mem_cons_of_mem _ (List.mem_append_right _ (List.mem_append_left _ h))
  have iX4 : ∀ w ∈ wsX40, w ∈ v_Y4_init_0 := fun w h => List.mem_cons_of_mem _ (List.mem_append_right _ (List.mem_append_right _ (List.mem_append_left _ h)))
  have j_Y9_init_0 : ∀ w ∈ v_Y9_init_0, w ∈ v_Y4_init_0 := fun w h => List.mem_cons_of_mem _ (List.mem_append_right _ (List.mem_append_right _ (List.mem_append_right _ (List.mem_append_left _ h))))
  have hown : s.vm.findClass RX4 = some m.cls := findClass_of_methodNamed B.named
  have hlocks := B.notSynchronized
  have hin : meth.name = "<init>" := (name_of_methodNamed B.named B.method).1
  subst hsz
  have hD := hD0.self (sz := s.heap.size)
  generalize hAe : va_A [(h0, .inr (3, [.int 0, .int 0, .int 0, .int 0, .int 0, .int 0, .int 0, .int 0, .int 0, .int 0, .int 0, .int 0, .null, .null, .int 0, .null]))] s.heap.size = A at hD ⊢
  have hA : ∀ q : Nat, s.heap.size ≤ q → A q := fun q h => by rw [← hAe]; exact Or.inr h
  have hS : va_S A s.heap s.heap [] := va_S.rf
  have hP : va_P G vwCl [(h0, .inr (3, [.int 0, .int 0, .int 0, .int 0, .int 0, .int 0, .int 0, .int 0, .int 0, .int 0, .int 0, .int 0, .null, .null, .int 0, .null]))] s.heap := hP
  have hl := lv_entry ([.ref h0]) (n := 1) (Nat.le_of_ble_eq_true rfl)
  rw [lg_entry_eq]
  generalize (lg_sl ([.ref h0]) ++ List.replicate (1 - (lg_sl ([.ref h0])).length) Slot.unset).toArray = ls at hl ⊢
  have hl : lv_has ls 1 [(0, .ref h0)] := hl
  refine lv_aload_n hx hb dX4_init_0 rfl (lv_at hl 0 rfl) ?_
  refine W.objInit hx hb hown (hw (.methodLink RX4 3 objectInit) (List.mem_of_getElem? (i := 0) rfl)) (hw (.instanceMethod objectInit) (List.mem_of_getElem? (i := 1) rfl)) (hw (.code objectInit ⟨#[0xb1]⟩ 1 none) (List.mem_of_getElem? (i := 2) rfl)) rfl (by rw [hml]; exact hl.1) rfl dX4_init_1 (Nat.le_of_ble_eq_true rfl) (Nat.le_of_ble_eq_true rfl) ?_
  refine W.eq (g2 := F0 m 4 ls []) rfl ?_
  refine lv_aload_n hx hb dX4_init_4 rfl (lv_at hl 0 rfl) ?_
  refine va_new (ci := 6) (fs := [.null, .int 0]) (C := RX9) (T := TX9) (N := 2) hx hb hts iX9 tyX9 tyX9_ok hown (hw (.classLink RX4 9 RX9) (List.mem_of_getElem? (i := 3) rfl)) (hw (.instantiable RX9 2) (List.mem_of_getElem? (i := 4) rfl)) (hw (.initialized RX9) (List.mem_of_getElem? (i := 5) rfl)) hK hP hD hS hA rfl (fun j hj => by rcases (show j = 0 ∨ j = 1 by omega) with rfl | rfl <;> rfl) (Nat.le_of_ble_eq_true rfl) (Nat.le_of_ble_eq_true rfl) dX4_init_5 (fun q1 H hP hD hS => ?_)
  have hP : va_P G vwCl [(h0, .inr (3, [.int 0, .int 0, .int 0, .int 0, .int 0, .int 0, .int 0, .int 0, .int 0, .int 0, .int 0, .int 0, .null, .null, .int 0, .null])), (q1, .inr (6, [.null, .int 0]))] _ := hP
  have hD : va_D A [(h0, .inr (3, [.int 0, .int 0, .int 0, .int 0, .int 0, .int 0, .int 0, .int 0, .int 0, .int 0, .int 0, .int 0, .null, .null, .int 0, .null])), (q1, .inr (6, [.null, .int 0]))] := hD
  refine lv_dup hx hb dX4_init_8 rfl ?_
  have hPc := hP.sub (ws' := [(q1, .inr (6, [.null, .int 0]))]) [1] rfl
  have hDc := hD.sub (ws' := [(q1, .inr (6, [.null, .int 0]))]) [1] (by decide) rfl
  refine wGov (wc := [(q1, .inr (6, [.null, .int 0]))]) (wr := [(h0, .inr (3, [.int 0, .int 0, .int 0, .int 0, .int 0, .int 0, .int 0, .int 0, .int 0, .int 0, .int 0, .int 0, .null, .null, .int 0, .null]))]) (va_runIN (As := []) (rest := [.ref q1, .ref h0]) ⟨hx, hb, hml, hown, hts⟩ (m_X9_init_0 l G K q1 _) ⟨va_cnB (host := "MotionFloor") 0 hts (wGP t_ j_Y9_init_0) rfl rfl rfl hE.2.2.2.2.2.2.2.1 (hw (.initialized RX9) (List.mem_of_getElem? (i := 5) rfl)) (by decide +kernel) ⟨Nat.le_of_ble_eq_true rfl, Nat.le_of_ble_eq_true rfl⟩, rfl, (hw (.instanceMethod yX9_init) (List.mem_of_getElem? (i := 6) rfl))⟩ (wPS hK hE hPc hDc) rfl rfl hl.1 rfl (lv_room (Nat.le_of_ble_eq_true rfl)) dX4_init_9 ⟨Nat.le_of_ble_eq_true rfl, Nat.le_of_ble_eq_true rfl⟩) hP hD hS hA [1] [0] rfl rfl rfl (by decide) (fun u H locs hw hP hD hS => ?_)
  rcases hw with ⟨q2, rfl⟩
  have hP : va_P G vwCl [(h0, .inr (3, [.int 0, .int 0, .int 0, .int 0, .int 0, .int 0, .int 0, .int 0, .int 0, .int 0, .int 0, .int 0, .null, .null, .int 0, .null])), (q1, .inr (6, [.ref q2, .int 0])), (q2, .inl (K 0, 400, .inl (fun _ => 0)))] _ := hP
  have hD : va_D A [(h0, .inr (3, [.int 0, .int 0, .int 0, .int 0, .int 0, .int 0, .int 0, .int 0, .int 0, .int 0, .int 0, .int 0, .null, .null, .int 0, .null])), (q1, .inr (6, [.ref q2, .int 0])), (q2, .inl (K 0, 400, .inl (fun _ => 0)))] := hD
  refine va_putF (D := G) (ci := 3) (v := .ref q1) (ty := .object "MotionFloor$Text") (C := RX4) (T := TX4) (N := 16) hx hb hts iX4 tyX4 tyX4_ok nmX4 hown hK hP hD hS 0 rfl rfl 12 (by decide) (hw (.fieldLink RX4 12 "MotionFloor$Motion" "text" "LMotionFloor$Text;") (List.mem_of_getElem? (i := 7) rfl)) (fun _ h9 => h9) rfl hin rfl (by decide +kernel) rfl rfl (Nat.le_of_ble_eq_true rfl) dX4_init_12 (fun H locs hP hD hS => ?_)
  have hP : va_P G vwCl [(h0, .inr (3, [.int 0, .int 0, .int 0, .int 0, .int 0, .int 0, .int 0, .int 0, .int 0, .int 0, .int 0, .int 0, .ref q1, .null, .int 0, .null])), (q1, .inr (6, [.ref q2, .int 0])), (q2, .inl (K 0, 400, .inl (fun _ => 0)))] _ := hP
  have hD : va_D A [(h0, .inr (3, [.int 0, .int 0, .int 0, .int 0, .int 0, .int 0, .int 0, .int 0, .int 0, .int 0, .int 0, .int 0, .ref q1, .null, .int 0, .null])), (q1, .inr (6, [.ref q2, .int 0])), (q2, .inl (K 0, 400, .inl (fun _ => 0)))] := hD
  refine lv_aload_n hx hb dX4_init_15 rfl (lv_at hl 0 rfl) ?_
  refine lv_sipush (v := 200) hx hb dX4_init_16 (by decide) ?_
  refine va_newa (atype := .byte) (ty := .byte) (a0 := (200, .inl (fun _ => 0))) (N' := 200) hx hb (hw (.arrayClass .byte) (List.mem_of_getElem? (i := 8) rfl)) rfl hK hP hD hS hA (fun _ => rfl) (by decide) (by decide) (Nat.le_of_ble_eq_true rfl) (Nat.le_of_ble_eq_true rfl) (Nat.le_of_ble_eq_true rfl) dX4_init_19 (fun q3 cA H hK5 hP hD hS => ?_)
  obtain rfl : cA = K 2 := wTyI hK5 5 2 rfl rfl
  have hP : va_P G vwCl [(h0, .inr (3, [.int 0, .int 0, .int 0, .int 0, .int 0, .int 0, .int 0, .int 0, .int 0, .int 0, .int 0, .int 0, .ref q1, .null, .int 0, .null])), (q1, .inr (6, [.ref q2, .int 0])), (q2, .inl (K 0, 400, .inl (fun _ => 0))), (q3, .inl (K 2, 200, .inl (fun _ => 0)))] _ := hP
  have hD : va_D A [(h0, .inr (3, [.int 0, .int 0, .int 0, .int 0, .int 0, .int 0, .int 0, .int 0, .int 0, .int 0, .int 0, .int 0, .ref q1, .null, .int 0, .null])), (q1, .inr (6, [.ref q2, .int 0])), (q2, .inl (K 0, 400, .inl (fun _ => 0))), (q3, .inl (K 2, 200, .inl (fun _ => 0)))] := hD
  refine va_putF (D := G) (ci := 3) (v := .ref q3) (ty := .array .byte) (C := RX4) (T := TX4) (N := 16) hx hb hts iX4 tyX4 tyX4_ok nmX4 hown hK hP hD hS 0 rfl rfl 13 (by decide) (hw (.fieldLink RX4 18 "MotionFloor$Motion" "votes" "[B") (List.mem_of_getElem? (i := 9) rfl)) (fun _ h9 => h9) rfl hin rfl (by decide +kernel) rfl rfl (Nat.le_of_ble_eq_true rfl) dX4_init_21 (fun H locs hP hD hS => ?_)
  have hP : va_P G vwCl [(h0, .inr (3, [.int 0, .int 0, .int 0, .int 0, .int 0, .int 0, .int 0, .int 0, .int 0, .int 0, .int 0, .int 0, .ref q1, .ref q3, .int 0, .null])), (q1, .inr (6, [.ref q2, .int 0])), (q2, .inl (K 0, 400, .inl (fun _ => 0))), (q3, .inl (K 2, 200, .inl (fun _ => 0)))] _ := hP
  have hD : va_D A [(h0, .inr (3, [.int 0, .int 0, .int 0, .int 0, .int 0, .int 0, .int 0, .int 0, .int 0, .int 0, .int 0, .int 0, .ref q1, .ref q3, .int 0, .null])), (q1, .inr (6, [.ref q2, .int 0])), (q2, .inl (K 0, 400, .inl (fun _ => 0))), (q3, .inl (K 2, 200, .inl (fun _ => 0)))] := hD
  have hP9 : va_P G vwCl [(h0, .inr (3, [.int 0, .int 0, .int 0, .int 0, .int 0, .int 0, .int 0, .int 0, .int 0, .int 0, .int 0, .int 0, .ref q1, .ref q3, .int 0, .null])), (q1, .inr (6, [.ref q2, .int 0])), (q2, .inl (K 0, 400, .inl (fun _ => 0))), (q3, .inl (K 2, 200, .inl (fun _ => 0)))] _ := hP
  have hD9 : va_D A [(h0, .inr (3, [.int 0, .int 0, .int 0, .int 0, .int 0, .int 0, .int 0, .int 0, .int 0, .int 0, .int 0, .int 0, .ref q1, .ref q3, .int 0, .null])), (q1, .inr (6, [.ref q2, .int 0])), (q2, .inl (K 0, 400, .inl (fun _ => 0))), (q3, .inl (K 2, 200, .inl (fun _ => 0)))] := hD
  refine W.widen (k := 3) (n := 602) (Nat.le_of_ble_eq_true rfl) (Nat.le_of_ble_eq_true rfl) ?_
  exact W.vret hx hb hr (fun t ht hW => ⟨⟨_, rfl, ⟨q1, q2, q3, rfl⟩, by rw [ht]; exact hP9, hD9⟩, hS.F ht⟩) hS.2.2 dX4_init_24
/-- what X4 makes -/
def mkX4 (S : Cst) : Cst := puC S [(3, 0, fun k => 0, fun k => if k = 12 then some (S.1 + 1) else if k = 13 then some (S.1 + 3) else none), (6, 0, fun k => 0, fun k => if k = 0 then some (S.1 + 2) else none), (20, 400, (fun _ => 0), fun _ => none), (22, 200, (fun _ => 0), fun _ => none)] 618
set_option maxRecDepth 100000 in
theorem mkX4_w {K : Nat → ClassId} {ad : Nat → Nat} {S : Cst} (hc : clS S) (q0 q1 q2 q3 : Nat) : wsC K ad S ++ [(q0, .inr (3, [.int 0, .int 0, .int 0, .int 0, .int 0, .int 0, .int 0, .int 0, .int 0, .int 0, .int 0, .int 0, .ref q1, .ref q3, .int 0, .null])), (q1, .inr (6, [.ref q2, .int 0])), (q2, .inl (K 0, 400, .inl (fun _ => 0))), (q3, .inl (K 2, 200, .inl (fun _ => 0)))] = wsC K (adX ad S.1 [q0, q1, q2, q3]) (mkX4 S) := by
  refine wsC_app [q0, q1, q2, q3] _ _ hc ?_
  have a1 : adX ad S.1 [q0, q1, q2, q3] (S.1 + 1) = q1 := adX_new (i := 1)
  have a2 : adX ad S.1 [q0, q1, q2, q3] (S.1 + 2) = q2 := adX_new (i := 2)
  have a3 : adX ad S.1 [q0, q1, q2, q3] (S.1 + 3) = q3 := adX_new (i := 3)
  show (_ : va_W) = [(q0, .inr (3, [.int 0, .int 0, .int 0, .int 0, .int 0, .int 0, .int 0, .int 0, .int 0, .int 0, .int 0, .int 0, .ref (adX ad S.1 [q0, q1, q2, q3] (S.1 + 1)), .ref (adX ad S.1 [q0, q1, q2, q3] (S.1 + 3)), .int 0, .null])), (q1, .inr (6, [.ref (adX ad S.1 [q0, q1, q2, q3] (S.1 + 2)), .int 0])), (q2, .inl (K 0, 400, .inl (fun _ => 0))), (q3, .inl (K 2, 200, .inl (fun _ => 0)))]
  rw [a1, a2, a3]
def b_Y0_newMotion_38a (S : Cst) (x0 : Nat) (x1 : Int32) (x2 : Option Nat) : (Option Nat) × Cst := (x2, S)
def q_Y0_newMotion_38a (S : Cst) (x0 : Nat) (lc : Nat) (ls : Nat) (x1 : Int32) (x2 : Option Nat) : Prop := True
def b_Y0_newMotion_33 (S : Cst) (x0 : Nat) (x1 : Int32) (x2 : Option Nat) : (Option Nat) × Cst := (b_Y0_newMotion_38a ((f_Y4_renew S (x2.getD 0) x1).2) x0 x1 x2)
def q_Y0_newMotion_33 (S : Cst) (x0 : Nat) (lc : Nat) (ls : Nat) (x1 : Int32) (x2 : Option Nat) : Prop := (iR S x2 3) ∧ (p_Y4_renew S (x2.getD 0) x1) ∧ (q_Y0_newMotion_38a ((f_Y4_renew S (x2.getD 0) x1).2) x0 lc ls x1 x2)
def b_Y0_newMotion_16a (S : Cst) (x0 : Nat) (x1 : Int32) (x2 : Option Nat) (o0 : Option Nat) : (Option Nat) × Cst := (b_Y0_newMotion_33 S x0 x1 o0)
def q_Y0_newMotion_16a (S : Cst) (x0 : Nat) (lc : Nat) (ls : Nat) (x1 : Int32) (x2 : Option Nat) (o0 : Option Nat) : Prop := (q_Y0_newMotion_33 S x0 lc ls x1 o0)
def f_Y0_newMotion (S : Cst) (x0 : Nat) (x1 : Int32) : (Option Nat) × Cst := if (grC S x0 10) = none then (b_Y0_newMotion_16a (mkX4 S) x0 x1 (grC S x0 10) (some S.1)) else (b_Y0_newMotion_33 (srC (srC S x0 10 (grC S ((grC S x0 10).getD 0) 15)) ((grC S x0 10).getD 0) 15 none) x0 x1 (grC S x0 10))
def p_Y0_newMotion (S : Cst) (x0 : Nat) (lc : Nat) (ls : Nat) (x1 : Int32) : Prop := (if (grC S x0 10) = none then (clS S ∧ S.1 + 4 ≤ lc ∧ S.2.1 + 618 ≤ ls) ∧ (vR S (grC S x0 10)) ∧ (q_Y0_newMotion_16a (mkX4 S) x0 lc ls x1 (grC S x0 10) (some S.1)) else (iR S (grC S x0 10) 3) ∧ (iR (srC S x0 10 (grC S ((grC S x0 10).getD 0) 15)) (grC S x0 10) 3) ∧ (q_Y0_newMotion_33 (srC (srC S x0 10 (grC S ((grC S x0 10).getD 0) 15)) ((grC S x0 10).getD 0) 15 none) x0 lc ls x1 (grC S x0 10)))
def e_Y0_newMotion : List Cond := [.fieldLink RX0 130 "MotionFloor$Assembly" "spare" "LMotionFloor$Motion;", .classLink RX0 102 RX4, .instantiable RX4 16, .initialized RX4, .instanceMethod yX4_init, .methodLink RX0 138 yX4_renew, .instanceMethod yX4_renew, .selects RX4 yX4_renew yX4_renew, .fieldLink RX0 134 "MotionFloor$Motion" "nextSpare" "LMotionFloor$Motion;"]
def v_Y0_newMotion : List Cond := .code yX0_newMotion cX0_newMotion 3 (some (.object "MotionFloor$Motion")) :: (e_Y0_newMotion ++ (wsX00 ++ (wsX40 ++ (v_Y4_init_0 ++ (v_Y4_renew ++ [])))))
theorem te_Y0_newMotion : GoodIn lw_tbl e_Y0_newMotion := wGc zc33 (wGc zc568 (wGc zc567 (wGc zc170 (wGc zc566 (wGc zc565 (wGc zc564 (wGc zc563 (wGc zc32 (wG0)))))))))
theorem t_Y0_newMotion : GoodIn lw_tbl v_Y0_newMotion := wGc zc569 (wGa te_Y0_newMotion (wGa zcX0 (wGa zcX4 (wGa t_Y4_init_0 (wGa t_Y4_renew (wG0))))))
set_option maxHeartbeats 4000000 in
set_option maxRecDepth 100000 in
theorem c_Y0_newMotion (l : Launch) (G : va_G) (K : Nat → ClassId) (ad0 : Nat → Nat) (S0 : Cst) (x0 : Nat) (lc : Nat) (ls : Nat) (a1 : Int32) (sz : Nat) : Met l yX0_newMotion v_Y0_newMotion ({ frames := 3, cells := lc - S0.1, slots := ls - S0.2.1, locals := 65 }) (va_Pc [.ref (ad0 x0), .int a1] (cSt G K ad0 sz S0 ((S0.1 ≤ lc ∧ S0.2.1 ≤ ls) ∧ iK S0 x0 0 ∧ p_Y0_newMotion S0 x0 lc ls a1))) (va_Qq (fun (r : Option Nat) (u : Cst × (Nat → Nat)) => ∃ r', r = r'.map u.2 ∧ ((r', u.1) = f_Y0_newMotion S0 x0 a1 ∧ eN S0 u.1 ∧ (∀ q, q < S0.1 → u.2 q = ad0 q))) (fun u t => cBt G K u.2 (va_A (wsC K ad0 S0) sz) u.1 t) (va_A (wsC K ad0 S0) sz)) (lc - S0.1) (ls - S0.2.1) (va_A (wsC K ad0 S0) sz) := by
  refine Met.ofW (cc := cX0_newMotion) (maxL := 3) (ret := (some (.object "MotionFloor$Motion"))) (by decide) rfl ?_
  intro p e s m args below meth c s₁ B hml hv
  obtain ⟨rfl, ⟨hsz, hP, hK, hD0, hTE⟩, hp⟩ := hv
  obtain ⟨k_l, hp⟩ := hp
  obtain ⟨k_x0, hp⟩ := hp
  have hx := B.exec
  have hb := B.bytes
  have hr := B.returns
  have hts := atoms_spec (ws := v_Y0_newMotion) B.pre
  have t_ := t_Y0_newMotion
  have mw : ∀ w ∈ e_Y0_newMotion, w ∈ v_Y0_newMotion := fun w h => List.mem_cons_of_mem _ (List.mem_append_left _ h)
  have hw := fun w (h : w ∈ e_Y0_newMotion) => hts w (mw w h)
  have iX0 : ∀ w ∈ wsX00, w ∈ v_Y0_newMotion := fun w h => List.mem_cons_of_mem _ (List.mem_append_right _ (List.mem_append_left _ h))
  have iX4 : ∀ w ∈ wsX40, w ∈ v_Y0_newMotion := fun w h => List.mem_cons_of_mem _ (List.mem_append_right _ (List.mem_append_right _ (List.mem_append_left _ h)))
  have j_Y4_init_0 : ∀ w ∈ v_Y4_init_0, w ∈ v_Y0_newMotion := fun w h => List.mem_cons_of_mem _ (List.mem_append_right _ (List.mem_append_right _ (List.mem_append_right _ (List.mem_append_left _ h))))
  have j_Y4_renew : ∀ w ∈ v_Y4_renew, w ∈ v_Y0_newMotion := fun w h => List.mem_cons_of_mem _ (List.mem_append_right _ (List.mem_append_right _ (List.mem_append_right _ (List.mem_append_right _ (List.mem_append_left _ h)))))
  have hown : s.vm.findClass RX0 = some m.cls := findClass_of_methodNamed B.named
  have hlocks := B.notSynchronized
  subst hsz
  have hD := hD0.self (sz := s.heap.size)
  generalize hAe : va_A (wsC K ad0 S0) s.heap.size = A at hD ⊢
  have hA : ∀ q : Nat, s.heap.size ≤ q → A q := fun q h => by rw [← hAe]; exact Or.inr h
  have hS : va_S A s.heap s.heap [] := va_S.rf
  have hl : lv_has (lg_sl ([.ref (ad0 x0), .int a1]) ++ List.replicate (3 - (lg_sl ([.ref (ad0 x0), .int a1])).length) Slot.unset).toArray 3 [(0, .ref (ad0 x0)), (1, .int a1)] := by
    exact lv_entry ([.ref (ad0 x0), .int a1]) (n := 3) (Nat.le_of_ble_eq_true rfl)
  rw [lg_entry_eq]
  generalize (lg_sl ([.ref (ad0 x0), .int a1]) ++ List.replicate (3 - (lg_sl ([.ref (ad0 x0), .int a1])).length) Slot.unset).toArray = ls_ at hl ⊢
  refine wGen (fun Q hQ => ?_)
  obtain ⟨X, hX⟩ : ∃ X, f_Y0_newMotion S0 x0 a1 = X := ⟨_, rfl⟩
  have B_Y0_newMotion_38a : ∀ (S : Cst) (ad : Nat → Nat) (x1 : Int32) (x2 : Option Nat) (H : Heap) (locs : List Loc) (ls_ : Array Slot), b_Y0_newMotion_38a S x0 x1 x2 = X → q_Y0_newMotion_38a S x0 lc ls x1 x2 → nH S0 ad0 lc ls S ad → va_P G vwCl (wsC K ad S) H → va_D A (wsC K ad S) → va_S A s.heap H locs → lv_has ls_ 3 [(0, .ref (ad x0)), (1, .int x1), (2, va_re ad x2)] → W p l e ({ frames := 3, cells := lc - S0.1, slots := ls - S0.2.1, locals := 65 } : Room) s m #[Value.ref (ad0 x0), Value.int a1] below meth c H locs (S.1 - S0.1) (S.2.1 - S0.2.1) Q (F0 m 38 ls_ []) := by
    intro S ad x1 x2 H locs ls_ hE hp hZ hP hD hS hl
    unfold b_Y0_newMotion_38a at hE
    unfold q_Y0_newMotion_38a at hp
    refine cAload_n (ad := ad) (r := x2) hx hb dX0_newMotion_38 rfl (lv_at hl 2 rfl) ?_
    refine W.widen (k := lc - S0.1) (n := ls - S0.2.1) (show S.1 - S0.1 ≤ lc - S0.1 from Nat.sub_le_sub_right hZ.2.2.1 _) (show S.2.1 - S0.2.1 ≤ ls - S0.2.1 from Nat.sub_le_sub_right hZ.2.2.2 _) ?_
    subst hQ
    exact W.aret (v := va_re ad x2) hx hb hr (Or.inl ⟨_, rfl⟩) (va_re_or ad _) (fun t ht hW => ⟨⟨x2.map ad, (S, ad), rfl, ⟨x2, rfl, ⟨hE.trans hX.symm, hZ.1, hZ.2.1⟩⟩, by rw [ht]; exact hP, hD⟩, hS.F ht⟩) hS.2.2 dX0_newMotion_39
  have B_Y0_newMotion_33 : ∀ (S : Cst) (ad : Nat → Nat) (x1 : Int32) (x2 : Option Nat) (H : Heap) (locs : List Loc) (ls_ : Array Slot), b_Y0_newMotion_33 S x0 x1 x2 = X → q_Y0_newMotion_33 S x0 lc ls x1 x2 → nH S0 ad0 lc ls S ad → va_P G vwCl (wsC K ad S) H → va_D A (wsC K ad S) → va_S A s.heap H locs → lv_has ls_ 3 [(0, .ref (ad x0)), (1, .int x1), (2, va_re ad x2)] → W p l e ({ frames := 3, cells := lc - S0.1, slots := ls - S0.2.1, locals := 65 } : Room) s m #[Value.ref (ad0 x0), Value.int a1] below meth c H locs (S.1 - S0.1) (S.2.1 - S0.2.1) Q (F0 m 33 ls_ []) := by
    intro S ad x1 x2 H locs ls_ hE hp hZ hP hD hS hl
    unfold b_Y0_newMotion_33 at hE
    unfold q_Y0_newMotion_33 at hp
    refine cAload_n (ad := ad) (r := x2) hx hb dX0_newMotion_33 rfl (lv_at hl 2 rfl) ?_
    refine lv_iload_n hx hb dX0_newMotion_34 rfl (lv_at hl 1 rfl) ?_
    obtain ⟨hy4, hp⟩ := hp
    refine cTop2 (r := x2) hy4.1 ?_
    obtain ⟨hy5, hp⟩ := hp
    refine cGov (va_runV (As := [.int x1]) (rest := []) ⟨hx, hb, hml, hown, hts⟩ (c_Y4_renew l G K ad S (x2.getD 0) x1 _) (cwV 1 hts (wGV t_ (mw (.methodLink RX0 138 yX4_renew) (List.mem_of_getElem? (i := 5) rfl)) (mw (.instanceMethod yX4_renew) (List.mem_of_getElem? (i := 6) rfl)) (mw (.selects RX4 yX4_renew yX4_renew) (List.mem_of_getElem? (i := 7) rfl)) (mw (.initialized RX4) (List.mem_of_getElem? (i := 3) rfl)) j_Y4_renew) rfl rfl rfl (by decide +kernel) ⟨Nat.le_of_ble_eq_true rfl, Nat.le_of_ble_eq_true rfl⟩) (cPV hK hTE hP hD 3 rfl (at_3 hy4.2) ⟨hy4.2, hy5⟩) rfl rfl hl.1 rfl (lv_room (Nat.le_of_ble_eq_true rfl)) dX0_newMotion_35 ⟨(show S.1 - S0.1 ≤ lc - S0.1 from Nat.sub_le_sub_right hZ.2.2.1 _), (show S.2.1 - S0.2.1 ≤ ls - S0.2.1 from Nat.sub_le_sub_right hZ.2.2.2 _)⟩) hP hD hS hA (fun u6 H locs hv hP hD hS => ?_)
    obtain ⟨hv, hz⟩ := hv
    have hZ := hZ.k hz
    refine cCells (cells' := u6.1 - S0.1) (slots' := u6.2.1 - S0.2.1) (by have e : S.1 = u6.1 := hz.1.1; show S.1 - S0.1 + 0 = _; omega) (by have e : S.2.1 = u6.2.1 := hz.1.2; show S.2.1 - S0.2.1 + 0 = _; omega) ?_
    rw [← hv] at hE hp
    dsimp only at hE hp
    exact B_Y0_newMotion_38a u6 ad x1 x2 _ _ _ hE hp hZ hP hD hS (lv_sub hl [0, 1, 2] rfl)
  have B_Y0_newMotion_16a : ∀ (S : Cst) (ad : Nat → Nat) (x1 : Int32) (x2 : Option Nat) (o0 : Option Nat) (H : Heap) (locs : List Loc) (ls_ : Array Slot), b_Y0_newMotion_16a S x0 x1 x2 o0 = X → q_Y0_newMotion_16a S x0 lc ls x1 x2 o0 → nH S0 ad0 lc ls S ad → va_P G vwCl (wsC K ad S) H → va_D A (wsC K ad S) → va_S A s.heap H locs → lv_has ls_ 3 [(0, .ref (ad x0)), (1, .int x1), (2, va_re ad x2)] → W p l e ({ frames := 3, cells := lc - S0.1, slots := ls - S0.2.1, locals := 65 } : Room) s m #[Value.ref (ad0 x0), Value.int a1] below meth c H locs (S.1 - S0.1) (S.2.1 - S0.2.1) Q (F0 m 16 ls_ [va_re ad o0]) := by
    intro S ad x1 x2 o0 H locs ls_ hE hp hZ hP hD hS hl
    unfold b_Y0_newMotion_16a at hE
    unfold q_Y0_newMotion_16a at hp
    refine cAstore_n (ad := ad) (r := o0) (i := 2) (lv' := [(2, va_re ad o0), (0, .ref (ad x0)), (1, .int x1)]) hx hb dX0_newMotion_16 rfl hl (by decide) rfl (fun ls_ hl => ?_)
    refine lv_goto (tgt := 33) hx hb dX0_newMotion_17 (by decide) ?_
    exact B_Y0_newMotion_33 S ad x1 o0 _ _ _ hE hp hZ hP hD hS (lv_sub hl [1, 2, 0] rfl)
  have B_M : ∀ (S : Cst) (ad : Nat → Nat) (x1 : Int32) (H : Heap) (locs : List Loc) (ls_ : Array Slot), f_Y0_newMotion S x0 x1 = X → p_Y0_newMotion S x0 lc ls x1 → nH S0 ad0 lc ls S ad → va_P G vwCl (wsC K ad S) H → va_D A (wsC K ad S) → va_S A s.heap H locs → lv_has ls_ 3 [(0, .ref (ad x0)), (1, .int x1)] → W p l e ({ frames := 3, cells := lc - S0.1, slots := ls - S0.2.1, locals := 65 } : Room) s m #[Value.ref (ad0 x0), Value.int a1] below meth c H locs (S.1 - S0.1) (S.2.1 - S0.2.1) Q (F0 m 0 ls_ []) := by
    intro S ad x1 H locs ls_ hE hp hZ hP hD hS hl
    unfold f_Y0_newMotion at hE
    unfold p_Y0_newMotion at hp
    refine lv_aload_n hx hb dX0_newMotion_0 rfl (lv_at hl 0 rfl) ?_
    refine va_get (D := G) (ci := 0) (v := va_re ad (grC S x0 10)) (C := RX0) (T := TX0) (N := 11) hx hb hts iX0 hown hK hP x0 (at_0 (k_x0.n hZ.1)) rfl 10 (by decide) (hw (.fieldLink RX0 130 "MotionFloor$Assembly" "spare" "LMotionFloor$Motion;") (List.mem_of_getElem? (i := 0) rfl)) (fun _ h9 => h9) rfl dX0_newMotion_1 ?_
    refine cAstore_n (ad := ad) (r := (grC S x0 10)) (i := 2) (lv' := [(2, va_re ad (grC S x0 10)), (0, .ref (ad x0)), (1, .int x1)]) hx hb dX0_newMotion_4 rfl hl (by decide) rfl (fun ls_ hl => ?_)
    refine cAload_n (ad := ad) (r := (grC S x0 10)) hx hb dX0_newMotion_5 rfl (lv_at hl 0 rfl) ?_
    refine cIfnonnull (ad := ad) (r := (grC S x0 10)) (tgt := 20) hx hb dX0_newMotion_6 (by decide) (fun c1 => ?_) (fun c1 => ?_)
    · rw [if_pos c1] at hE hp
      obtain ⟨hy2, hp⟩ := hp
      obtain ⟨hy3, hp⟩ := hp
      refine cCells (cells' := S.1 - S0.1) (slots' := S.2.1 - S0.2.1) rfl rfl ?_
      refine va_new (ci := 3) (fs := [.int 0, .int 0, .int 0, .int 0, .int 0, .int 0, .int 0, .int 0, .int 0, .int 0, .int 0, .int 0, .null, .null, .int 0, .null]) (C := RX4) (T := TX4) (N := 16) hx hb hts iX4 tyX4 tyX4_ok hown (hw (.classLink RX0 102 RX4) (List.mem_of_getElem? (i := 1) rfl)) (hw (.instantiable RX4 16) (List.mem_of_getElem? (i := 2) rfl)) (hw (.initialized RX4) (List.mem_of_getElem? (i := 3) rfl)) hK hP hD hS hA rfl (fun j hj => by rcases (show j = 0 ∨ j = 1 ∨ j = 2 ∨ j = 3 ∨ j = 4 ∨ j = 5 ∨ j = 6 ∨ j = 7 ∨ j = 8 ∨ j = 9 ∨ j = 10 ∨ j = 11 ∨ j = 12 ∨ j = 13 ∨ j = 14 ∨ j = 15 by omega) with rfl | rfl | rfl | rfl | rfl | rfl | rfl | rfl | rfl | rfl | rfl | rfl | rfl | rfl | rfl | rfl <;> rfl) (by show S.1 - S0.1 + 1 ≤ lc - S0.1; have := hZ.1.1.1; have := hy2.2.1; omega) (by show S.2.1 - S0.2.1 + 16 ≤ ls - S0.2.1; have := hZ.1.1.2; have := hy2.2.2; omega) dX0_newMotion_9 (fun q0 H hP hD hS => ?_)
      refine lv_dup hx hb dX0_newMotion_12 rfl ?_
      refine cInit (ws := wsC K ad S) (x := (q0, .inr (3, [.int 0, .int 0, .int 0, .int 0, .int 0, .int 0, .int 0, .int 0, .int 0, .int 0, .int 0, .int 0, .null, .null, .int 0, .null]))) (va_runIN (As := []) (rest := [.ref q0]) ⟨hx, hb, hml, hown, hts⟩ (m_X4_init_0 l G K q0 _) ⟨va_cnB (host := "MotionFloor") 0 hts (wGP t_ j_Y4_init_0) rfl rfl rfl hTE.2.2.2.2.2.2.1 (hw (.initialized RX4) (List.mem_of_getElem? (i := 3) rfl)) (by decide +kernel) ⟨Nat.le_of_ble_eq_true rfl, Nat.le_of_ble_eq_true rfl⟩, rfl, (hw (.instanceMethod yX4_init) (List.mem_of_getElem? (i := 4) rfl))⟩ (wPS hK hTE (hP.sub (ws' := [(q0, .inr (3, [.int 0, .int 0, .int 0, .int 0, .int 0, .int 0, .int 0, .int 0, .int 0, .int 0, .int 0, .int 0, .null, .null, .int 0, .null]))]) [S.1] (pu_at _ _)) (hD.sub (ws' := [(q0, .inr (3, [.int 0, .int 0, .int 0, .int 0, .int 0, .int 0, .int 0, .int 0, .int 0, .int 0, .int 0, .int 0, .null, .null, .int 0, .null]))]) [S.1] rfl (pu_at2 _ _))) rfl rfl hl.1 rfl (lv_room (Nat.le_of_ble_eq_true rfl)) dX0_newMotion_13 ⟨by show S.1 - S0.1 + 1 + 3 ≤ lc - S0.1; have := hZ.1.1.1; have := hy2.2.1; omega, by show S.2.1 - S0.2.1 + 16 + 602 ≤ ls - S0.2.1; have := hZ.1.1.2; have := hy2.2.2; omega⟩) hP hD hS hA (fun u H locs hw_ hP hD hS => ?_)
      rcases hw_ with ⟨q1, q2, q3, rfl⟩
      rw [mkX4_w hy2.1 q0 q1 q2 q3] at hP hD
      have ha : ∀ q, q < S.1 → (adX ad S.1 [q0, q1, q2, q3]) q = ad q := fun q h => adX_old h
      have h0 : (adX ad S.1 [q0, q1, q2, q3]) S.1 = q0 := adX_new (i := 0)
      refine wTop (v1 := va_re (adX ad S.1 [q0, q1, q2, q3]) (some S.1)) (by show Value.ref q0 = Value.ref _; rw [h0]) ?_
      generalize adX ad S.1 [q0, q1, q2, q3] = ad1 at hP hD ha ⊢
      refine cCells (cells' := (mkX4 S).1 - S0.1) (slots' := (mkX4 S).2.1 - S0.2.1) (by have := hZ.1.1.1; show S.1 - S0.1 + 1 + 3 = S.1 + 4 - S0.1; omega) (by have := hZ.1.1.2; show S.2.1 - S0.2.1 + 16 + 602 = S.2.1 + 618 - S0.2.1; omega) ?_
      rw [← re_ad (r := (grC S x0 10)) ha hy3] at hl
      rw [← ha x0 (k_x0.n hZ.1).1] at hl
      have hZ := hZ.n (eN.pu S _ _ : eN S (mkX4 S)) ha hy2.2.1 hy2.2.2
      exact B_Y0_newMotion_16a (mkX4 S) ad1 x1 (grC S x0 10) (some S.1) _ _ _ hE hp hZ hP hD hS (lv_sub hl [1, 2, 0] rfl)
    · rw [if_neg c1] at hE hp
      refine lv_aload_n hx hb dX0_newMotion_20 rfl (lv_at hl 1 rfl) ?_
      refine cAload_n (ad := ad) (r := (grC S x0 10)) hx hb dX0_newMotion_21 rfl (lv_at hl 0 rfl) ?_
      obtain ⟨hy8, hp⟩ := hp
      refine cTop (r := (grC S x0 10)) hy8.1 ?_
      refine va_get (D := G) (ci := 3) (v := va_re ad (grC S ((grC S x0 10).getD 0) 15)) (C := RX4) (T := TX4) (N := 16) hx hb hts iX4 hown hK hP ((grC S x0 10).getD 0) (at_3 hy8.2) rfl 15 (by decide) (hw (.fieldLink RX0 134 "MotionFloor$Motion" "nextSpare" "LMotionFloor$Motion;") (List.mem_of_getElem? (i := 8) rfl)) (fun _ h9 => h9) rfl dX0_newMotion_22 ?_
      refine va_put (D := G) (ci := 0) (v := va_re ad (grC S ((grC S x0 10).getD 0) 15)) (ty := .object "MotionFloor$Motion") (C := RX0) (T := TX0) (N := 11) hx hb hts iX0 tyX0 tyX0_ok nmX0 hown hK hP hD hS x0 (at_0 (k_x0.n hZ.1)) rfl 10 (by decide) (hw (.fieldLink RX0 130 "MotionFloor$Assembly" "spare" "LMotionFloor$Motion;") (List.mem_of_getElem? (i := 0) rfl)) (fun _ h9 => h9) rfl (by decide +kernel) (re_nar ad _ _) (re_fit ad _ _) (Nat.le_of_ble_eq_true rfl) dX0_newMotion_25 (fun H locs hP hD hS => ?_)
      rw [st_0_10 (k_x0.n hZ.1)] at hP hD
      have hZ := hZ.k (eK.sr S x0 10 (grC S ((grC S x0 10).getD 0) 15))
      refine cAload_n (ad := ad) (r := (grC S x0 10)) hx hb dX0_newMotion_28 rfl (lv_at hl 0 rfl) ?_
      refine lv_null hx hb dX0_newMotion_29 ?_
      rw [← re_none (ad := ad) (r := none) rfl]
      obtain ⟨hy9, hp⟩ := hp
      refine cTop2 (r := (grC S x0 10)) hy9.1 ?_
      refine va_put (D := G) (ci := 3) (v := va_re ad none) (ty := .object "MotionFloor$Motion") (C := RX4) (T := TX4) (N := 16) hx hb hts iX4 tyX4 tyX4_ok nmX4 hown hK hP hD hS ((grC S x0 10).getD 0) (at_3 hy9.2) rfl 15 (by decide) (hw (.fieldLink RX0 134 "MotionFloor$Motion" "nextSpare" "LMotionFloor$Motion;") (List.mem_of_getElem? (i := 8) rfl)) (fun _ h9 => h9) rfl (by decide +kernel) (re_nar ad _ _) (re_fit ad _ _) (Nat.le_of_ble_eq_true rfl) dX0_newMotion_30 (fun H locs hP hD hS => ?_)
      rw [st_3_15 hy9.2] at hP hD
      have hZ := hZ.k (eK.sr (srC S x0 10 (grC S ((grC S x0 10).getD 0) 15)) ((grC S x0 10).getD 0) 15 none)
      exact B_Y0_newMotion_33 (srC (srC S x0 10 (grC S ((grC S x0 10).getD 0) 15)) ((grC S x0 10).getD 0) 15 none) ad x1 (grC S x0 10) _ _ _ hE hp hZ hP hD hS (lv_sub hl [1, 2, 0] rfl)
  exact cCells (Nat.sub_self _).symm (Nat.sub_self _).symm (B_M S0 ad0 a1 _ _ _ hX hp (nH.rf S0 ad0 k_l) hP hD hS hl)
theorem dJ7_copyOf_59c91_15 : decode cJ7_copyOf_59c91 15 = .ok (.newarray .int, 2) := by decide +kernel
theorem gdJ7_copyOf_59c91_0 : ckS (List.drop 0 cJ7_copyOf_59c91.data.toList) 0 [(0, .iload_n 1, 1), (1, .aload_n 0, 1), (2, .arraylength, 1), (3, .if_icmp .ne 11, 3), (6, .aload_n 0, 1), (7, .invokevirtual 316, 3), (14, .iload_n 1, 1), (17, .astore_n 2, 1), (18, .aload_n 0, 1), (19, .iconst 0, 1), (20, .aload_n 2, 1), (21, .iconst 0, 1), (22, .aload_n 0, 1), (23, .arraylength, 1), (24, .iload_n 1, 1), (25, .invokestatic 304, 3), (28, .invokestatic 150, 3), (31, .aload_n 2, 1), (32, .areturn, 1)] = true := by decide +kernel
theorem dJ7_copyOf_59c91_0 : decode cJ7_copyOf_59c91 0 = .ok (.iload_n 1, 1) := ckS_g gdJ7_copyOf_59c91_0 0 rfl
theorem dJ7_copyOf_59c91_1 : decode cJ7_copyOf_59c91 1 = .ok (.aload_n 0, 1) := ckS_g gdJ7_copyOf_59c91_0 1 rfl
theorem dJ7_copyOf_59c91_2 : decode cJ7_copyOf_59c91 2 = .ok (.arraylength, 1) := ckS_g gdJ7_copyOf_59c91_0 2 rfl
theorem dJ7_copyOf_59c91_3 : decode cJ7_copyOf_59c91 3 = .ok (.if_icmp .ne 11, 3) := ckS_g gdJ7_copyOf_59c91_0 3 rfl
theorem dJ7_copyOf_59c91_6 : decode cJ7_copyOf_59c91 6 = .ok (.aload_n 0, 1) := ckS_g gdJ7_copyOf_59c91_0 4 rfl
theorem dJ7_copyOf_59c91_7 : decode cJ7_copyOf_59c91 7 = .ok (.invokevirtual 316, 3) := ckS_g gdJ7_copyOf_59c91_0 5 rfl
theorem dJ7_copyOf_59c91_14 : decode cJ7_copyOf_59c91 14 = .ok (.iload_n 1, 1) := ckS_g gdJ7_copyOf_59c91_0 6 rfl
theorem dJ7_copyOf_59c91_17 : decode cJ7_copyOf_59c91 17 = .ok (.astore_n 2, 1) := ckS_g gdJ7_copyOf_59c91_0 7 rfl
theorem dJ7_copyOf_59c91_18 : decode cJ7_copyOf_59c91 18 = .ok (.aload_n 0, 1) := ckS_g gdJ7_copyOf_59c91_0 8 rfl
theorem dJ7_copyOf_59c91_19 : decode cJ7_copyOf_59c91 19 = .ok (.iconst 0, 1) := ckS_g gdJ7_copyOf_59c91_0 9 rfl
theorem dJ7_copyOf_59c91_20 : decode cJ7_copyOf_59c91 20 = .ok (.aload_n 2, 1) := ckS_g gdJ7_copyOf_59c91_0 10 rfl
theorem dJ7_copyOf_59c91_21 : decode cJ7_copyOf_59c91 21 = .ok (.iconst 0, 1) := ckS_g gdJ7_copyOf_59c91_0 11 rfl
theorem dJ7_copyOf_59c91_22 : decode cJ7_copyOf_59c91 22 = .ok (.aload_n 0, 1) := ckS_g gdJ7_copyOf_59c91_0 12 rfl
theorem dJ7_copyOf_59c91_23 : decode cJ7_copyOf_59c91 23 = .ok (.arraylength, 1) := ckS_g gdJ7_copyOf_59c91_0 13 rfl
theorem dJ7_copyOf_59c91_24 : decode cJ7_copyOf_59c91 24 = .ok (.iload_n 1, 1) := ckS_g gdJ7_copyOf_59c91_0 14 rfl
theorem dJ7_copyOf_59c91_25 : decode cJ7_copyOf_59c91 25 = .ok (.invokestatic 304, 3) := ckS_g gdJ7_copyOf_59c91_0 15 rfl
theorem dJ7_copyOf_59c91_28 : decode cJ7_copyOf_59c91 28 = .ok (.invokestatic 150, 3) := ckS_g gdJ7_copyOf_59c91_0 16 rfl
theorem dJ7_copyOf_59c91_31 : decode cJ7_copyOf_59c91 31 = .ok (.aload_n 2, 1) := ckS_g gdJ7_copyOf_59c91_0 17 rfl
theorem dJ7_copyOf_59c91_32 : decode cJ7_copyOf_59c91 32 = .ok (.areturn, 1) := ckS_g gdJ7_copyOf_59c91_0 18 rfl
set_option maxRecDepth 100000 in
theorem zc570 : wZ (.methodLink RJ7 150 arraycopyName) := ⟨wT3 (List.mem_of_getElem? (i := 208) (by decide +kernel)), Or.inl rfl⟩
set_option maxRecDepth 100000 in
theorem zc571 : wZ (.methodLink RJ7 304 Lib.Math.min.name) := ⟨wT3 (List.mem_of_getElem? (i := 207) (by decide +kernel)), Or.inl rfl⟩
set_option maxRecDepth 100000 in
theorem zc572 : wZ (.code yJ7_copyOf_59c91 cJ7_copyOf_59c91 3 (some (.array .int))) := ⟨wT3 (List.mem_of_getElem? (i := 199) rfl), Or.inl rfl⟩
def b_K7_copyOf_59c91_17a (S : Cst) (x0 : Nat) (x1 : Int32) (o0 : Option Nat) : (Option Nat) × Cst := (o0, (sfC S (o0.getD 0) (va_cpy (giC S x0) (giC S (o0.getD 0)) (0 : Int32).toNatClampNeg (0 : Int32).toNatClampNeg (if x1 < (Int32.ofNat (lnC S x0)) then x1 else (Int32.ofNat (lnC S x0))).toNatClampNeg)))
def q_K7_copyOf_59c91_17a (S : Cst) (x0 : Nat) (lc : Nat) (ls : Nat) (x1 : Int32) (o0 : Option Nat) : Prop := (iR S o0 20) ∧ ((¬ (0 : Int32) < 0 ∧ ¬ (0 : Int32) < 0 ∧ ¬ (if x1 < (Int32.ofNat (lnC S x0)) then x1 else (Int32.ofNat (lnC S x0))) < 0) ∧ (0 : Int32).toNatClampNeg + (if x1 < (Int32.ofNat (lnC S x0)) then x1 else (Int32.ofNat (lnC S x0))).toNatClampNeg ≤ lnC S x0 ∧ (0 : Int32).toNatClampNeg + (if x1 < (Int32.ofNat (lnC S x0)) then x1 else (Int32.ofNat (lnC S x0))).toNatClampNeg ≤ lnC S (o0.getD 0)) ∧ True
def f_K7_copyOf_59c91 (S : Cst) (x0 : Nat) (x1 : Int32) : (Option Nat) × Cst := if x1 = (Int32.ofNat (lnC S x0)) then (none, S) else (b_K7_copyOf_59c91_17a (puC S [(20, x1.toNatClampNeg, fun _ => 0, fun _ => none)] x1.toNatClampNeg) x0 x1 (some S.1))
def p_K7_copyOf_59c91 (S : Cst) (x0 : Nat) (lc : Nat) (ls : Nat) (x1 : Int32) : Prop := (if x1 = (Int32.ofNat (lnC S x0)) then False else ((clS S ∧ ¬ x1 < 0 ∧ x1.toNatClampNeg * 4 ≤ 536870912) ∧ S.1 + 1 ≤ lc ∧ S.2.1 + x1.toNatClampNeg ≤ ls) ∧ (q_K7_copyOf_59c91_17a (puC S [(20, x1.toNatClampNeg, fun _ => 0, fun _ => none)] x1.toNatClampNeg) x0 lc ls x1 (some S.1)))
def e_K7_copyOf_59c91 : List Cond := [.arrayClass .int, .methodLink RJ7 304 Lib.Math.min.name, .static Lib.Math.min.name, .initialized "java/lang/Math", .code Lib.Math.min.name Lib.Math.min.code 2 (some .int), .methodLink RJ7 150 arraycopyName, .native arraycopyName, .static arraycopyName, .initialized "java/lang/System"]
def v_K7_copyOf_59c91 : List Cond := .code yJ7_copyOf_59c91 cJ7_copyOf_59c91 3 (some (.array .int)) :: (e_K7_copyOf_59c91 ++ [])
theorem te_K7_copyOf_59c91 : GoodIn lw_tbl e_K7_copyOf_59c91 := wGc zc552 (wGc zc571 (wGc zc273 (wGc zc272 (wGc zc271 (wGc zc570 (wGc zc207 (wGc zc206 (wGc zc205 (wG0)))))))))
theorem t_K7_copyOf_59c91 : GoodIn lw_tbl v_K7_copyOf_59c91 := wGc zc572 (wGa te_K7_copyOf_59c91 (wG0))
set_option maxHeartbeats 4000000 in
set_option maxRecDepth 100000 in
theorem c_K7_copyOf_59c91 (l : Launch) (G : va_G) (K : Nat → ClassId) (ad0 : Nat → Nat) (S0 : Cst) (x0 : Nat) (lc : Nat) (ls : Nat) (a1 : Int32) (sz : Nat) : Met l yJ7_copyOf_59c91 v_K7_copyOf_59c91 ({ frames := 1, cells := lc - S0.1, slots := ls - S0.2.1, locals := 60 }) (va_Pc [.ref (ad0 x0), .int a1] (cSt G K ad0 sz S0 ((S0.1 ≤ lc ∧ S0.2.1 ≤ ls) ∧ iK S0 x0 20 ∧ p_K7_copyOf_59c91 S0 x0 lc ls a1))) (va_Qq (fun (r : Option Nat) (u : Cst × (Nat → Nat)) => ∃ r', r = r'.map u.2 ∧ ((r', u.1) = f_K7_copyOf_59c91 S0 x0 a1 ∧ eN S0 u.1 ∧ (∀ q, q < S0.1 → u.2 q = ad0 q))) (fun u t => cBt G K u.2 (va_A (wsC K ad0 S0) sz) u.1 t) (va_A (wsC K ad0 S0) sz)) (lc - S0.1) (ls - S0.2.1) (va_A (wsC K ad0 S0) sz) := by
  refine Met.ofW (cc := cJ7_copyOf_59c91) (maxL := 3) (ret := (some (.array .int))) (by decide) rfl ?_
  intro p e s m args below meth c s₁ B hml hv
  obtain ⟨rfl, ⟨hsz, hP, hK, hD0, hTE⟩, hp⟩ := hv
  obtain ⟨k_l, hp⟩ := hp
  obtain ⟨k_x0, hp⟩ := hp
  have hx := B.exec
  have hb := B.bytes
  have hr := B.returns
  have hts := atoms_spec (ws := v_K7_copyOf_59c91) B.pre
  have t_ := t_K7_copyOf_59c91
  have mw : ∀ w ∈ e_K7_copyOf_59c91, w ∈ v_K7_copyOf_59c91 := fun w h => List.mem_cons_of_mem _ (List.mem_append_left _ h)
  have hw := fun w (h : w ∈ e_K7_copyOf_59c91) => hts w (mw w h)
  have hown : s.vm.findClass RJ7 = some m.cls := findClass_of_methodNamed B.named
  have hlocks := B.notSynchronized
  subst hsz
  have hD := hD0.self (sz := s.heap.size)
  generalize hAe : va_A (wsC K ad0 S0) s.heap.size = A at hD ⊢
  have hA : ∀ q : Nat, s.heap.size ≤ q → A q := fun q h => by rw [← hAe]; exact Or.inr h
  have hS : va_S A s.heap s.heap [] := va_S.rf
  have hl : lv_has (lg_sl ([.ref (ad0 x0), .int a1]) ++ List.replicate (3 - (lg_sl ([.ref (ad0 x0), .int a1])).length) Slot.unset).toArray 3 [(0, .ref (ad0 x0)), (1, .int a1)] := by
    exact lv_entry ([.ref (ad0 x0), .int a1]) (n := 3) (Nat.le_of_ble_eq_true rfl)
  rw [lg_entry_eq]
  generalize (lg_sl ([.ref (ad0 x0), .int a1]) ++ List.replicate (3 - (lg_sl ([.ref (ad0 x0), .int a1])).length) Slot.unset).toArray = ls_ at hl ⊢
  refine wGen (fun Q hQ => ?_)
  obtain ⟨X, hX⟩ : ∃ X, f_K7_copyOf_59c91 S0 x0 a1 = X := ⟨_, rfl⟩
  have B_K7_copyOf_59c91_17a : ∀ (S : Cst) (ad : Nat → Nat) (x1 : Int32) (o0 : Option Nat) (H : Heap) (locs : List Loc) (ls_ : Array Slot), b_K7_copyOf_59c91_17a S x0 x1 o0 = X → q_K7_copyOf_59c91_17a S x0 lc ls x1 o0 → nH S0 ad0 lc ls S ad → va_P G vwCl (wsC K ad S) H → va_D A (wsC K ad S) → va_S A s.heap H locs → lv_has ls_ 3 [(0, .ref (ad x0)), (1, .int x1)] → W p l e ({ frames := 1, cells := lc - S0.1, slots := ls - S0.2.1, locals := 60 } : Room) s m #[Value.ref (ad0 x0), Value.int a1] below meth c H locs (S.1 - S0.1) (S.2.1 - S0.2.1) Q (F0 m 17 ls_ [va_re ad o0]) := by
    intro S ad x1 o0 H locs ls_ hE hp hZ hP hD hS hl
    unfold b_K7_copyOf_59c91_17a at hE
    unfold q_K7_copyOf_59c91_17a at hp
    refine cAstore_n (ad := ad) (r := o0) (i := 2) (lv' := [(2, va_re ad o0), (0, .ref (ad x0)), (1, .int x1)]) hx hb dJ7_copyOf_59c91_17 rfl hl (by decide) rfl (fun ls_ hl => ?_)
    refine lv_aload_n hx hb dJ7_copyOf_59c91_18 rfl (lv_at hl 1 rfl) ?_
    refine lv_iconst (v := 0) hx hb dJ7_copyOf_59c91_19 (by decide) ?_
    refine cAload_n (ad := ad) (r := o0) hx hb dJ7_copyOf_59c91_20 rfl (lv_at hl 0 rfl) ?_
    refine lv_iconst (v := 0) hx hb dJ7_copyOf_59c91_21 (by decide) ?_
    refine lv_aload_n hx hb dJ7_copyOf_59c91_22 rfl (lv_at hl 1 rfl) ?_
    refine va_alen (v := (Int32.ofNat (lnC S x0))) hx hb hK hP x0 0 (at_20 (k_x0.n hZ.1)) rfl rfl dJ7_copyOf_59c91_23 ?_
    refine lv_iload_n hx hb dJ7_copyOf_59c91_24 rfl (lv_at hl 2 rfl) ?_
    refine va_mmin hx hb (by rw [hml]; exact hl.1.symm) hown (hw (.methodLink RJ7 304 Lib.Math.min.name) (List.mem_of_getElem? (i := 1) rfl)) (hw (.static Lib.Math.min.name) (List.mem_of_getElem? (i := 2) rfl)) (hw (.initialized "java/lang/Math") (List.mem_of_getElem? (i := 3) rfl)) (hw (.code Lib.Math.min.name Lib.Math.min.code 2 (some .int)) (List.mem_of_getElem? (i := 4) rfl)) (Nat.le_of_ble_eq_true rfl) (by simp only [List.map_cons, List.map_nil, List.sum_cons, List.sum_nil, re_cat]; exact Nat.le_of_ble_eq_true rfl) (show S.1 - S0.1 ≤ lc - S0.1 from Nat.sub_le_sub_right hZ.2.2.1 _) (show S.2.1 - S0.2.1 ≤ ls - S0.2.1 from Nat.sub_le_sub_right hZ.2.2.2 _) dJ7_copyOf_59c91_25 ?_
    obtain ⟨hy3, hp⟩ := hp
    refine cTop3 (r := o0) hy3.1 ?_
    obtain ⟨hy4, hp⟩ := hp
    refine va_copyi hx hb (by rw [hml]; exact hl.1.symm) hown (hw (.methodLink RJ7 150 arraycopyName) (List.mem_of_getElem? (i := 5) rfl)) (hw (.native arraycopyName) (List.mem_of_getElem? (i := 6) rfl)) (hw (.static arraycopyName) (List.mem_of_getElem? (i := 7) rfl)) (hw (.initialized "java/lang/System") (List.mem_of_getElem? (i := 8) rfl)) hK hP hD hS x0 (o0.getD 0) 0 0 (at_20 (k_x0.n hZ.1)) (at_20 hy3.2) rfl rfl rfl hy4.1.1 hy4.1.2.1 hy4.1.2.2 hy4.2.1 hy4.2.2 (fun i hi => rfl) (Nat.le_of_ble_eq_true rfl) (Nat.le_of_ble_eq_true rfl) dJ7_copyOf_59c91_28 (fun H locs hP hD hS => ?_)
    rw [sf_20 hy3.2] at hP hD
    have hZ := hZ.k (eK.sf S (o0.getD 0) (va_cpy (giC S x0) (giC S (o0.getD 0)) (0 : Int32).toNatClampNeg (0 : Int32).toNatClampNeg (if x1 < (Int32.ofNat (lnC S x0)) then x1 else (Int32.ofNat (lnC S x0))).toNatClampNeg))
    refine cAload_n (ad := ad) (r := o0) hx hb dJ7_copyOf_59c91_31 rfl (lv_at hl 0 rfl) ?_
    refine W.widen (k := lc - S0.1) (n := ls - S0.2.1) (show S.1 - S0.1 ≤ lc - S0.1 from Nat.sub_le_sub_right hZ.2.2.1 _) (show S.2.1 - S0.2.1 ≤ ls - S0.2.1 from Nat.sub_le_sub_right hZ.2.2.2 _) ?_
    subst hQ
    exact W.aret (v := va_re ad o0) hx hb hr (Or.inr ⟨_, rfl⟩) (va_re_or ad _) (fun t ht hW => ⟨⟨o0.map ad, ((sfC S (o0.getD 0) (va_cpy (giC S x0) (giC S (o0.getD 0)) (0 : Int32).toNatClampNeg (0 : Int32).toNatClampNeg (if x1 < (Int32.ofNat (lnC S x0)) then x1 else (Int32.ofNat (lnC S x0))).toNatClampNeg)), ad), rfl, ⟨o0, rfl, ⟨hE.trans hX.symm, hZ.1, hZ.2.1⟩⟩, by rw [ht]; exact hP, hD⟩, hS.F ht⟩) hS.2.2 dJ7_copyOf_59c91_32
  have B_M : ∀ (S : Cst) (ad : Nat → Nat) (x1 : Int32) (H : Heap) (locs : List Loc) (ls_ : Array Slot), f_K7_copyOf_59c91 S x0 x1 = X → p_K7_copyOf_59c91 S x0 lc ls x1 → nH S0 ad0 lc ls S ad → va_P G vwCl (wsC K ad S) H → va_D A (wsC K ad S) → va_S A s.heap H locs → lv_has ls_ 3 [(0, .ref (ad x0)), (1, .int x1)] → W p l e ({ frames := 1, cells := lc - S0.1, slots := ls - S0.2.1, locals := 60 } : Room) s m #[Value.ref (ad0 x0), Value.int a1] below meth c H locs (S.1 - S0.1) (S.2.1 - S0.2.1) Q (F0 m 0 ls_ []) := by
    intro S ad x1 H locs ls_ hE hp hZ hP hD hS hl
    unfold f_K7_copyOf_59c91 at hE
    unfold p_K7_copyOf_59c91 at hp
    refine lv_iload_n hx hb dJ7_copyOf_59c91_0 rfl (lv_at hl 1 rfl) ?_
    refine lv_aload_n hx hb dJ7_copyOf_59c91_1 rfl (lv_at hl 0 rfl) ?_
    refine va_alen (v := (Int32.ofNat (lnC S x0))) hx hb hK hP x0 0 (at_20 (k_x0.n hZ.1)) rfl rfl dJ7_copyOf_59c91_2 ?_
    refine lv_icmp_ne (tgt := 14) hx hb dJ7_copyOf_59c91_3 (by decide) (fun c1 => ?_) (fun c1 => ?_)
    · rw [if_neg c1] at hE hp
      refine lv_iload_n hx hb dJ7_copyOf_59c91_14 rfl (lv_at hl 1 rfl) ?_
      obtain ⟨hy2, hp⟩ := hp
      refine cCells (cells' := S.1 - S0.1) (slots' := S.2.1 - S0.2.1) rfl rfl ?_
      refine va_newa (atype := .int) (ty := .int) (a0 := (x1.toNatClampNeg, .inl (fun _ => 0))) (N' := x1.toNatClampNeg) hx hb (hw (.arrayClass .int) (List.mem_of_getElem? (i := 0) rfl)) rfl hK hP hD hS hA (fun _ => rfl) hy2.1.2.1 rfl hy2.1.2.2 (by show S.1 - S0.1 + 1 ≤ lc - S0.1; have := hZ.1.1.1; have := hy2.2.1; omega) (by show S.2.1 - S0.2.1 + _ ≤ ls - S0.2.1; have := hZ.1.1.2; have := hy2.2.2; omega) dJ7_copyOf_59c91_15 (fun q0 cA H hK5 hP hD hS => ?_)
      obtain rfl : cA = K 0 := wTyI hK5 5 0 rfl rfl
      rw [wsC_app (W' := [(q0, .inl (K 0, x1.toNatClampNeg, .inl (fun _ => 0)))]) [q0] [(20, x1.toNatClampNeg, fun _ => 0, fun _ => none)] x1.toNatClampNeg hy2.1.1 rfl] at hP hD
      have ha : ∀ q, q < S.1 → (adX ad S.1 [q0]) q = ad q := fun q h => adX_old h
      have h0 : (adX ad S.1 [q0]) S.1 = q0 := adX_new (i := 0)
      refine wTop (v1 := va_re (adX ad S.1 [q0]) (some S.1)) (by show Value.ref q0 = Value.ref _; rw [h0]) ?_
      generalize adX ad S.1 [q0] = ad1 at hP hD ha ⊢
      refine cCells (cells' := S.1 + 1 - S0.1) (slots' := S.2.1 + x1.toNatClampNeg - S0.2.1) (by have := hZ.1.1.1; omega) (by have := hZ.1.1.2; omega) ?_
      rw [← ha x0 (k_x0.n hZ.1).1] at hl
      have hZ := hZ.n (eN.pu S [(20, x1.toNatClampNeg, fun _ => 0, fun _ => none)] x1.toNatClampNeg) ha hy2.2.1 hy2.2.2
      exact B_K7_copyOf_59c91_17a (puC S [(20, x1.toNatClampNeg, fun _ => 0, fun _ => none)] x1.toNatClampNeg) ad1 x1 (some S.1) _ _ _ hE hp hZ hP hD hS (lv_sub hl [0, 1] rfl)
    · rw [if_pos c1] at hE hp
      refine lv_aload_n hx hb dJ7_copyOf_59c91_6 rfl (lv_at hl 0 rfl) ?_
      exact False.elim hp
  exact cCells (Nat.sub_self _).symm (Nat.sub_self _).symm (B_M S0 ad0 a1 _ _ _ hX hp (nH.rf S0 ad0 k_l) hP hD hS hl)
theorem gdX3_makeRoom_0 : ckS (List.drop 0 cX3_makeRoom.data.toList) 0 [(0, .iload_n 1, 1), (1, .aload_n 0, 1), (2, .getfield 15, 3), (5, .imul, 1), (6, .istore_n 2, 1), (7, .iload_n 2, 1), (8, .aload_n 0, 1), (9, .getfield 24, 3), (12, .arraylength, 1), (13, .if_icmp .le 37, 3), (16, .aload_n 0, 1), (17, .aload_n 0, 1), (18, .getfield 24, 3), (21, .iload_n 2, 1), (22, .iconst 2, 1), (23, .aload_n 0, 1), (24, .getfield 24, 3), (27, .arraylength, 1), (28, .imul, 1), (29, .invokestatic 9, 3), (32, .aload_n 0, 1), (33, .getfield 21, 3), (36, .aload_n 0, 1), (37, .getfield 15, 3), (40, .imul, 1), (41, .invokestatic 39, 3), (44, .invokestatic 48, 3), (47, .putfield 24, 3), (50, .return_, 1)] = true := by decide +kernel
theorem dX3_makeRoom_0 : decode cX3_makeRoom 0 = .ok (.iload_n 1, 1) := ckS_g gdX3_makeRoom_0 0 rfl
theorem dX3_makeRoom_1 : decode cX3_makeRoom 1 = .ok (.aload_n 0, 1) := ckS_g gdX3_makeRoom_0 1 rfl
theorem dX3_makeRoom_2 : decode cX3_makeRoom 2 = .ok (.getfield 15, 3) := ckS_g gdX3_makeRoom_0 2 rfl
theorem dX3_makeRoom_5 : decode cX3_makeRoom 5 = .ok (.imul, 1) := ckS_g gdX3_makeRoom_0 3 rfl
theorem dX3_makeRoom_6 : decode cX3_makeRoom 6 = .ok (.istore_n 2, 1) := ckS_g gdX3_makeRoom_0 4 rfl
theorem dX3_makeRoom_7 : decode cX3_makeRoom 7 = .ok (.iload_n 2, 1) := ckS_g gdX3_makeRoom_0 5 rfl
theorem dX3_makeRoom_8 : decode cX3_makeRoom 8 = .ok (.aload_n 0, 1) := ckS_g gdX3_makeRoom_0 6 rfl
theorem dX3_makeRoom_9 : decode cX3_makeRoom 9 = .ok (.getfield 24, 3) := ckS_g gdX3_makeRoom_0 7 rfl
theorem dX3_makeRoom_12 : decode cX3_makeRoom 12 = .ok (.arraylength, 1) := ckS_g gdX3_makeRoom_0 8 rfl
theorem dX3_makeRoom_13 : decode cX3_makeRoom 13 = .ok (.if_icmp .le 37, 3) := ckS_g gdX3_makeRoom_0 9 rfl
theorem dX3_makeRoom_16 : decode cX3_makeRoom 16 = .ok (.aload_n 0, 1) := ckS_g gdX3_makeRoom_0 10 rfl
theorem dX3_makeRoom_17 : decode cX3_makeRoom 17 = .ok (.aload_n 0, 1) := ckS_g gdX3_makeRoom_0 11 rfl
theorem dX3_makeRoom_18 : decode cX3_makeRoom 18 = .ok (.getfield 24, 3) := ckS_g gdX3_makeRoom_0 12 rfl
theorem dX3_makeRoom_21 : decode cX3_makeRoom 21 = .ok (.iload_n 2, 1) := ckS_g gdX3_makeRoom_0 13 rfl
theorem dX3_makeRoom_22 : decode cX3_makeRoom 22 = .ok (.iconst 2, 1) := ckS_g gdX3_makeRoom_0 14 rfl
theorem dX3_makeRoom_23 : decode cX3_makeRoom 23 = .ok (.aload_n 0, 1) := ckS_g gdX3_makeRoom_0 15 rfl
theorem dX3_makeRoom_24 : decode cX3_makeRoom 24 = .ok (.getfield 24, 3) := ckS_g gdX3_makeRoom_0 16 rfl
theorem dX3_makeRoom_27 : decode cX3_makeRoom 27 = .ok (.arraylength, 1) := ckS_g gdX3_makeRoom_0 17 rfl
theorem dX3_makeRoom_28 : decode cX3_makeRoom 28 = .ok (.imul, 1) := ckS_g gdX3_makeRoom_0 18 rfl
theorem dX3_makeRoom_29 : decode cX3_makeRoom 29 = .ok (.invokestatic 9, 3) := ckS_g gdX3_makeRoom_0 19 rfl
theorem dX3_makeRoom_32 : decode cX3_makeRoom 32 = .ok (.aload_n 0, 1) := ckS_g gdX3_makeRoom_0 20 rfl
theorem dX3_makeRoom_33 : decode cX3_makeRoom 33 = .ok (.getfield 21, 3) := ckS_g gdX3_makeRoom_0 21 rfl
theorem dX3_makeRoom_36 : decode cX3_makeRoom 36 = .ok (.aload_n 0, 1) := ckS_g gdX3_makeRoom_0 22 rfl
theorem dX3_makeRoom_37 : decode cX3_makeRoom 37 = .ok (.getfield 15, 3) := ckS_g gdX3_makeRoom_0 23 rfl
theorem dX3_makeRoom_40 : decode cX3_makeRoom 40 = .ok (.imul, 1) := ckS_g gdX3_makeRoom_0 24 rfl
theorem dX3_makeRoom_41 : decode cX3_makeRoom 41 = .ok (.invokestatic 39, 3) := ckS_g gdX3_makeRoom_0 25 rfl
theorem dX3_makeRoom_44 : decode cX3_makeRoom 44 = .ok (.invokestatic 48, 3) := ckS_g gdX3_makeRoom_0 26 rfl
theorem dX3_makeRoom_47 : decode cX3_makeRoom 47 = .ok (.putfield 24, 3) := ckS_g gdX3_makeRoom_0 27 rfl
theorem dX3_makeRoom_50 : decode cX3_makeRoom 50 = .ok (.return_, 1) := ckS_g gdX3_makeRoom_0 28 rfl
set_option maxRecDepth 100000 in
theorem zc573 : wZ (.static yJ7_copyOf_59c91) := ⟨wT3 (List.mem_of_getElem? (i := 198) (by decide +kernel)), Or.inl rfl⟩
set_option maxRecDepth 100000 in
theorem zc574 : wZ (.methodLink RX3 48 yJ7_copyOf_59c91) := ⟨wT3 (List.mem_of_getElem? (i := 197) (by decide +kernel)), Or.inl rfl⟩
set_option maxRecDepth 100000 in
theorem zc575 : wZ (.methodLink RX3 39 Lib.Math.min.name) := ⟨wT3 (List.mem_of_getElem? (i := 194) (by decide +kernel)), Or.inl rfl⟩
set_option maxRecDepth 100000 in
theorem zc576 : wZ (.methodLink RX3 9 Lib.Math.max.name) := ⟨wT1 (List.mem_of_getElem? (i := 127) (by decide +kernel)), Or.inl rfl⟩
set_option maxRecDepth 100000 in
theorem zc577 : wZ (.code yX3_makeRoom cX3_makeRoom 3 none) := ⟨wT3 (List.mem_of_getElem? (i := 193) rfl), Or.inl rfl⟩
def b_Y3_makeRoom_50 (S : Cst) (x0 : Nat) (x1 : Int32) (x2 : Int32) : Int32 × Cst := (0, S)
def q_Y3_makeRoom_50 (S : Cst) (x0 : Nat) (lc : Nat) (ls : Nat) (x1 : Int32) (x2 : Int32) : Prop := True
def b_Y3_makeRoom_47a (S : Cst) (x0 : Nat) (x1 : Int32) (x2 : Int32) (o0 : Option Nat) : Int32 × Cst := (b_Y3_makeRoom_50 (srC S x0 2 o0) x0 x1 x2)
def q_Y3_makeRoom_47a (S : Cst) (x0 : Nat) (lc : Nat) (ls : Nat) (x1 : Int32) (x2 : Int32) (o0 : Option Nat) : Prop := (q_Y3_makeRoom_50 (srC S x0 2 o0) x0 lc ls x1 x2)
def f_Y3_makeRoom (S : Cst) (x0 : Nat) (x1 : Int32) : Int32 × Cst := if (x1 * (giC S x0 0)) ≤ (Int32.ofNat (lnC S ((grC S x0 2).getD 0))) then (b_Y3_makeRoom_50 S x0 x1 (x1 * (giC S x0 0))) else (b_Y3_makeRoom_47a ((f_K7_copyOf_59c91 S ((grC S x0 2).getD 0) (if ((giC S x0 1) * (giC S x0 0)) < (if (x1 * (giC S x0 0)) < (2 * (Int32.ofNat (lnC S ((grC S x0 2).getD 0)))) then (2 * (Int32.ofNat (lnC S ((grC S x0 2).getD 0)))) else (x1 * (giC S x0 0))) then ((giC S x0 1) * (giC S x0 0)) else (if (x1 * (giC S x0 0)) < (2 * (Int32.ofNat (lnC S ((grC S x0 2).getD 0)))) then (2 * (Int32.ofNat (lnC S ((grC S x0 2).getD 0)))) else (x1 * (giC S x0 0))))).2) x0 x1 (x1 * (giC S x0 0)) ((f_K7_copyOf_59c91 S ((grC S x0 2).getD 0) (if ((giC S x0 1) * (giC S x0 0)) < (if (x1 * (giC S x0 0)) < (2 * (Int32.ofNat (lnC S ((grC S x0 2).getD 0)))) then (2 * (Int32.ofNat (lnC S ((grC S x0 2).getD 0)))) else (x1 * (giC S x0 0))) then ((giC S x0 1) * (giC S x0 0)) else (if (x1 * (giC S x0 0)) < (2 * (Int32.ofNat (lnC S ((grC S x0 2).getD 0)))) then (2 * (Int32.ofNat (lnC S ((grC S x0 2).getD 0)))) else (x1 * (giC S x0 0))))).1))
def p_Y3_makeRoom (S : Cst) (x0 : Nat) (lc : Nat) (ls : Nat) (x1 : Int32) : Prop := (iR S (grC S x0 2) 20) ∧ (if (x1 * (giC S x0 0)) ≤ (Int32.ofNat (lnC S ((grC S x0 2).getD 0))) then (q_Y3_makeRoom_50 S x0 lc ls x1 (x1 * (giC S x0 0))) else (iR S (grC S x0 2) 20) ∧ (iR S (grC S x0 2) 20) ∧ ((S.1 ≤ (f_K7_copyOf_59c91 S ((grC S x0 2).getD 0) (if ((giC S x0 1) * (giC S x0 0)) < (if (x1 * (giC S x0 0)) < (2 * (Int32.ofNat (lnC S ((grC S x0 2).getD 0)))) then (2 * (Int32.ofNat (lnC S ((grC S x0 2).getD 0)))) else (x1 * (giC S x0 0))) then ((giC S x0 1) * (giC S x0 0)) else (if (x1 * (giC S x0 0)) < (2 * (Int32.ofNat (lnC S ((grC S x0 2).getD 0)))) then (2 * (Int32.ofNat (lnC S ((grC S x0 2).getD 0)))) else (x1 * (giC S x0 0))))).2.1 ∧ (f_K7_copyOf_59c91 S ((grC S x0 2).getD 0) (if ((giC S x0 1) * (giC S x0 0)) < (if (x1 * (giC S x0 0)) < (2 * (Int32.ofNat (lnC S ((grC S x0 2).getD 0)))) then (2 * (Int32.ofNat (lnC S ((grC S x0 2).getD 0)))) else (x1 * (giC S x0 0))) then ((giC S x0 1) * (giC S x0 0)) else (if (x1 * (giC S x0 0)) < (2 * (Int32.ofNat (lnC S ((grC S x0 2).getD 0)))) then (2 * (Int32.ofNat (lnC S ((grC S x0 2).getD 0)))) else (x1 * (giC S x0 0))))).2.1 ≤ lc) ∧ (S.2.1 ≤ (f_K7_copyOf_59c91 S ((grC S x0 2).getD 0) (if ((giC S x0 1) * (giC S x0 0)) < (if (x1 * (giC S x0 0)) < (2 * (Int32.ofNat (lnC S ((grC S x0 2).getD 0)))) then (2 * (Int32.ofNat (lnC S ((grC S x0 2).getD 0)))) else (x1 * (giC S x0 0))) then ((giC S x0 1) * (giC S x0 0)) else (if (x1 * (giC S x0 0)) < (2 * (Int32.ofNat (lnC S ((grC S x0 2).getD 0)))) then (2 * (Int32.ofNat (lnC S ((grC S x0 2).getD 0)))) else (x1 * (giC S x0 0))))).2.2.1 ∧ (f_K7_copyOf_59c91 S ((grC S x0 2).getD 0) (if ((giC S x0 1) * (giC S x0 0)) < (if (x1 * (giC S x0 0)) < (2 * (Int32.ofNat (lnC S ((grC S x0 2).getD 0)))) then (2 * (Int32.ofNat (lnC S ((grC S x0 2).getD 0)))) else (x1 * (giC S x0 0))) then ((giC S x0 1) * (giC S x0 0)) else (if (x1 * (giC S x0 0)) < (2 * (Int32.ofNat (lnC S ((grC S x0 2).getD 0)))) then (2 * (Int32.ofNat (lnC S ((grC S x0 2).getD 0)))) else (x1 * (giC S x0 0))))).2.2.1 ≤ ls)) ∧ (p_K7_copyOf_59c91 S ((grC S x0 2).getD 0) (f_K7_copyOf_59c91 S ((grC S x0 2).getD 0) (if ((giC S x0 1) * (giC S x0 0)) < (if (x1 * (giC S x0 0)) < (2 * (Int32.ofNat (lnC S ((grC S x0 2).getD 0)))) then (2 * (Int32.ofNat (lnC S ((grC S x0 2).getD 0)))) else (x1 * (giC S x0 0))) then ((giC S x0 1) * (giC S x0 0)) else (if (x1 * (giC S x0 0)) < (2 * (Int32.ofNat (lnC S ((grC S x0 2).getD 0)))) then (2 * (Int32.ofNat (lnC S ((grC S x0 2).getD 0)))) else (x1 * (giC S x0 0))))).2.1 (f_K7_copyOf_59c91 S ((grC S x0 2).getD 0) (if ((giC S x0 1) * (giC S x0 0)) < (if (x1 * (giC S x0 0)) < (2 * (Int32.ofNat (lnC S ((grC S x0 2).getD 0)))) then (2 * (Int32.ofNat (lnC S ((grC S x0 2).getD 0)))) else (x1 * (giC S x0 0))) then ((giC S x0 1) * (giC S x0 0)) else (if (x1 * (giC S x0 0)) < (2 * (Int32.ofNat (lnC S ((grC S x0 2).getD 0)))) then (2 * (Int32.ofNat (lnC S ((grC S x0 2).getD 0)))) else (x1 * (giC S x0 0))))).2.2.1 (if ((giC S x0 1) * (giC S x0 0)) < (if (x1 * (giC S x0 0)) < (2 * (Int32.ofNat (lnC S ((grC S x0 2).getD 0)))) then (2 * (Int32.ofNat (lnC S ((grC S x0 2).getD 0)))) else (x1 * (giC S x0 0))) then ((giC S x0 1) * (giC S x0 0)) else (if (x1 * (giC S x0 0)) < (2 * (Int32.ofNat (lnC S ((grC S x0 2).getD 0)))) then (2 * (Int32.ofNat (lnC S ((grC S x0 2).getD 0)))) else (x1 * (giC S x0 0))))) ∧ (q_Y3_makeRoom_47a ((f_K7_copyOf_59c91 S ((grC S x0 2).getD 0) (if ((giC S x0 1) * (giC S x0 0)) < (if (x1 * (giC S x0 0)) < (2 * (Int32.ofNat (lnC S ((grC S x0 2).getD 0)))) then (2 * (Int32.ofNat (lnC S ((grC S x0 2).getD 0)))) else (x1 * (giC S x0 0))) then ((giC S x0 1) * (giC S x0 0)) else (if (x1 * (giC S x0 0)) < (2 * (Int32.ofNat (lnC S ((grC S x0 2).getD 0)))) then (2 * (Int32.ofNat (lnC S ((grC S x0 2).getD 0)))) else (x1 * (giC S x0 0))))).2) x0 lc ls x1 (x1 * (giC S x0 0)) ((f_K7_copyOf_59c91 S ((grC S x0 2).getD 0) (if ((giC S x0 1) * (giC S x0 0)) < (if (x1 * (giC S x0 0)) < (2 * (Int32.ofNat (lnC S ((grC S x0 2).getD 0)))) then (2 * (Int32.ofNat (lnC S ((grC S x0 2).getD 0)))) else (x1 * (giC S x0 0))) then ((giC S x0 1) * (giC S x0 0)) else (if (x1 * (giC S x0 0)) < (2 * (Int32.ofNat (lnC S ((grC S x0 2).getD 0)))) then (2 * (Int32.ofNat (lnC S ((grC S x0 2).getD 0)))) else (x1 * (giC S x0 0))))).1)))
def e_Y3_makeRoom : List Cond := [.fieldLink RX3 15 "MotionFloor$Ledger" "columns" "I", .fieldLink RX3 24 "MotionFloor$Ledger" "cells" "[I", .methodLink RX3 9 Lib.Math.max.name, .static Lib.Math.max.name, .initialized "java/lang/Math", .code Lib.Math.max.name Lib.Math.max.code 2 (some .int), .fieldLink RX3 21 "MotionFloor$Ledger" "most" "I", .methodLink RX3 39 Lib.Math.min.name, .static Lib.Math.min.name, .code Lib.Math.min.name Lib.Math.min.code 2 (some .int), .methodLink RX3 48 yJ7_copyOf_59c91, .static yJ7_copyOf_59c91, .initialized RJ7]
def v_Y3_makeRoom : List Cond := .code yX3_makeRoom cX3_makeRoom 3 none :: (e_Y3_makeRoom ++ (wsX30 ++ (v_K7_copyOf_59c91 ++ [])))
theorem te_Y3_makeRoom : GoodIn lw_tbl e_Y3_makeRoom := wGc zc242 (wGc zc241 (wGc zc576 (wGc zc269 (wGc zc272 (wGc zc268 (wGc zc238 (wGc zc575 (wGc zc273 (wGc zc271 (wGc zc574 (wGc zc573 (wGc zc73 (wG0)))))))))))))
theorem t_Y3_makeRoom : GoodIn lw_tbl v_Y3_makeRoom := wGc zc577 (wGa te_Y3_makeRoom (wGa zcX3 (wGa t_K7_copyOf_59c91 (wG0))))
set_option maxHeartbeats 4000000 in
set_option maxRecDepth 100000 in
theorem c_Y3_makeRoom (l : Launch) (G : va_G) (K : Nat → ClassId) (ad0 : Nat → Nat) (S0 : Cst) (x0 : Nat) (lc : Nat) (ls : Nat) (a1 : Int32) (sz : Nat) : Met l yX3_makeRoom v_Y3_makeRoom ({ frames := 2, cells := lc - S0.1, slots := ls - S0.2.1, locals := 82 }) (va_Pc [.ref (ad0 x0), .int a1] (cSt G K ad0 sz S0 ((S0.1 ≤ lc ∧ S0.2.1 ≤ ls) ∧ iK S0 x0 2 ∧ p_Y3_makeRoom S0 x0 lc ls a1))) (va_Qv (fun (u : Cst × (Nat → Nat)) => (0, u.1) = f_Y3_makeRoom S0 x0 a1 ∧ eN S0 u.1 ∧ (∀ q, q < S0.1 → u.2 q = ad0 q)) (fun u t => cBt G K u.2 (va_A (wsC K ad0 S0) sz) u.1 t) (va_A (wsC K ad0 S0) sz)) (lc - S0.1) (ls - S0.2.1) (va_A (wsC K ad0 S0) sz) := by
  refine Met.ofW (cc := cX3_makeRoom) (maxL := 3) (ret := none) (by decide) rfl ?_
  intro p e s m args below meth c s₁ B hml hv
  obtain ⟨rfl, ⟨hsz, hP, hK, hD0, hTE⟩, hp⟩ := hv
  obtain ⟨k_l, hp⟩ := hp
  obtain ⟨k_x0, hp⟩ := hp
  have hx := B.exec
  have hb := B.bytes
  have hr := B.returns
  have hts := atoms_spec (ws := v_Y3_makeRoom) B.pre
  have t_ := t_Y3_makeRoom
  have mw : ∀ w ∈ e_Y3_makeRoom, w ∈ v_Y3_makeRoom := fun w h => List.mem_cons_of_mem _ (List.mem_append_left _ h)
  have hw := fun w (h : w ∈ e_Y3_makeRoom) => hts w (mw w h)
  have iX3 : ∀ w ∈ wsX30, w ∈ v_Y3_makeRoom := fun w h => List.mem_cons_of_mem _ (List.mem_append_right _ (List.mem_append_left _ h))
  have j_K7_copyOf_59c91 : ∀ w ∈ v_K7_copyOf_59c91, w ∈ v_Y3_makeRoom := fun w h => List.mem_cons_of_mem _ (List.mem_append_right _ (List.mem_append_right _ (List.mem_append_left _ h)))
  have hown : s.vm.findClass RX3 = some m.cls := findClass_of_methodNamed B.named
  have hlocks := B.notSynchronized
  subst hsz
  have hD := hD0.self (sz := s.heap.size)
  generalize hAe : va_A (wsC K ad0 S0) s.heap.size = A at hD ⊢
  have hA : ∀ q : Nat, s.heap.size ≤ q → A q := fun q h => by rw [← hAe]; exact Or.inr h
  have hS : va_S A s.heap s.heap [] := va_S.rf
  have hl : lv_has (lg_sl ([.ref (ad0 x0), .int a1]) ++ List.replicate (3 - (lg_sl ([.ref (ad0 x0), .int a1])).length) Slot.unset).toArray 3 [(0, .ref (ad0 x0)), (1, .int a1)] := by
    exact lv_entry ([.ref (ad0 x0), .int a1]) (n := 3) (Nat.le_of_ble_eq_true rfl)
  rw [lg_entry_eq]
  generalize (lg_sl ([.ref (ad0 x0), .int a1]) ++ List.replicate (3 - (lg_sl ([.ref (ad0 x0), .int a1])).length) Slot.unset).toArray = ls_ at hl ⊢
  refine wGen (fun Q hQ => ?_)
  obtain ⟨X, hX⟩ : ∃ X, f_Y3_makeRoom S0 x0 a1 = X := ⟨_, rfl⟩
  have B_Y3_makeRoom_50 : ∀ (S : Cst) (ad : Nat → Nat) (x1 : Int32) (x2 : Int32) (H : Heap) (locs : List Loc) (ls_ : Array Slot), b_Y3_makeRoom_50 S x0 x1 x2 = X → q_Y3_makeRoom_50 S x0 lc ls x1 x2 → nH S0 ad0 lc ls S ad → va_P G vwCl (wsC K ad S) H → va_D A (wsC K ad S) → va_S A s.heap H locs → lv_has ls_ 3 [(0, .ref (ad x0)), (1, .int x1), (2, .int x2)] → W p l e ({ frames := 2, cells := lc - S0.1, slots := ls - S0.2.1, locals := 82 } : Room) s m #[Value.ref (ad0 x0), Value.int a1] below meth c H locs (S.1 - S0.1) (S.2.1 - S0.2.1) Q (F0 m 50 ls_ []) := by
    intro S ad x1 x2 H locs ls_ hE hp hZ hP hD hS hl
    unfold b_Y3_makeRoom_50 at hE
    unfold q_Y3_makeRoom_50 at hp
    refine W.widen (k := lc - S0.1) (n := ls - S0.2.1) (show S.1 - S0.1 ≤ lc - S0.1 from Nat.sub_le_sub_right hZ.2.2.1 _) (show S.2.1 - S0.2.1 ≤ ls - S0.2.1 from Nat.sub_le_sub_right hZ.2.2.2 _) ?_
    subst hQ
    exact W.vret hx hb hr (fun t ht hW => ⟨⟨(S, ad), rfl, ⟨hE.trans hX.symm, hZ.1, hZ.2.1⟩, by rw [ht]; exact hP, hD⟩, hS.F ht⟩) hS.2.2 dX3_makeRoom_50
  have B_Y3_makeRoom_47a : ∀ (S : Cst) (ad : Nat → Nat) (x1 : Int32) (x2 : Int32) (o0 : Option Nat) (H : Heap) (locs : List Loc) (ls_ : Array Slot), b_Y3_makeRoom_47a S x0 x1 x2 o0 = X → q_Y3_makeRoom_47a S x0 lc ls x1 x2 o0 → nH S0 ad0 lc ls S ad → va_P G vwCl (wsC K ad S) H → va_D A (wsC K ad S) → va_S A s.heap H locs → lv_has ls_ 3 [(0, .ref (ad x0)), (1, .int x1), (2, .int x2)] → W p l e ({ frames := 2, cells := lc - S0.1, slots := ls - S0.2.1, locals := 82 } : Room) s m #[Value.ref (ad0 x0), Value.int a1] below meth c H locs (S.1 - S0.1) (S.2.1 - S0.2.1) Q (F0 m 47 ls_ [va_re ad o0, .ref (ad x0)]) := by
    intro S ad x1 x2 o0 H locs ls_ hE hp hZ hP hD hS hl
    unfold b_Y3_makeRoom_47a at hE
    unfold q_Y3_makeRoom_47a at hp
    refine va_put (D := G) (ci := 2) (v := va_re ad o0) (ty := .array .int) (C := RX3) (T := TX3) (N := 4) hx hb hts iX3 tyX3 tyX3_ok nmX3 hown hK hP hD hS x0 (at_2 (k_x0.n hZ.1)) rfl 2 (by decide) (hw (.fieldLink RX3 24 "MotionFloor$Ledger" "cells" "[I") (List.mem_of_getElem? (i := 1) rfl)) (fun _ h9 => h9) rfl (by decide +kernel) (re_nara ad _ _) (re_fita ad _ _) (Nat.le_of_ble_eq_true rfl) dX3_makeRoom_47 (fun H locs hP hD hS => ?_)
    rw [st_2_2 (k_x0.n hZ.1)] at hP hD
    have hZ := hZ.k (eK.sr S x0 2 o0)
    exact B_Y3_makeRoom_50 (srC S x0 2 o0) ad x1 x2 _ _ _ hE hp hZ hP hD hS (lv_sub hl [0, 1, 2] rfl)
  have B_M : ∀ (S : Cst) (ad : Nat → Nat) (x1 : Int32) (H : Heap) (locs : List Loc) (ls_ : Array Slot), f_Y3_makeRoom S x0 x1 = X → p_Y3_makeRoom S x0 lc ls x1 → nH S0 ad0 lc ls S ad → va_P G vwCl (wsC K ad S) H → va_D A (wsC K ad S) → va_S A s.heap H locs → lv_has ls_ 3 [(0, .ref (ad x0)), (1, .int x1)] → W p l e ({ frames := 2, cells := lc - S0.1, slots := ls - S0.2.1, locals := 82 } : Room) s m #[Value.ref (ad0 x0), Value.int a1] below meth c H locs (S.1 - S0.1) (S.2.1 - S0.2.1) Q (F0 m 0 ls_ []) := by
    intro S ad x1 H locs ls_ hE hp hZ hP hD hS hl
    unfold f_Y3_makeRoom at hE
    unfold p_Y3_makeRoom at hp
    refine lv_iload_n hx hb dX3_makeRoom_0 rfl (lv_at hl 1 rfl) ?_
    refine lv_aload_n hx hb dX3_makeRoom_1 rfl (lv_at hl 0 rfl) ?_
    refine va_get (D := G) (ci := 2) (v := .int (giC S x0 0)) (C := RX3) (T := TX3) (N := 4) hx hb hts iX3 hown hK hP x0 (at_2 (k_x0.n hZ.1)) rfl 0 (by decide) (hw (.fieldLink RX3 15 "MotionFloor$Ledger" "columns" "I") (List.mem_of_getElem? (i := 0) rfl)) (fun _ h9 => h9) rfl dX3_makeRoom_2 ?_
    refine lv_imul hx hb dX3_makeRoom_5 ?_
    refine lv_istore_n (i := 2) (lv' := [(2, .int (x1 * (giC S x0 0))), (0, .ref (ad x0)), (1, .int x1)]) hx hb dX3_makeRoom_6 rfl hl (by decide) rfl (fun ls_ hl => ?_)
    refine lv_iload_n hx hb dX3_makeRoom_7 rfl (lv_at hl 0 rfl) ?_
    refine lv_aload_n hx hb dX3_makeRoom_8 rfl (lv_at hl 1 rfl) ?_
    refine va_get (D := G) (ci := 2) (v := va_re ad (grC S x0 2)) (C := RX3) (T := TX3) (N := 4) hx hb hts iX3 hown hK hP x0 (at_2 (k_x0.n hZ.1)) rfl 2 (by decide) (hw (.fieldLink RX3 24 "MotionFloor$Ledger" "cells" "[I") (List.mem_of_getElem? (i := 1) rfl)) (fun _ h9 => h9) rfl dX3_makeRoom_9 ?_
    obtain ⟨hy1, hp⟩ := hp
    refine cTop (r := (grC S x0 2)) hy1.1 ?_
    refine va_alen (v := (Int32.ofNat (lnC S ((grC S x0 2).getD 0)))) hx hb hK hP ((grC S x0 2).getD 0) 0 (at_20 hy1.2) rfl rfl dX3_makeRoom_12 ?_
    refine lv_icmp_le (tgt := 50) hx hb dX3_makeRoom_13 (by decide) (fun c2 => ?_) (fun c2 => ?_)
    · rw [if_pos c2] at hE hp
      exact B_Y3_makeRoom_50 S ad x1 (x1 * (giC S x0 0)) _ _ _ hE hp hZ hP hD hS (lv_sub hl [1, 2, 0] rfl)
    · rw [if_neg c2] at hE hp
      refine lv_aload_n hx hb dX3_makeRoom_16 rfl (lv_at hl 1 rfl) ?_
      refine lv_aload_n hx hb dX3_makeRoom_17 rfl (lv_at hl 1 rfl) ?_
      refine va_get (D := G) (ci := 2) (v := va_re ad (grC S x0 2)) (C := RX3) (T := TX3) (N := 4) hx hb hts iX3 hown hK hP x0 (at_2 (k_x0.n hZ.1)) rfl 2 (by decide) (hw (.fieldLink RX3 24 "MotionFloor$Ledger" "cells" "[I") (List.mem_of_getElem? (i := 1) rfl)) (fun _ h9 => h9) rfl dX3_makeRoom_18 ?_
      refine lv_iload_n hx hb dX3_makeRoom_21 rfl (lv_at hl 0 rfl) ?_
      refine lv_iconst (v := 2) hx hb dX3_makeRoom_22 (by decide) ?_
      refine lv_aload_n hx hb dX3_makeRoom_23 rfl (lv_at hl 1 rfl) ?_
      refine va_get (D := G) (ci := 2) (v := va_re ad (grC S x0 2)) (C := RX3) (T := TX3) (N := 4) hx hb hts iX3 hown hK hP x0 (at_2 (k_x0.n hZ.1)) rfl 2 (by decide) (hw (.fieldLink RX3 24 "MotionFloor$Ledger" "cells" "[I") (List.mem_of_getElem? (i := 1) rfl)) (fun _ h9 => h9) rfl dX3_makeRoom_24 ?_
      obtain ⟨hy3, hp⟩ := hp
      refine cTop (r := (grC S x0 2)) hy3.1 ?_
      refine va_alen (v := (Int32.ofNat (lnC S ((grC S x0 2).getD 0)))) hx hb hK hP ((grC S x0 2).getD 0) 0 (at_20 hy3.2) rfl rfl dX3_makeRoom_27 ?_
      refine lv_imul hx hb dX3_makeRoom_28 ?_
      refine va_mmax hx hb (by rw [hml]; exact hl.1.symm) hown (hw (.methodLink RX3 9 Lib.Math.max.name) (List.mem_of_getElem? (i := 2) rfl)) (hw (.static Lib.Math.max.name) (List.mem_of_getElem? (i := 3) rfl)) (hw (.initialized "java/lang/Math") (List.mem_of_getElem? (i := 4) rfl)) (hw (.code Lib.Math.max.name Lib.Math.max.code 2 (some .int)) (List.mem_of_getElem? (i := 5) rfl)) (Nat.le_of_ble_eq_true rfl) (by simp only [List.map_cons, List.map_nil, List.sum_cons, List.sum_nil, re_cat]; exact Nat.le_of_ble_eq_true rfl) (show S.1 - S0.1 ≤ lc - S0.1 from Nat.sub_le_sub_right hZ.2.2.1 _) (show S.2.1 - S0.2.1 ≤ ls - S0.2.1 from Nat.sub_le_sub_right hZ.2.2.2 _) dX3_makeRoom_29 ?_
      refine lv_aload_n hx hb dX3_makeRoom_32 rfl (lv_at hl 1 rfl) ?_
      refine va_get (D := G) (ci := 2) (v := .int (giC S x0 1)) (C := RX3) (T := TX3) (N := 4) hx hb hts iX3 hown hK hP x0 (at_2 (k_x0.n hZ.1)) rfl 1 (by decide) (hw (.fieldLink RX3 21 "MotionFloor$Ledger" "most" "I") (List.mem_of_getElem? (i := 6) rfl)) (fun _ h9 => h9) rfl dX3_makeRoom_33 ?_
      refine lv_aload_n hx hb dX3_makeRoom_36 rfl (lv_at hl 1 rfl) ?_
      refine va_get (D := G) (ci := 2) (v := .int (giC S x0 0)) (C := RX3) (T := TX3) (N := 4) hx hb hts iX3 hown hK hP x0 (at_2 (k_x0.n hZ.1)) rfl 0 (by decide) (hw (.fieldLink RX3 15 "MotionFloor$Ledger" "columns" "I") (List.mem_of_getElem? (i := 0) rfl)) (fun _ h9 => h9) rfl dX3_makeRoom_37 ?_
      refine lv_imul hx hb dX3_makeRoom_40 ?_
      refine va_mmin hx hb (by rw [hml]; exact hl.1.symm) hown (hw (.methodLink RX3 39 Lib.Math.min.name) (List.mem_of_getElem? (i := 7) rfl)) (hw (.static Lib.Math.min.name) (List.mem_of_getElem? (i := 8) rfl)) (hw (.initialized "java/lang/Math") (List.mem_of_getElem? (i := 4) rfl)) (hw (.code Lib.Math.min.name Lib.Math.min.code 2 (some .int)) (List.mem_of_getElem? (i := 9) rfl)) (Nat.le_of_ble_eq_true rfl) (by simp only [List.map_cons, List.map_nil, List.sum_cons, List.sum_nil, re_cat]; exact Nat.le_of_ble_eq_true rfl) (show S.1 - S0.1 ≤ lc - S0.1 from Nat.sub_le_sub_right hZ.2.2.1 _) (show S.2.1 - S0.2.1 ≤ ls - S0.2.1 from Nat.sub_le_sub_right hZ.2.2.2 _) dX3_makeRoom_41 ?_
      obtain ⟨hy4, hp⟩ := hp
      refine cTop2 (r := (grC S x0 2)) hy4.1 ?_
      obtain ⟨hy5, hp⟩ := hp
      obtain ⟨hy6, hp⟩ := hp
      refine cNoq (va_runS (As := [.ref (ad ((grC S x0 2).getD 0)), .int (if ((giC S x0 1) * (giC S x0 0)) < (if (x1 * (giC S x0 0)) < (2 * (Int32.ofNat (lnC S ((grC S x0 2).getD 0)))) then (2 * (Int32.ofNat (lnC S ((grC S x0 2).getD 0)))) else (x1 * (giC S x0 0))) then ((giC S x0 1) * (giC S x0 0)) else (if (x1 * (giC S x0 0)) < (2 * (Int32.ofNat (lnC S ((grC S x0 2).getD 0)))) then (2 * (Int32.ofNat (lnC S ((grC S x0 2).getD 0)))) else (x1 * (giC S x0 0))))]) (rest := [.ref (ad x0)]) ⟨hx, hb, hml, hown, hts⟩ (c_K7_copyOf_59c91 l G K ad S ((grC S x0 2).getD 0) (f_K7_copyOf_59c91 S ((grC S x0 2).getD 0) (if ((giC S x0 1) * (giC S x0 0)) < (if (x1 * (giC S x0 0)) < (2 * (Int32.ofNat (lnC S ((grC S x0 2).getD 0)))) then (2 * (Int32.ofNat (lnC S ((grC S x0 2).getD 0)))) else (x1 * (giC S x0 0))) then ((giC S x0 1) * (giC S x0 0)) else (if (x1 * (giC S x0 0)) < (2 * (Int32.ofNat (lnC S ((grC S x0 2).getD 0)))) then (2 * (Int32.ofNat (lnC S ((grC S x0 2).getD 0)))) else (x1 * (giC S x0 0))))).2.1 (f_K7_copyOf_59c91 S ((grC S x0 2).getD 0) (if ((giC S x0 1) * (giC S x0 0)) < (if (x1 * (giC S x0 0)) < (2 * (Int32.ofNat (lnC S ((grC S x0 2).getD 0)))) then (2 * (Int32.ofNat (lnC S ((grC S x0 2).getD 0)))) else (x1 * (giC S x0 0))) then ((giC S x0 1) * (giC S x0 0)) else (if (x1 * (giC S x0 0)) < (2 * (Int32.ofNat (lnC S ((grC S x0 2).getD 0)))) then (2 * (Int32.ofNat (lnC S ((grC S x0 2).getD 0)))) else (x1 * (giC S x0 0))))).2.2.1 (if ((giC S x0 1) * (giC S x0 0)) < (if (x1 * (giC S x0 0)) < (2 * (Int32.ofNat (lnC S ((grC S x0 2).getD 0)))) then (2 * (Int32.ofNat (lnC S ((grC S x0 2).getD 0)))) else (x1 * (giC S x0 0))) then ((giC S x0 1) * (giC S x0 0)) else (if (x1 * (giC S x0 0)) < (2 * (Int32.ofNat (lnC S ((grC S x0 2).getD 0)))) then (2 * (Int32.ofNat (lnC S ((grC S x0 2).getD 0)))) else (x1 * (giC S x0 0)))) _) (va_cwS 2 hts (wGS t_ (mw (.methodLink RX3 48 yJ7_copyOf_59c91) (List.mem_of_getElem? (i := 10) rfl)) (mw (.static yJ7_copyOf_59c91) (List.mem_of_getElem? (i := 11) rfl)) (mw (.initialized RJ7) (List.mem_of_getElem? (i := 12) rfl)) j_K7_copyOf_59c91) rfl rfl rfl (by decide +kernel) ⟨Nat.le_of_ble_eq_true rfl, Nat.le_of_ble_eq_true rfl⟩) (cPS hK hTE hP hD ⟨⟨hy5.1.1, hy5.2.1⟩, hy4.2, hy6⟩) rfl rfl hl.1 rfl (lv_room (Nat.le_of_ble_eq_true rfl)) dX3_makeRoom_44 ⟨by show _ ≤ lc - S0.1; have := hZ.1.1.1; have := hy5.1; omega, by show _ ≤ ls - S0.2.1; have := hZ.1.1.2; have := hy5.2; omega⟩) hP hD hS hA (fun r8 u7 H locs hv hP hD hS => ?_)
      obtain ⟨hv, hz, ha⟩ := hv
      have e1 : (f_K7_copyOf_59c91 S ((grC S x0 2).getD 0) (if ((giC S x0 1) * (giC S x0 0)) < (if (x1 * (giC S x0 0)) < (2 * (Int32.ofNat (lnC S ((grC S x0 2).getD 0)))) then (2 * (Int32.ofNat (lnC S ((grC S x0 2).getD 0)))) else (x1 * (giC S x0 0))) then ((giC S x0 1) * (giC S x0 0)) else (if (x1 * (giC S x0 0)) < (2 * (Int32.ofNat (lnC S ((grC S x0 2).getD 0)))) then (2 * (Int32.ofNat (lnC S ((grC S x0 2).getD 0)))) else (x1 * (giC S x0 0))))).2.1 = u7.1.1 := by rw [← hv]
      have e2 : (f_K7_copyOf_59c91 S ((grC S x0 2).getD 0) (if ((giC S x0 1) * (giC S x0 0)) < (if (x1 * (giC S x0 0)) < (2 * (Int32.ofNat (lnC S ((grC S x0 2).getD 0)))) then (2 * (Int32.ofNat (lnC S ((grC S x0 2).getD 0)))) else (x1 * (giC S x0 0))) then ((giC S x0 1) * (giC S x0 0)) else (if (x1 * (giC S x0 0)) < (2 * (Int32.ofNat (lnC S ((grC S x0 2).getD 0)))) then (2 * (Int32.ofNat (lnC S ((grC S x0 2).getD 0)))) else (x1 * (giC S x0 0))))).2.2.1 = u7.1.2.1 := by rw [← hv]
      refine cCells (cells' := u7.1.1 - S0.1) (slots' := u7.1.2.1 - S0.2.1) (by have := hZ.1.1.1; have := hy5.1; omega) (by have := hZ.1.1.2; have := hy5.2; omega) ?_
      rw [← ha x0 (k_x0.n hZ.1).1] at hl
      rw [← ha x0 (k_x0.n hZ.1).1]
      have hZ := hZ.n hz ha (by rw [← e1]; exact hy5.1.2) (by rw [← e2]; exact hy5.2.2)
      rw [← hv] at hE hp
      dsimp only at hE hp
      exact B_Y3_makeRoom_47a u7.1 u7.2 x1 (x1 * (giC S x0 0)) r8 _ _ _ hE hp hZ hP hD hS (lv_sub hl [1, 2, 0] rfl)
  exact cCells (Nat.sub_self _).symm (Nat.sub_self _).symm (B_M S0 ad0 a1 _ _ _ hX hp (nH.rf S0 ad0 k_l) hP hD hS hl)
theorem gdX3_open_0 : ckS (List.drop 0 cX3_open.data.toList) 0 [(0, .aload_n 0, 1), (1, .invokevirtual 31, 3), (4, .ifCond .ne 21, 3), (7, .aload_n 0, 1), (8, .dup, 1), (9, .getfield 28, 3), (12, .iconst 1, 1), (13, .iadd, 1), (14, .putfield 28, 3), (17, .aload_n 0, 1), (18, .aload_n 0, 1), (19, .getfield 28, 3), (22, .invokevirtual 35, 3), (25, .return_, 1)] = true := by decide +kernel
theorem dX3_open_0 : decode cX3_open 0 = .ok (.aload_n 0, 1) := ckS_g gdX3_open_0 0 rfl
theorem dX3_open_1 : decode cX3_open 1 = .ok (.invokevirtual 31, 3) := ckS_g gdX3_open_0 1 rfl
theorem dX3_open_4 : decode cX3_open 4 = .ok (.ifCond .ne 21, 3) := ckS_g gdX3_open_0 2 rfl
theorem dX3_open_7 : decode cX3_open 7 = .ok (.aload_n 0, 1) := ckS_g gdX3_open_0 3 rfl
theorem dX3_open_8 : decode cX3_open 8 = .ok (.dup, 1) := ckS_g gdX3_open_0 4 rfl
theorem dX3_open_9 : decode cX3_open 9 = .ok (.getfield 28, 3) := ckS_g gdX3_open_0 5 rfl
theorem dX3_open_12 : decode cX3_open 12 = .ok (.iconst 1, 1) := ckS_g gdX3_open_0 6 rfl
theorem dX3_open_13 : decode cX3_open 13 = .ok (.iadd, 1) := ckS_g gdX3_open_0 7 rfl
theorem dX3_open_14 : decode cX3_open 14 = .ok (.putfield 28, 3) := ckS_g gdX3_open_0 8 rfl
theorem dX3_open_17 : decode cX3_open 17 = .ok (.aload_n 0, 1) := ckS_g gdX3_open_0 9 rfl
theorem dX3_open_18 : decode cX3_open 18 = .ok (.aload_n 0, 1) := ckS_g gdX3_open_0 10 rfl
theorem dX3_open_19 : decode cX3_open 19 = .ok (.getfield 28, 3) := ckS_g gdX3_open_0 11 rfl
theorem dX3_open_22 : decode cX3_open 22 = .ok (.invokevirtual 35, 3) := ckS_g gdX3_open_0 12 rfl
theorem dX3_open_25 : decode cX3_open 25 = .ok (.return_, 1) := ckS_g gdX3_open_0 13 rfl
set_option maxRecDepth 100000 in
theorem zc578 : wZ (.selects RX3 yX3_makeRoom yX3_makeRoom) := ⟨wT3 (List.mem_of_getElem? (i := 192) (by decide +kernel)), Or.inl rfl⟩
set_option maxRecDepth 100000 in
theorem zc579 : wZ (.instanceMethod yX3_makeRoom) := ⟨wT3 (List.mem_of_getElem? (i := 191) (by decide +kernel)), Or.inl rfl⟩
set_option maxRecDepth 100000 in
theorem zc580 : wZ (.methodLink RX3 35 yX3_makeRoom) := ⟨wT3 (List.mem_of_getElem? (i := 190) (by decide +kernel)), Or.inl rfl⟩
set_option maxRecDepth 100000 in
theorem zc581 : wZ (.methodLink RX3 31 yX3_isFull) := ⟨wT3 (List.mem_of_getElem? (i := 189) (by decide +kernel)), Or.inl rfl⟩
set_option maxRecDepth 100000 in
theorem zc582 : wZ (.code yX3_open cX3_open 1 none) := ⟨wT3 (List.mem_of_getElem? (i := 188) rfl), Or.inl rfl⟩
def b_Y3_open_25 (S : Cst) (x0 : Nat)  : Int32 × Cst := (0, S)
def q_Y3_open_25 (S : Cst) (x0 : Nat) (lc : Nat) (ls : Nat)  : Prop := True
def b_Y3_open_22a (S : Cst) (x0 : Nat) (y0 : Int32) : Int32 × Cst := (b_Y3_open_25 ((f_Y3_makeRoom S x0 y0).2) x0)
def q_Y3_open_22a (S : Cst) (x0 : Nat) (lc : Nat) (ls : Nat) (y0 : Int32) : Prop := ((S.1 ≤ (f_Y3_makeRoom S x0 y0).2.1 ∧ (f_Y3_makeRoom S x0 y0).2.1 ≤ lc) ∧ (S.2.1 ≤ (f_Y3_makeRoom S x0 y0).2.2.1 ∧ (f_Y3_makeRoom S x0 y0).2.2.1 ≤ ls)) ∧ (p_Y3_makeRoom S x0 (f_Y3_makeRoom S x0 y0).2.1 (f_Y3_makeRoom S x0 y0).2.2.1 y0) ∧ (q_Y3_open_25 ((f_Y3_makeRoom S x0 y0).2) x0 lc ls)
def f_Y3_open (S : Cst) (x0 : Nat) : Int32 × Cst := if (f_Y3_isFull S x0) = 0 then (b_Y3_open_22a (siC S x0 3 ((giC S x0 3) + 1)) x0 (giC (siC S x0 3 ((giC S x0 3) + 1)) x0 3)) else (b_Y3_open_25 S x0)
def p_Y3_open (S : Cst) (x0 : Nat) (lc : Nat) (ls : Nat) : Prop := (p_Y3_isFull S x0) ∧ (if (f_Y3_isFull S x0) = 0 then (q_Y3_open_22a (siC S x0 3 ((giC S x0 3) + 1)) x0 lc ls (giC (siC S x0 3 ((giC S x0 3) + 1)) x0 3)) else (q_Y3_open_25 S x0 lc ls))
def e_Y3_open : List Cond := [.methodLink RX3 31 yX3_isFull, .instanceMethod yX3_isFull, .selects RX3 yX3_isFull yX3_isFull, .initialized RX3, .fieldLink RX3 28 "MotionFloor$Ledger" "size" "I", .methodLink RX3 35 yX3_makeRoom, .instanceMethod yX3_makeRoom, .selects RX3 yX3_makeRoom yX3_makeRoom]
def v_Y3_open : List Cond := .code yX3_open cX3_open 1 none :: (e_Y3_open ++ (wsX30 ++ (v_Y3_isFull ++ (v_Y3_makeRoom ++ []))))
theorem te_Y3_open : GoodIn lw_tbl e_Y3_open := wGc zc581 (wGc zc482 (wGc zc481 (wGc zc480 (wGc zc239 (wGc zc580 (wGc zc579 (wGc zc578 (wG0))))))))
theorem t_Y3_open : GoodIn lw_tbl v_Y3_open := wGc zc582 (wGa te_Y3_open (wGa zcX3 (wGa t_Y3_isFull (wGa t_Y3_makeRoom (wG0)))))
set_option maxHeartbeats 4000000 in
set_option maxRecDepth 100000 in
theorem c_Y3_open (l : Launch) (G : va_G) (K : Nat → ClassId) (ad0 : Nat → Nat) (S0 : Cst) (x0 : Nat) (lc : Nat) (ls : Nat)  (sz : Nat) : Met l yX3_open v_Y3_open ({ frames := 3, cells := lc - S0.1, slots := ls - S0.2.1, locals := 104 }) (va_Pc [.ref (ad0 x0)] (cSt G K ad0 sz S0 ((S0.1 ≤ lc ∧ S0.2.1 ≤ ls) ∧ iK S0 x0 2 ∧ p_Y3_open S0 x0 lc ls))) (va_Qv (fun (u : Cst × (Nat → Nat)) => (0, u.1) = f_Y3_open S0 x0 ∧ eN S0 u.1 ∧ (∀ q, q < S0.1 → u.2 q = ad0 q)) (fun u t => cBt G K u.2 (va_A (wsC K ad0 S0) sz) u.1 t) (va_A (wsC K ad0 S0) sz)) (lc - S0.1) (ls - S0.2.1) (va_A (wsC K ad0 S0) sz) := by
  refine Met.ofW (cc := cX3_open) (maxL := 1) (ret := none) (by decide) rfl ?_
  intro p e s m args below meth c s₁ B hml hv
  obtain ⟨rfl, ⟨hsz, hP, hK, hD0, hTE⟩, hp⟩ := hv
  obtain ⟨k_l, hp⟩ := hp
  obtain ⟨k_x0, hp⟩ := hp
  have hx := B.exec
  have hb := B.bytes
  have hr := B.returns
  have hts := atoms_spec (ws := v_Y3_open) B.pre
  have t_ := t_Y3_open
  have mw : ∀ w ∈ e_Y3_open, w ∈ v_Y3_open := fun w h => List.mem_cons_of_mem _ (List.mem_append_left _ h)
  have hw := fun w (h : w ∈ e_Y3_open) => hts w (mw w h)
  have iX3 : ∀ w ∈ wsX30, w ∈ v_Y3_open := fun w h => List.mem_cons_of_mem _ (List.mem_append_right _ (List.mem_append_left _ h))
  have j_Y3_isFull : ∀ w ∈ v_Y3_isFull, w ∈ v_Y3_open := fun w h => List.mem_cons_of_mem _ (List.mem_append_right _ (List.mem_append_right _ (List.mem_append_left _ h)))
  have j_Y3_makeRoom : ∀ w ∈ v_Y3_makeRoom, w ∈ v_Y3_open := fun w h => List.mem_cons_of_mem _ (List.mem_append_right _ (List.mem_append_right _ (List.mem_append_right _ (List.mem_append_left _ h))))
  have hown : s.vm.findClass RX3 = some m.cls := findClass_of_methodNamed B.named
  have hlocks := B.notSynchronized
  subst hsz
  have hD := hD0.self (sz := s.heap.size)
  generalize hAe : va_A (wsC K ad0 S0) s.heap.size = A at hD ⊢
  have hA : ∀ q : Nat, s.heap.size ≤ q → A q := fun q h => by rw [← hAe]; exact Or.inr h
  have hS : va_S A s.heap s.heap [] := va_S.rf
  have hl : lv_has (lg_sl ([.ref (ad0 x0)]) ++ List.replicate (1 - (lg_sl ([.ref (ad0 x0)])).length) Slot.unset).toArray 1 [(0, .ref (ad0 x0))] := by
    exact lv_entry ([.ref (ad0 x0)]) (n := 1) (Nat.le_of_ble_eq_true rfl)
  rw [lg_entry_eq]
  generalize (lg_sl ([.ref (ad0 x0)]) ++ List.replicate (1 - (lg_sl ([.ref (ad0 x0)])).length) Slot.unset).toArray = ls_ at hl ⊢
  refine wGen (fun Q hQ => ?_)
  obtain ⟨X, hX⟩ : ∃ X, f_Y3_open S0 x0 = X := ⟨_, rfl⟩
  have B_Y3_open_25 : ∀ (S : Cst) (ad : Nat → Nat)  (H : Heap) (locs : List Loc) (ls_ : Array Slot), b_Y3_open_25 S x0 = X → q_Y3_open_25 S x0 lc ls → nH S0 ad0 lc ls S ad → va_P G vwCl (wsC K ad S) H → va_D A (wsC K ad S) → va_S A s.heap H locs → lv_has ls_ 1 [(0, .ref (ad x0))] → W p l e ({ frames := 3, cells := lc - S0.1, slots := ls - S0.2.1, locals := 104 } : Room) s m #[Value.ref (ad0 x0)] below meth c H locs (S.1 - S0.1) (S.2.1 - S0.2.1) Q (F0 m 25 ls_ []) := by
    intro S ad H locs ls_ hE hp hZ hP hD hS hl
    unfold b_Y3_open_25 at hE
    unfold q_Y3_open_25 at hp
    refine W.widen (k := lc - S0.1) (n := ls - S0.2.1) (show S.1 - S0.1 ≤ lc - S0.1 from Nat.sub_le_sub_right hZ.2.2.1 _) (show S.2.1 - S0.2.1 ≤ ls - S0.2.1 from Nat.sub_le_sub_right hZ.2.2.2 _) ?_
    subst hQ
    exact W.vret hx hb hr (fun t ht hW => ⟨⟨(S, ad), rfl, ⟨hE.trans hX.symm, hZ.1, hZ.2.1⟩, by rw [ht]; exact hP, hD⟩, hS.F ht⟩) hS.2.2 dX3_open_25
  have B_Y3_open_22a : ∀ (S : Cst) (ad : Nat → Nat) (y0 : Int32) (H : Heap) (locs : List Loc) (ls_ : Array Slot), b_Y3_open_22a S x0 y0 = X → q_Y3_open_22a S x0 lc ls y0 → nH S0 ad0 lc ls S ad → va_P G vwCl (wsC K ad S) H → va_D A (wsC K ad S) → va_S A s.heap H locs → lv_has ls_ 1 [(0, .ref (ad x0))] → W p l e ({ frames := 3, cells := lc - S0.1, slots := ls - S0.2.1, locals := 104 } : Room) s m #[Value.ref (ad0 x0)] below meth c H locs (S.1 - S0.1) (S.2.1 - S0.2.1) Q (F0 m 22 ls_ [.int y0, .ref (ad x0)]) := by
    intro S ad y0 H locs ls_ hE hp hZ hP hD hS hl
    unfold b_Y3_open_22a at hE
    unfold q_Y3_open_22a at hp
    obtain ⟨hy5, hp⟩ := hp
    obtain ⟨hy6, hp⟩ := hp
    refine cNov (va_runV (As := [.int y0]) (rest := []) ⟨hx, hb, hml, hown, hts⟩ (c_Y3_makeRoom l G K ad S x0 (f_Y3_makeRoom S x0 y0).2.1 (f_Y3_makeRoom S x0 y0).2.2.1 y0 _) (cwV 1 hts (wGV t_ (mw (.methodLink RX3 35 yX3_makeRoom) (List.mem_of_getElem? (i := 5) rfl)) (mw (.instanceMethod yX3_makeRoom) (List.mem_of_getElem? (i := 6) rfl)) (mw (.selects RX3 yX3_makeRoom yX3_makeRoom) (List.mem_of_getElem? (i := 7) rfl)) (mw (.initialized RX3) (List.mem_of_getElem? (i := 3) rfl)) j_Y3_makeRoom) rfl rfl rfl (by decide +kernel) ⟨Nat.le_of_ble_eq_true rfl, Nat.le_of_ble_eq_true rfl⟩) (cPV hK hTE hP hD 2 rfl (at_2 (k_x0.n hZ.1)) ⟨⟨hy5.1.1, hy5.2.1⟩, (k_x0.n hZ.1), hy6⟩) rfl rfl hl.1 rfl (lv_room (Nat.le_of_ble_eq_true rfl)) dX3_open_22 ⟨by show _ ≤ lc - S0.1; have := hZ.1.1.1; have := hy5.1; omega, by show _ ≤ ls - S0.2.1; have := hZ.1.1.2; have := hy5.2; omega⟩) hP hD hS hA (fun u7 H locs hv hP hD hS => ?_)
    obtain ⟨hv, hz, ha⟩ := hv
    have e1 : (f_Y3_makeRoom S x0 y0).2.1 = u7.1.1 := by rw [← hv]
    have e2 : (f_Y3_makeRoom S x0 y0).2.2.1 = u7.1.2.1 := by rw [← hv]
    refine cCells (cells' := u7.1.1 - S0.1) (slots' := u7.1.2.1 - S0.2.1) (by have := hZ.1.1.1; have := hy5.1; omega) (by have := hZ.1.1.2; have := hy5.2; omega) ?_
    rw [← ha x0 (k_x0.n hZ.1).1] at hl
    have hZ := hZ.n hz ha (by rw [← e1]; exact hy5.1.2) (by rw [← e2]; exact hy5.2.2)
    rw [← hv] at hE hp
    dsimp only at hE hp
    exact B_Y3_open_25 u7.1 u7.2 _ _ _ hE hp hZ hP hD hS (lv_sub hl [0] rfl)
  have B_M : ∀ (S : Cst) (ad : Nat → Nat) (H : Heap) (locs : List Loc) (ls_ : Array Slot), f_Y3_open S x0 = X → p_Y3_open S x0 lc ls → nH S0 ad0 lc ls S ad → va_P G vwCl (wsC K ad S) H → va_D A (wsC K ad S) → va_S A s.heap H locs → lv_has ls_ 1 [(0, .ref (ad x0))] → W p l e ({ frames := 3, cells := lc - S0.1, slots := ls - S0.2.1, locals := 104 } : Room) s m #[Value.ref (ad0 x0)] below meth c H locs (S.1 - S0.1) (S.2.1 - S0.2.1) Q (F0 m 0 ls_ []) := by
    intro S ad H locs ls_ hE hp hZ hP hD hS hl
    unfold f_Y3_open at hE
    unfold p_Y3_open at hp
    refine lv_aload_n hx hb dX3_open_0 rfl (lv_at hl 0 rfl) ?_
    obtain ⟨hy1, hp⟩ := hp
    refine cGoi (va_runV (As := []) (rest := []) ⟨hx, hb, hml, hown, hts⟩ (c_Y3_isFull l G K ad S x0 _) (cwV 0 hts (wGV t_ (mw (.methodLink RX3 31 yX3_isFull) (List.mem_of_getElem? (i := 0) rfl)) (mw (.instanceMethod yX3_isFull) (List.mem_of_getElem? (i := 1) rfl)) (mw (.selects RX3 yX3_isFull yX3_isFull) (List.mem_of_getElem? (i := 2) rfl)) (mw (.initialized RX3) (List.mem_of_getElem? (i := 3) rfl)) j_Y3_isFull) rfl rfl rfl (by decide +kernel) ⟨Nat.le_of_ble_eq_true rfl, Nat.le_of_ble_eq_true rfl⟩) (cPV hK hTE hP hD 2 rfl (at_2 (k_x0.n hZ.1)) ⟨(k_x0.n hZ.1), hy1⟩) rfl rfl hl.1 rfl (lv_room (Nat.le_of_ble_eq_true rfl)) dX3_open_1 ⟨(show S.1 - S0.1 ≤ lc - S0.1 from Nat.sub_le_sub_right hZ.2.2.1 _), (show S.2.1 - S0.2.1 ≤ ls - S0.2.1 from Nat.sub_le_sub_right hZ.2.2.2 _)⟩) hP hD hS hA (fun r3 u2 H locs hv hP hD hS => ?_)
    have h1 := congrArg Prod.fst hv
    have h2 := (congrArg Prod.snd hv).symm
    dsimp only at h1 h2
    subst h1
    subst h2
    refine lv_if_ne (tgt := 25) hx hb dX3_open_4 (by decide) (fun c4 => ?_) (fun c4 => ?_)
    · rw [if_neg c4] at hE hp
      exact B_Y3_open_25 S ad _ _ _ hE hp hZ hP hD hS (lv_sub hl [0] rfl)
    · rw [if_pos c4] at hE hp
      refine lv_aload_n hx hb dX3_open_7 rfl (lv_at hl 0 rfl) ?_
      refine lv_dup hx hb dX3_open_8 rfl ?_
      refine va_get (D := G) (ci := 2) (v := .int (giC S x0 3)) (C := RX3) (T := TX3) (N := 4) hx hb hts iX3 hown hK hP x0 (at_2 (k_x0.n hZ.1)) rfl 3 (by decide) (hw (.fieldLink RX3 28 "MotionFloor$Ledger" "size" "I") (List.mem_of_getElem? (i := 4) rfl)) (fun _ h9 => h9) rfl dX3_open_9 ?_
      refine lv_iconst (v := 1) hx hb dX3_open_12 (by decide) ?_
      refine lv_iadd hx hb dX3_open_13 ?_
      refine va_put (D := G) (ci := 2) (v := .int ((giC S x0 3) + 1)) (ty := .int) (C := RX3) (T := TX3) (N := 4) hx hb hts iX3 tyX3 tyX3_ok nmX3 hown hK hP hD hS x0 (at_2 (k_x0.n hZ.1)) rfl 3 (by decide) (hw (.fieldLink RX3 28 "MotionFloor$Ledger" "size" "I") (List.mem_of_getElem? (i := 4) rfl)) (fun _ h9 => h9) rfl (by decide +kernel) rfl rfl (Nat.le_of_ble_eq_true rfl) dX3_open_14 (fun H locs hP hD hS => ?_)
      rw [st_2_3 (k_x0.n hZ.1)] at hP hD
      have hZ := hZ.k (eK.si S x0 3 ((giC S x0 3) + 1))
      refine lv_aload_n hx hb dX3_open_17 rfl (lv_at hl 0 rfl) ?_
      refine lv_aload_n hx hb dX3_open_18 rfl (lv_at hl 0 rfl) ?_
      refine va_get (D := G) (ci := 2) (v := .int (giC (siC S x0 3 ((giC S x0 3) + 1)) x0 3)) (C := RX3) (T := TX3) (N := 4) hx hb hts iX3 hown hK hP x0 (at_2 (k_x0.n hZ.1)) rfl 3 (by decide) (hw (.fieldLink RX3 28 "MotionFloor$Ledger" "size" "I") (List.mem_of_getElem? (i := 4) rfl)) (fun _ h9 => h9) rfl dX3_open_19 ?_
      exact B_Y3_open_22a (siC S x0 3 ((giC S x0 3) + 1)) ad (giC (siC S x0 3 ((giC S x0 3) + 1)) x0 3) _ _ _ hE hp hZ hP hD hS (lv_sub hl [0] rfl)
  exact cCells (Nat.sub_self _).symm (Nat.sub_self _).symm (B_M S0 ad0 _ _ _ hX hp (nH.rf S0 ad0 k_l) hP hD hS hl)
theorem gdX7_keep_0 : ckS (List.drop 0 cX7_keep.data.toList) 0 [(0, .aload_n 0, 1), (1, .getfield 73, 3), (4, .invokevirtual 77, 3), (7, .aload_n 0, 1), (8, .getfield 73, 3), (11, .iconst 0, 1), (12, .aload_n 0, 1), (13, .getfield 82, 3), (16, .getfield 85, 3), (19, .invokevirtual 88, 3), (22, .aload_n 0, 1), (23, .getfield 73, 3), (26, .iconst 1, 1), (27, .iload_n 1, 1), (28, .invokevirtual 88, 3), (31, .aload_n 0, 1), (32, .getfield 73, 3), (35, .iconst 2, 1), (36, .iload_n 2, 1), (37, .invokevirtual 88, 3), (40, .aload_n 0, 1), (41, .getfield 73, 3), (44, .iconst 3, 1), (45, .iload_n 3, 1), (46, .invokevirtual 88, 3), (49, .aload_n 0, 1), (50, .getfield 73, 3), (53, .iconst 4, 1), (54, .iload 4, 2), (56, .invokevirtual 88, 3), (59, .return_, 1)] = true := by decide +kernel
theorem dX7_keep_0 : decode cX7_keep 0 = .ok (.aload_n 0, 1) := ckS_g gdX7_keep_0 0 rfl
theorem dX7_keep_1 : decode cX7_keep 1 = .ok (.getfield 73, 3) := ckS_g gdX7_keep_0 1 rfl
theorem dX7_keep_4 : decode cX7_keep 4 = .ok (.invokevirtual 77, 3) := ckS_g gdX7_keep_0 2 rfl
theorem dX7_keep_7 : decode cX7_keep 7 = .ok (.aload_n 0, 1) := ckS_g gdX7_keep_0 3 rfl
theorem dX7_keep_8 : decode cX7_keep 8 = .ok (.getfield 73, 3) := ckS_g gdX7_keep_0 4 rfl
theorem dX7_keep_11 : decode cX7_keep 11 = .ok (.iconst 0, 1) := ckS_g gdX7_keep_0 5 rfl
theorem dX7_keep_12 : decode cX7_keep 12 = .ok (.aload_n 0, 1) := ckS_g gdX7_keep_0 6 rfl
theorem dX7_keep_13 : decode cX7_keep 13 = .ok (.getfield 82, 3) := ckS_g gdX7_keep_0 7 rfl
theorem dX7_keep_16 : decode cX7_keep 16 = .ok (.getfield 85, 3) := ckS_g gdX7_keep_0 8 rfl
theorem dX7_keep_19 : decode cX7_keep 19 = .ok (.invokevirtual 88, 3) := ckS_g gdX7_keep_0 9 rfl
theorem dX7_keep_22 : decode cX7_keep 22 = .ok (.aload_n 0, 1) := ckS_g gdX7_keep_0 10 rfl
theorem dX7_keep_23 : decode cX7_keep 23 = .ok (.getfield 73, 3) := ckS_g gdX7_keep_0 11 rfl
theorem dX7_keep_26 : decode cX7_keep 26 = .ok (.iconst 1, 1) := ckS_g gdX7_keep_0 12 rfl
theorem dX7_keep_27 : decode cX7_keep 27 = .ok (.iload_n 1, 1) := ckS_g gdX7_keep_0 13 rfl
theorem dX7_keep_28 : decode cX7_keep 28 = .ok (.invokevirtual 88, 3) := ckS_g gdX7_keep_0 14 rfl
theorem dX7_keep_31 : decode cX7_keep 31 = .ok (.aload_n 0, 1) := ckS_g gdX7_keep_0 15 rfl
theorem dX7_keep_32 : decode cX7_keep 32 = .ok (.getfield 73, 3) := ckS_g gdX7_keep_0 16 rfl
theorem dX7_keep_35 : decode cX7_keep 35 = .ok (.iconst 2, 1) := ckS_g gdX7_keep_0 17 rfl
theorem dX7_keep_36 : decode cX7_keep 36 = .ok (.iload_n 2, 1) := ckS_g gdX7_keep_0 18 rfl
theorem dX7_keep_37 : decode cX7_keep 37 = .ok (.invokevirtual 88, 3) := ckS_g gdX7_keep_0 19 rfl
theorem dX7_keep_40 : decode cX7_keep 40 = .ok (.aload_n 0, 1) := ckS_g gdX7_keep_0 20 rfl
theorem dX7_keep_41 : decode cX7_keep 41 = .ok (.getfield 73, 3) := ckS_g gdX7_keep_0 21 rfl
theorem dX7_keep_44 : decode cX7_keep 44 = .ok (.iconst 3, 1) := ckS_g gdX7_keep_0 22 rfl
theorem dX7_keep_45 : decode cX7_keep 45 = .ok (.iload_n 3, 1) := ckS_g gdX7_keep_0 23 rfl
theorem dX7_keep_46 : decode cX7_keep 46 = .ok (.invokevirtual 88, 3) := ckS_g gdX7_keep_0 24 rfl
theorem dX7_keep_49 : decode cX7_keep 49 = .ok (.aload_n 0, 1) := ckS_g gdX7_keep_0 25 rfl
theorem dX7_keep_50 : decode cX7_keep 50 = .ok (.getfield 73, 3) := ckS_g gdX7_keep_0 26 rfl
theorem dX7_keep_53 : decode cX7_keep 53 = .ok (.iconst 4, 1) := ckS_g gdX7_keep_0 27 rfl
theorem dX7_keep_54 : decode cX7_keep 54 = .ok (.iload 4, 2) := ckS_g gdX7_keep_0 28 rfl
theorem dX7_keep_56 : decode cX7_keep 56 = .ok (.invokevirtual 88, 3) := ckS_g gdX7_keep_0 29 rfl
theorem dX7_keep_59 : decode cX7_keep 59 = .ok (.return_, 1) := ckS_g gdX7_keep_0 30 rfl
set_option maxRecDepth 100000 in
theorem zc583 : wZ (.selects RX3 yX3_write yX3_write) := ⟨wT3 (List.mem_of_getElem? (i := 213) (by decide +kernel)), Or.inl rfl⟩
set_option maxRecDepth 100000 in
theorem zc584 : wZ (.instanceMethod yX3_write) := ⟨wT3 (List.mem_of_getElem? (i := 212) (by decide +kernel)), Or.inl rfl⟩
set_option maxRecDepth 100000 in
theorem zc585 : wZ (.methodLink RX7 88 yX3_write) := ⟨wT3 (List.mem_of_getElem? (i := 211) (by decide +kernel)), Or.inl rfl⟩
set_option maxRecDepth 100000 in
theorem zc586 : wZ (.fieldLink RX7 85 "MotionFloor$Ledger" "size" "I") := ⟨wT1 (List.mem_of_getElem? (i := 135) (by decide +kernel)), Or.inl rfl⟩
set_option maxRecDepth 100000 in
theorem zc587 : wZ (.fieldLink RX7 82 "MotionFloor$Assembly" "minutes" "LMotionFloor$Ledger;") := ⟨wT1 (List.mem_of_getElem? (i := 196) (by decide +kernel)), Or.inl rfl⟩
set_option maxRecDepth 100000 in
theorem zc588 : wZ (.selects RX3 yX3_open yX3_open) := ⟨wT3 (List.mem_of_getElem? (i := 187) (by decide +kernel)), Or.inl rfl⟩
set_option maxRecDepth 100000 in
theorem zc589 : wZ (.instanceMethod yX3_open) := ⟨wT3 (List.mem_of_getElem? (i := 186) (by decide +kernel)), Or.inl rfl⟩
set_option maxRecDepth 100000 in
theorem zc590 : wZ (.methodLink RX7 77 yX3_open) := ⟨wT3 (List.mem_of_getElem? (i := 185) (by decide +kernel)), Or.inl rfl⟩
set_option maxRecDepth 100000 in
theorem zc591 : wZ (.fieldLink RX7 73 "MotionFloor$Assembly" "results" "LMotionFloor$Ledger;") := ⟨wT1 (List.mem_of_getElem? (i := 199) (by decide +kernel)), Or.inl rfl⟩
set_option maxRecDepth 100000 in
theorem zc592 : wZ (.code yX7_keep cX7_keep 5 none) := ⟨wT3 (List.mem_of_getElem? (i := 184) rfl), Or.inl rfl⟩
def b_Y7_keep_59a (S : Cst) (x0 : Nat) (x1 : Int32) (x2 : Int32) (x3 : Int32) (x4 : Int32) : Int32 × Cst := (0, S)
def q_Y7_keep_59a (S : Cst) (x0 : Nat) (lc : Nat) (ls : Nat) (x1 : Int32) (x2 : Int32) (x3 : Int32) (x4 : Int32) : Prop := True
def b_Y7_keep_49a (S : Cst) (x0 : Nat) (x1 : Int32) (x2 : Int32) (x3 : Int32) (x4 : Int32) : Int32 × Cst := (b_Y7_keep_59a ((f_Y3_write S ((grC S x0 5).getD 0) (4 : Int32) x4).2) x0 x1 x2 x3 x4)
def q_Y7_keep_49a (S : Cst) (x0 : Nat) (lc : Nat) (ls : Nat) (x1 : Int32) (x2 : Int32) (x3 : Int32) (x4 : Int32) : Prop := (iR S (grC S x0 5) 2) ∧ (p_Y3_write S ((grC S x0 5).getD 0) (4 : Int32) x4) ∧ (q_Y7_keep_59a ((f_Y3_write S ((grC S x0 5).getD 0) (4 : Int32) x4).2) x0 lc ls x1 x2 x3 x4)
def b_Y7_keep_40a (S : Cst) (x0 : Nat) (x1 : Int32) (x2 : Int32) (x3 : Int32) (x4 : Int32) : Int32 × Cst := (b_Y7_keep_49a ((f_Y3_write S ((grC S x0 5).getD 0) (3 : Int32) x3).2) x0 x1 x2 x3 x4)
def q_Y7_keep_40a (S : Cst) (x0 : Nat) (lc : Nat) (ls : Nat) (x1 : Int32) (x2 : Int32) (x3 : Int32) (x4 : Int32) : Prop := (iR S (grC S x0 5) 2) ∧ (p_Y3_write S ((grC S x0 5).getD 0) (3 : Int32) x3) ∧ (q_Y7_keep_49a ((f_Y3_write S ((grC S x0 5).getD 0) (3 : Int32) x3).2) x0 lc ls x1 x2 x3 x4)
def b_Y7_keep_31a (S : Cst) (x0 : Nat) (x1 : Int32) (x2 : Int32) (x3 : Int32) (x4 : Int32) : Int32 × Cst := (b_Y7_keep_40a ((f_Y3_write S ((grC S x0 5).getD 0) (2 : Int32) x2).2) x0 x1 x2 x3 x4)
def q_Y7_keep_31a (S : Cst) (x0 : Nat) (lc : Nat) (ls : Nat) (x1 : Int32) (x2 : Int32) (x3 : Int32) (x4 : Int32) : Prop := (iR S (grC S x0 5) 2) ∧ (p_Y3_write S ((grC S x0 5).getD 0) (2 : Int32) x2) ∧ (q_Y7_keep_40a ((f_Y3_write S ((grC S x0 5).getD 0) (2 : Int32) x2).2) x0 lc ls x1 x2 x3 x4)
def b_Y7_keep_22a (S : Cst) (x0 : Nat) (x1 : Int32) (x2 : Int32) (x3 : Int32) (x4 : Int32) : Int32 × Cst := (b_Y7_keep_31a ((f_Y3_write S ((grC S x0 5).getD 0) (1 : Int32) x1).2) x0 x1 x2 x3 x4)
def q_Y7_keep_22a (S : Cst) (x0 : Nat) (lc : Nat) (ls : Nat) (x1 : Int32) (x2 : Int32) (x3 : Int32) (x4 : Int32) : Prop := (iR S (grC S x0 5) 2) ∧ (p_Y3_write S ((grC S x0 5).getD 0) (1 : Int32) x1) ∧ (q_Y7_keep_31a ((f_Y3_write S ((grC S x0 5).getD 0) (1 : Int32) x1).2) x0 lc ls x1 x2 x3 x4)
def b_Y7_keep_7a (S : Cst) (x0 : Nat) (x1 : Int32) (x2 : Int32) (x3 : Int32) (x4 : Int32) : Int32 × Cst := (b_Y7_keep_22a ((f_Y3_write S ((grC S x0 5).getD 0) (0 : Int32) (giC S ((grC S x0 4).getD 0) 3)).2) x0 x1 x2 x3 x4)
def q_Y7_keep_7a (S : Cst) (x0 : Nat) (lc : Nat) (ls : Nat) (x1 : Int32) (x2 : Int32) (x3 : Int32) (x4 : Int32) : Prop := (iR S (grC S x0 4) 2) ∧ (iR S (grC S x0 5) 2) ∧ (p_Y3_write S ((grC S x0 5).getD 0) (0 : Int32) (giC S ((grC S x0 4).getD 0) 3)) ∧ (q_Y7_keep_22a ((f_Y3_write S ((grC S x0 5).getD 0) (0 : Int32) (giC S ((grC S x0 4).getD 0) 3)).2) x0 lc ls x1 x2 x3 x4)
def f_Y7_keep (S : Cst) (x0 : Nat) (x1 : Int32) (x2 : Int32) (x3 : Int32) (x4 : Int32) : Int32 × Cst := (b_Y7_keep_7a ((f_Y3_open S ((grC S x0 5).getD 0)).2) x0 x1 x2 x3 x4)
def p_Y7_keep (S : Cst) (x0 : Nat) (lc : Nat) (ls : Nat) (x1 : Int32) (x2 : Int32) (x3 : Int32) (x4 : Int32) : Prop := (iR S (grC S x0 5) 2) ∧ ((S.1 ≤ (f_Y3_open S ((grC S x0 5).getD 0)).2.1 ∧ (f_Y3_open S ((grC S x0 5).getD 0)).2.1 ≤ lc) ∧ (S.2.1 ≤ (f_Y3_open S ((grC S x0 5).getD 0)).2.2.1 ∧ (f_Y3_open S ((grC S x0 5).getD 0)).2.2.1 ≤ ls)) ∧ (p_Y3_open S ((grC S x0 5).getD 0) (f_Y3_open S ((grC S x0 5).getD 0)).2.1 (f_Y3_open S ((grC S x0 5).getD 0)).2.2.1) ∧ (q_Y7_keep_7a ((f_Y3_open S ((grC S x0 5).getD 0)).2) x0 lc ls x1 x2 x3 x4)
def e_Y7_keep : List Cond := [.fieldLink RX7 73 "MotionFloor$Assembly" "results" "LMotionFloor$Ledger;", .methodLink RX7 77 yX3_open, .instanceMethod yX3_open, .selects RX3 yX3_open yX3_open, .initialized RX3, .fieldLink RX7 82 "MotionFloor$Assembly" "minutes" "LMotionFloor$Ledger;", .fieldLink RX7 85 "MotionFloor$Ledger" "size" "I", .methodLink RX7 88 yX3_write, .instanceMethod yX3_write, .selects RX3 yX3_write yX3_write]
def v_Y7_keep : List Cond := .code yX7_keep cX7_keep 5 none :: (e_Y7_keep ++ (wsX00 ++ (wsX30 ++ (v_Y3_open ++ (v_Y3_write ++ [])))))
theorem te_Y7_keep : GoodIn lw_tbl e_Y7_keep := wGc zc591 (wGc zc590 (wGc zc589 (wGc zc588 (wGc zc480 (wGc zc587 (wGc zc586 (wGc zc585 (wGc zc584 (wGc zc583 (wG0))))))))))
theorem t_Y7_keep : GoodIn lw_tbl v_Y7_keep := wGc zc592 (wGa te_Y7_keep (wGa zcX0 (wGa zcX3 (wGa t_Y3_open (wGa t_Y3_write (wG0))))))
set_option maxHeartbeats 4000000 in
set_option maxRecDepth 100000 in
theorem c_Y7_keep (l : Launch) (G : va_G) (K : Nat → ClassId) (ad0 : Nat → Nat) (S0 : Cst) (x0 : Nat) (lc : Nat) (ls : Nat) (a1 : Int32) (a2 : Int32) (a3 : Int32) (a4 : Int32) (sz : Nat) : Met l yX7_keep v_Y7_keep ({ frames := 4, cells := lc - S0.1, slots := ls - S0.2.1, locals := 124 }) (va_Pc [.ref (ad0 x0), .int a1, .int a2, .int a3, .int a4] (cSt G K ad0 sz S0 ((S0.1 ≤ lc ∧ S0.2.1 ≤ ls) ∧ iK S0 x0 0 ∧ p_Y7_keep S0 x0 lc ls a1 a2 a3 a4))) (va_Qv (fun (u : Cst × (Nat → Nat)) => (0, u.1) = f_Y7_keep S0 x0 a1 a2 a3 a4 ∧ eN S0 u.1 ∧ (∀ q, q < S0.1 → u.2 q = ad0 q)) (fun u t => cBt G K u.2 (va_A (wsC K ad0 S0) sz) u.1 t) (va_A (wsC K ad0 S0) sz)) (lc - S0.1) (ls - S0.2.1) (va_A (wsC K ad0 S0) sz) := by
  refine Met.ofW (cc := cX7_keep) (maxL := 5) (ret := none) (by decide) rfl ?_
  intro p e s m args below meth c s₁ B hml hv
  obtain ⟨rfl, ⟨hsz, hP, hK, hD0, hTE⟩, hp⟩ := hv
  obtain ⟨k_l, hp⟩ := hp
  obtain ⟨k_x0, hp⟩ := hp
  have hx := B.exec
  have hb := B.bytes
  have hr := B.returns
  have hts := atoms_spec (ws := v_Y7_keep) B.pre
  have t_ := t_Y7_keep
  have mw : ∀ w ∈ e_Y7_keep, w ∈ v_Y7_keep := fun w h => List.mem_cons_of_mem _ (List.mem_append_left _ h)
  have hw := fun w (h : w ∈ e_Y7_keep) => hts w (mw w h)
  have iX0 : ∀ w ∈ wsX00, w ∈ v_Y7_keep := fun w h => List.mem_cons_of_mem _ (List.mem_append_right _ (List.mem_append_left _ h))
  have iX3 : ∀ w ∈ wsX30, w ∈ v_Y7_keep := fun w h => List.mem_cons_of_mem _ (List.mem_append_right _ (List.mem_append_right _ (List.mem_append_left _ h)))
  have j_Y3_open : ∀ w ∈ v_Y3_open, w ∈ v_Y7_keep := fun w h => List.mem_cons_of_mem _ (List.mem_append_right _ (List.mem_append_right _ (List.mem_append_right _ (List.mem_append_left _ h))))
  have j_Y3_write : ∀ w ∈ v_Y3_write, w ∈ v_Y7_keep := fun w h => List.mem_cons_of_mem _ (List.mem_append_right _ (List.mem_append_right _ (List.mem_append_right _ (List.mem_append_right _ (List.mem_append_left _ h)))))
  have hown : s.vm.findClass RX7 = some m.cls := findClass_of_methodNamed B.named
  have hlocks := B.notSynchronized
  subst hsz
  have hD := hD0.self (sz := s.heap.size)
  generalize hAe : va_A (wsC K ad0 S0) s.heap.size = A at hD ⊢
  have hA : ∀ q : Nat, s.heap.size ≤ q → A q := fun q h => by rw [← hAe]; exact Or.inr h
  have hS : va_S A s.heap s.heap [] := va_S.rf
  have hl : lv_has (lg_sl ([.ref (ad0 x0), .int a1, .int a2, .int a3, .int a4]) ++ List.replicate (5 - (lg_sl ([.ref (ad0 x0), .int a1, .int a2, .int a3, .int a4])).length) Slot.unset).toArray 5 [(0, .ref (ad0 x0)), (1, .int a1), (2, .int a2), (3, .int a3), (4, .int a4)] := by
    exact lv_entry ([.ref (ad0 x0), .int a1, .int a2, .int a3, .int a4]) (n := 5) (Nat.le_of_ble_eq_true rfl)
  rw [lg_entry_eq]
  generalize (lg_sl ([.ref (ad0 x0), .int a1, .int a2, .int a3, .int a4]) ++ List.replicate (5 - (lg_sl ([.ref (ad0 x0), .int a1, .int a2, .int a3, .int a4])).length) Slot.unset).toArray = ls_ at hl ⊢
  refine wGen (fun Q hQ => ?_)
  obtain ⟨X, hX⟩ : ∃ X, f_Y7_keep S0 x0 a1 a2 a3 a4 = X := ⟨_, rfl⟩
  have B_Y7_keep_59a : ∀ (S : Cst) (ad : Nat → Nat) (x1 : Int32) (x2 : Int32) (x3 : Int32) (x4 : Int32) (H : Heap) (locs : List Loc) (ls_ : Array Slot), b_Y7_keep_59a S x0 x1 x2 x3 x4 = X → q_Y7_keep_59a S x0 lc ls x1 x2 x3 x4 → nH S0 ad0 lc ls S ad → va_P G vwCl (wsC K ad S) H → va_D A (wsC K ad S) → va_S A s.heap H locs → lv_has ls_ 5 [(0, .ref (ad x0)), (1, .int x1), (2, .int x2), (3, .int x3), (4, .int x4)] → W p l e ({ frames := 4, cells := lc - S0.1, slots := ls - S0.2.1, locals := 124 } : Room) s m #[Value.ref (ad0 x0), Value.int a1, Value.int a2, Value.int a3, Value.int a4] below meth c H locs (S.1 - S0.1) (S.2.1 - S0.2.1) Q (F0 m 59 ls_ []) := by
    intro S ad x1 x2 x3 x4 H locs ls_ hE hp hZ hP hD hS hl
    unfold b_Y7_keep_59a at hE
    unfold q_Y7_keep_59a at hp
    refine W.widen (k := lc - S0.1) (n := ls - S0.2.1) (show S.1 - S0.1 ≤ lc - S0.1 from Nat.sub_le_sub_right hZ.2.2.1 _) (show S.2.1 - S0.2.1 ≤ ls - S0.2.1 from Nat.sub_le_sub_right hZ.2.2.2 _) ?_
    subst hQ
    exact W.vret hx hb hr (fun t ht hW => ⟨⟨(S, ad), rfl, ⟨hE.trans hX.symm, hZ.1, hZ.2.1⟩, by rw [ht]; exact hP, hD⟩, hS.F ht⟩) hS.2.2 dX7_keep_59
  have B_Y7_keep_49a : ∀ (S : Cst) (ad : Nat → Nat) (x1 : Int32) (x2 : Int32) (x3 : Int32) (x4 : Int32) (H : Heap) (locs : List Loc) (ls_ : Array Slot), b_Y7_keep_49a S x0 x1 x2 x3 x4 = X → q_Y7_keep_49a S x0 lc ls x1 x2 x3 x4 → nH S0 ad0 lc ls S ad → va_P G vwCl (wsC K ad S) H → va_D A (wsC K ad S) → va_S A s.heap H locs → lv_has ls_ 5 [(0, .ref (ad x0)), (1, .int x1), (2, .int x2), (3, .int x3), (4, .int x4)] → W p l e ({ frames := 4, cells := lc - S0.1, slots := ls - S0.2.1, locals := 124 } : Room) s m #[Value.ref (ad0 x0), Value.int a1, Value.int a2, Value.int a3, Value.int a4] below meth c H locs (S.1 - S0.1) (S.2.1 - S0.2.1) Q (F0 m 49 ls_ []) := by
    intro S ad x1 x2 x3 x4 H locs ls_ hE hp hZ hP hD hS hl
    unfold b_Y7_keep_49a at hE
    unfold q_Y7_keep_49a at hp
    refine lv_aload_n hx hb dX7_keep_49 rfl (lv_at hl 0 rfl) ?_
    refine va_get (D := G) (ci := 0) (v := va_re ad (grC S x0 5)) (C := RX0) (T := TX0) (N := 11) hx hb hts iX0 hown hK hP x0 (at_0 (k_x0.n hZ.1)) rfl 5 (by decide) (hw (.fieldLink RX7 73 "MotionFloor$Assembly" "results" "LMotionFloor$Ledger;") (List.mem_of_getElem? (i := 0) rfl)) (fun _ h9 => h9) rfl dX7_keep_50 ?_
    refine lv_iconst (v := 4) hx hb dX7_keep_53 (by decide) ?_
    refine lv_iload hx hb dX7_keep_54 (lv_at hl 4 rfl) ?_
    obtain ⟨hy23, hp⟩ := hp
    refine cTop3 (r := (grC S x0 5)) hy23.1 ?_
    obtain ⟨hy24, hp⟩ := hp
    refine cGov (va_runV (As := [.int 4, .int x4]) (rest := []) ⟨hx, hb, hml, hown, hts⟩ (c_Y3_write l G K ad S ((grC S x0 5).getD 0) (4 : Int32) x4 _) (cwV 2 hts (wGV t_ (mw (.methodLink RX7 88 yX3_write) (List.mem_of_getElem? (i := 7) rfl)) (mw (.instanceMethod yX3_write) (List.mem_of_getElem? (i := 8) rfl)) (mw (.selects RX3 yX3_write yX3_write) (List.mem_of_getElem? (i := 9) rfl)) (mw (.initialized RX3) (List.mem_of_getElem? (i := 4) rfl)) j_Y3_write) rfl rfl rfl (by decide +kernel) ⟨Nat.le_of_ble_eq_true rfl, Nat.le_of_ble_eq_true rfl⟩) (cPV hK hTE hP hD 2 rfl (at_2 hy23.2) ⟨hy23.2, hy24⟩) rfl rfl hl.1 rfl (lv_room (Nat.le_of_ble_eq_true rfl)) dX7_keep_56 ⟨(show S.1 - S0.1 ≤ lc - S0.1 from Nat.sub_le_sub_right hZ.2.2.1 _), (show S.2.1 - S0.2.1 ≤ ls - S0.2.1 from Nat.sub_le_sub_right hZ.2.2.2 _)⟩) hP hD hS hA (fun u25 H locs hv hP hD hS => ?_)
    obtain ⟨hv, hz⟩ := hv
    have hZ := hZ.k hz
    refine cCells (cells' := u25.1 - S0.1) (slots' := u25.2.1 - S0.2.1) (by have e : S.1 = u25.1 := hz.1.1; show S.1 - S0.1 + 0 = _; omega) (by have e : S.2.1 = u25.2.1 := hz.1.2; show S.2.1 - S0.2.1 + 0 = _; omega) ?_
    rw [← hv] at hE hp
    dsimp only at hE hp
    exact B_Y7_keep_59a u25 ad x1 x2 x3 x4 _ _ _ hE hp hZ hP hD hS (lv_sub hl [0, 1, 2, 3, 4] rfl)
  have B_Y7_keep_40a : ∀ (S : Cst) (ad : Nat → Nat) (x1 : Int32) (x2 : Int32) (x3 : Int32) (x4 : Int32) (H : Heap) (locs : List Loc) (ls_ : Array Slot), b_Y7_keep_40a S x0 x1 x2 x3 x4 = X → q_Y7_keep_40a S x0 lc ls x1 x2 x3 x4 → nH S0 ad0 lc ls S ad → va_P G vwCl (wsC K ad S) H → va_D A (wsC K ad S) → va_S A s.heap H locs → lv_has ls_ 5 [(0, .ref (ad x0)), (1, .int x1), (2, .int x2), (3, .int x3), (4, .int x4)] → W p l e ({ frames := 4, cells := lc - S0.1, slots := ls - S0.2.1, locals := 124 } : Room) s m #[Value.ref (ad0 x0), Value.int a1, Value.int a2, Value.int a3, Value.int a4] below meth c H locs (S.1 - S0.1) (S.2.1 - S0.2.1) Q (F0 m 40 ls_ []) := by
    intro S ad x1 x2 x3 x4 H locs ls_ hE hp hZ hP hD hS hl
    unfold b_Y7_keep_40a at hE
    unfold q_Y7_keep_40a at hp
    refine lv_aload_n hx hb dX7_keep_40 rfl (lv_at hl 0 rfl) ?_
    refine va_get (D := G) (ci := 0) (v := va_re ad (grC S x0 5)) (C := RX0) (T := TX0) (N := 11) hx hb hts iX0 hown hK hP x0 (at_0 (k_x0.n hZ.1)) rfl 5 (by decide) (hw (.fieldLink RX7 73 "MotionFloor$Assembly" "results" "LMotionFloor$Ledger;") (List.mem_of_getElem? (i := 0) rfl)) (fun _ h9 => h9) rfl dX7_keep_41 ?_
    refine lv_iconst (v := 3) hx hb dX7_keep_44 (by decide) ?_
    refine lv_iload_n hx hb dX7_keep_45 rfl (lv_at hl 3 rfl) ?_
    obtain ⟨hy19, hp⟩ := hp
    refine cTop3 (r := (grC S x0 5)) hy19.1 ?_
    obtain ⟨hy20, hp⟩ := hp
    refine cGov (va_runV (As := [.int 3, .int x3]) (rest := []) ⟨hx, hb, hml, hown, hts⟩ (c_Y3_write l G K ad S ((grC S x0 5).getD 0) (3 : Int32) x3 _) (cwV 2 hts (wGV t_ (mw (.methodLink RX7 88 yX3_write) (List.mem_of_getElem? (i := 7) rfl)) (mw (.instanceMethod yX3_write) (List.mem_of_getElem? (i := 8) rfl)) (mw (.selects RX3 yX3_write yX3_write) (List.mem_of_getElem? (i := 9) rfl)) (mw (.initialized RX3) (List.mem_of_getElem? (i := 4) rfl)) j_Y3_write) rfl rfl rfl (by decide +kernel) ⟨Nat.le_of_ble_eq_true rfl, Nat.le_of_ble_eq_true rfl⟩) (cPV hK hTE hP hD 2 rfl (at_2 hy19.2) ⟨hy19.2, hy20⟩) rfl rfl hl.1 rfl (lv_room (Nat.le_of_ble_eq_true rfl)) dX7_keep_46 ⟨(show S.1 - S0.1 ≤ lc - S0.1 from Nat.sub_le_sub_right hZ.2.2.1 _), (show S.2.1 - S0.2.1 ≤ ls - S0.2.1 from Nat.sub_le_sub_right hZ.2.2.2 _)⟩) hP hD hS hA (fun u21 H locs hv hP hD hS => ?_)
    obtain ⟨hv, hz⟩ := hv
    have hZ := hZ.k hz
    refine cCells (cells' := u21.1 - S0.1) (slots' := u21.2.1 - S0.2.1) (by have e : S.1 = u21.1 := hz.1.1; show S.1 - S0.1 + 0 = _; omega) (by have e : S.2.1 = u21.2.1 := hz.1.2; show S.2.1 - S0.2.1 + 0 = _; omega) ?_
    rw [← hv] at hE hp
    dsimp only at hE hp
    exact B_Y7_keep_49a u21 ad x1 x2 x3 x4 _ _ _ hE hp hZ hP hD hS (lv_sub hl [0, 1, 2, 3, 4] rfl)
  have B_Y7_keep_31a : ∀ (S : Cst) (ad : Nat → Nat) (x1 : Int32) (x2 : Int32) (x3 : Int32) (x4 : Int32) (H : Heap) (locs : List Loc) (ls_ : Array Slot), b_Y7_keep_31a S x0 x1 x2 x3 x4 = X → q_Y7_keep_31a S x0 lc ls x1 x2 x3 x4 → nH S0 ad0 lc ls S ad → va_P G vwCl (wsC K ad S) H → va_D A (wsC K ad S) → va_S A s.heap H locs → lv_has ls_ 5 [(0, .ref (ad x0)), (1, .int x1), (2, .int x2), (3, .int x3), (4, .int x4)] → W p l e ({ frames := 4, cells := lc - S0.1, slots := ls - S0.2.1, locals := 124 } : Room) s m #[Value.ref (ad0 x0), Value.int a1, Value.int a2, Value.int a3, Value.int a4] below meth c H locs (S.1 - S0.1) (S.2.1 - S0.2.1) Q (F0 m 31 ls_ []) := by
    intro S ad x1 x2 x3 x4 H locs ls_ hE hp hZ hP hD hS hl
    unfold b_Y7_keep_31a at hE
    unfold q_Y7_keep_31a at hp
    refine lv_aload_n hx hb dX7_keep_31 rfl (lv_at hl 0 rfl) ?_
    refine va_get (D := G) (ci := 0) (v := va_re ad (grC S x0 5)) (C := RX0) (T := TX0) (N := 11) hx hb hts iX0 hown hK hP x0 (at_0 (k_x0.n hZ.1)) rfl 5 (by decide) (hw (.fieldLink RX7 73 "MotionFloor$Assembly" "results" "LMotionFloor$Ledger;") (List.mem_of_getElem? (i := 0) rfl)) (fun _ h9 => h9) rfl dX7_keep_32 ?_
    refine lv_iconst (v := 2) hx hb dX7_keep_35 (by decide) ?_
    refine lv_iload_n hx hb dX7_keep_36 rfl (lv_at hl 2 rfl) ?_
    obtain ⟨hy15, hp⟩ := hp
    refine cTop3 (r := (grC S x0 5)) hy15.1 ?_
    obtain ⟨hy16, hp⟩ := hp
    refine cGov (va_runV (As := [.int 2, .int x2]) (rest := []) ⟨hx, hb, hml, hown, hts⟩ (c_Y3_write l G K ad S ((grC S x0 5).getD 0) (2 : Int32) x2 _) (cwV 2 hts (wGV t_ (mw (.methodLink RX7 88 yX3_write) (List.mem_of_getElem? (i := 7) rfl)) (mw (.instanceMethod yX3_write) (List.mem_of_getElem? (i := 8) rfl)) (mw (.selects RX3 yX3_write yX3_write) (List.mem_of_getElem? (i := 9) rfl)) (mw (.initialized RX3) (List.mem_of_getElem? (i := 4) rfl)) j_Y3_write) rfl rfl rfl (by decide +kernel) ⟨Nat.le_of_ble_eq_true rfl, Nat.le_of_ble_eq_true rfl⟩) (cPV hK hTE hP hD 2 rfl (at_2 hy15.2) ⟨hy15.2, hy16⟩) rfl rfl hl.1 rfl (lv_room (Nat.le_of_ble_eq_true rfl)) dX7_keep_37 ⟨(show S.1 - S0.1 ≤ lc - S0.1 from Nat.sub_le_sub_right hZ.2.2.1 _), (show S.2.1 - S0.2.1 ≤ ls - S0.2.1 from Nat.sub_le_sub_right hZ.2.2.2 _)⟩) hP hD hS hA (fun u17 H locs hv hP hD hS => ?_)
    obtain ⟨hv, hz⟩ := hv
    have hZ := hZ.k hz
    refine cCells (cells' := u17.1 - S0.1) (slots' := u17.2.1 - S0.2.1) (by have e : S.1 = u17.1 := hz.1.1; show S.1 - S0.1 + 0 = _; omega) (by have e : S.2.1 = u17.2.1 := hz.1.2; show S.2.1 - S0.2.1 + 0 = _; omega) ?_
    rw [← hv] at hE hp
    dsimp only at hE hp
    exact B_Y7_keep_40a u17 ad x1 x2 x3 x4 _ _ _ hE hp hZ hP hD hS (lv_sub hl [0, 1, 2, 3, 4] rfl)
  have B_Y7_keep_22a : ∀ (S : Cst) (ad : Nat → Nat) (x1 : Int32) (x2 : Int32) (x3 : Int32) (x4 : Int32) (H : Heap) (locs : List Loc) (ls_ : Array Slot), b_Y7_keep_22a S x0 x1 x2 x3 x4 = X → q_Y7_keep_22a S x0 lc ls x1 x2 x3 x4 → nH S0 ad0 lc ls S ad → va_P G vwCl (wsC K ad S) H → va_D A (wsC K ad S) → va_S A s.heap H locs → lv_has ls_ 5 [(0, .ref (ad x0)), (1, .int x1), (2, .int x2), (3, .int x3), (4, .int x4)] → W p l e ({ frames := 4, cells := lc - S0.1, slots := ls - S0.2.1, locals := 124 } : Room) s m #[Value.ref (ad0 x0), Value.int a1, Value.int a2, Value.int a3, Value.int a4] below meth c H locs (S.1 - S0.1) (S.2.1 - S0.2.1) Q (F0 m 22 ls_ []) := by
    intro S ad x1 x2 x3 x4 H locs ls_ hE hp hZ hP hD hS hl
    unfold b_Y7_keep_22a at hE
    unfold q_Y7_keep_22a at hp
    refine lv_aload_n hx hb dX7_keep_22 rfl (lv_at hl 0 rfl) ?_
    refine va_get (D := G) (ci := 0) (v := va_re ad (grC S x0 5)) (C := RX0) (T := TX0) (N := 11) hx hb hts iX0 hown hK hP x0 (at_0 (k_x0.n hZ.1)) rfl 5 (by decide) (hw (.fieldLink RX7 73 "MotionFloor$Assembly" "results" "LMotionFloor$Ledger;") (List.mem_of_getElem? (i := 0) rfl)) (fun _ h9 => h9) rfl dX7_keep_23 ?_
    refine lv_iconst (v := 1) hx hb dX7_keep_26 (by decide) ?_
    refine lv_iload_n hx hb dX7_keep_27 rfl (lv_at hl 1 rfl) ?_
    obtain ⟨hy11, hp⟩ := hp
    refine cTop3 (r := (grC S x0 5)) hy11.1 ?_
    obtain ⟨hy12, hp⟩ := hp
    refine cGov (va_runV (As := [.int 1, .int x1]) (rest := []) ⟨hx, hb, hml, hown, hts⟩ (c_Y3_write l G K ad S ((grC S x0 5).getD 0) (1 : Int32) x1 _) (cwV 2 hts (wGV t_ (mw (.methodLink RX7 88 yX3_write) (List.mem_of_getElem? (i := 7) rfl)) (mw (.instanceMethod yX3_write) (List.mem_of_getElem? (i := 8) rfl)) (mw (.selects RX3 yX3_write yX3_write) (List.mem_of_getElem? (i := 9) rfl)) (mw (.initialized RX3) (List.mem_of_getElem? (i := 4) rfl)) j_Y3_write) rfl rfl rfl (by decide +kernel) ⟨Nat.le_of_ble_eq_true rfl, Nat.le_of_ble_eq_true rfl⟩) (cPV hK hTE hP hD 2 rfl (at_2 hy11.2) ⟨hy11.2, hy12⟩) rfl rfl hl.1 rfl (lv_room (Nat.le_of_ble_eq_true rfl)) dX7_keep_28 ⟨(show S.1 - S0.1 ≤ lc - S0.1 from Nat.sub_le_sub_right hZ.2.2.1 _), (show S.2.1 - S0.2.1 ≤ ls - S0.2.1 from Nat.sub_le_sub_right hZ.2.2.2 _)⟩) hP hD hS hA (fun u13 H locs hv hP hD hS => ?_)
    obtain ⟨hv, hz⟩ := hv
    have hZ := hZ.k hz
    refine cCells (cells' := u13.1 - S0.1) (slots' := u13.2.1 - S0.2.1) (by have e : S.1 = u13.1 := hz.1.1; show S.1 - S0.1 + 0 = _; omega) (by have e : S.2.1 = u13.2.1 := hz.1.2; show S.2.1 - S0.2.1 + 0 = _; omega) ?_
    rw [← hv] at hE hp
    dsimp only at hE hp
    exact B_Y7_keep_31a u13 ad x1 x2 x3 x4 _ _ _ hE hp hZ hP hD hS (lv_sub hl [0, 1, 2, 3, 4] rfl)
  have B_Y7_keep_7a : ∀ (S : Cst) (ad : Nat → Nat) (x1 : Int32) (x2 : Int32) (x3 : Int32) (x4 : Int32) (H : Heap) (locs : List Loc) (ls_ : Array Slot), b_Y7_keep_7a S x0 x1 x2 x3 x4 = X → q_Y7_keep_7a S x0 lc ls x1 x2 x3 x4 → nH S0 ad0 lc ls S ad → va_P G vwCl (wsC K ad S) H → va_D A (wsC K ad S) → va_S A s.heap H locs → lv_has ls_ 5 [(0, .ref (ad x0)), (1, .int x1), (2, .int x2), (3, .int x3), (4, .int x4)] → W p l e ({ frames := 4, cells := lc - S0.1, slots := ls - S0.2.1, locals := 124 } : Room) s m #[Value.ref (ad0 x0), Value.int a1, Value.int a2, Value.int a3, Value.int a4] below meth c H locs (S.1 - S0.1) (S.2.1 - S0.2.1) Q (F0 m 7 ls_ []) := by
    intro S ad x1 x2 x3 x4 H locs ls_ hE hp hZ hP hD hS hl
    unfold b_Y7_keep_7a at hE
    unfold q_Y7_keep_7a at hp
    refine lv_aload_n hx hb dX7_keep_7 rfl (lv_at hl 0 rfl) ?_
    refine va_get (D := G) (ci := 0) (v := va_re ad (grC S x0 5)) (C := RX0) (T := TX0) (N := 11) hx hb hts iX0 hown hK hP x0 (at_0 (k_x0.n hZ.1)) rfl 5 (by decide) (hw (.fieldLink RX7 73 "MotionFloor$Assembly" "results" "LMotionFloor$Ledger;") (List.mem_of_getElem? (i := 0) rfl)) (fun _ h9 => h9) rfl dX7_keep_8 ?_
    refine lv_iconst (v := 0) hx hb dX7_keep_11 (by decide) ?_
    refine lv_aload_n hx hb dX7_keep_12 rfl (lv_at hl 0 rfl) ?_
    refine va_get (D := G) (ci := 0) (v := va_re ad (grC S x0 4)) (C := RX0) (T := TX0) (N := 11) hx hb hts iX0 hown hK hP x0 (at_0 (k_x0.n hZ.1)) rfl 4 (by decide) (hw (.fieldLink RX7 82 "MotionFloor$Assembly" "minutes" "LMotionFloor$Ledger;") (List.mem_of_getElem? (i := 5) rfl)) (fun _ h9 => h9) rfl dX7_keep_13 ?_
    obtain ⟨hy6, hp⟩ := hp
    refine cTop (r := (grC S x0 4)) hy6.1 ?_
    refine va_get (D := G) (ci := 2) (v := .int (giC S ((grC S x0 4).getD 0) 3)) (C := RX3) (T := TX3) (N := 4) hx hb hts iX3 hown hK hP ((grC S x0 4).getD 0) (at_2 hy6.2) rfl 3 (by decide) (hw (.fieldLink RX7 85 "MotionFloor$Ledger" "size" "I") (List.mem_of_getElem? (i := 6) rfl)) (fun _ h9 => h9) rfl dX7_keep_16 ?_
    obtain ⟨hy7, hp⟩ := hp
    refine cTop3 (r := (grC S x0 5)) hy7.1 ?_
    obtain ⟨hy8, hp⟩ := hp
    refine cGov (va_runV (As := [.int 0, .int (giC S ((grC S x0 4).getD 0) 3)]) (rest := []) ⟨hx, hb, hml, hown, hts⟩ (c_Y3_write l G K ad S ((grC S x0 5).getD 0) (0 : Int32) (giC S ((grC S x0 4).getD 0) 3) _) (cwV 2 hts (wGV t_ (mw (.methodLink RX7 88 yX3_write) (List.mem_of_getElem? (i := 7) rfl)) (mw (.instanceMethod yX3_write) (List.mem_of_getElem? (i := 8) rfl)) (mw (.selects RX3 yX3_write yX3_write) (List.mem_of_getElem? (i := 9) rfl)) (mw (.initialized RX3) (List.mem_of_getElem? (i := 4) rfl)) j_Y3_write) rfl rfl rfl (by decide +kernel) ⟨Nat.le_of_ble_eq_true rfl, Nat.le_of_ble_eq_true rfl⟩) (cPV hK hTE hP hD 2 rfl (at_2 hy7.2) ⟨hy7.2, hy8⟩) rfl rfl hl.1 rfl (lv_room (Nat.le_of_ble_eq_true rfl)) dX7_keep_19 ⟨(show S.1 - S0.1 ≤ lc - S0.1 from Nat.sub_le_sub_right hZ.2.2.1 _), (show S.2.1 - S0.2.1 ≤ ls - S0.2.1 from Nat.sub_le_sub_right hZ.2.2.2 _)⟩) hP hD hS hA (fun u9 H locs hv hP hD hS => ?_)
    obtain ⟨hv, hz⟩ := hv
    have hZ := hZ.k hz
    refine cCells (cells' := u9.1 - S0.1) (slots' := u9.2.1 - S0.2.1) (by have e : S.1 = u9.1 := hz.1.1; show S.1 - S0.1 + 0 = _; omega) (by have e : S.2.1 = u9.2.1 := hz.1.2; show S.2.1 - S0.2.1 + 0 = _; omega) ?_
    rw [← hv] at hE hp
    dsimp only at hE hp
    exact B_Y7_keep_22a u9 ad x1 x2 x3 x4 _ _ _ hE hp hZ hP hD hS (lv_sub hl [0, 1, 2, 3, 4] rfl)
  have B_M : ∀ (S : Cst) (ad : Nat → Nat) (x1 : Int32) (x2 : Int32) (x3 : Int32) (x4 : Int32) (H : Heap) (locs : List Loc) (ls_ : Array Slot), f_Y7_keep S x0 x1 x2 x3 x4 = X → p_Y7_keep S x0 lc ls x1 x2 x3 x4 → nH S0 ad0 lc ls S ad → va_P G vwCl (wsC K ad S) H → va_D A (wsC K ad S) → va_S A s.heap H locs → lv_has ls_ 5 [(0, .ref (ad x0)), (1, .int x1), (2, .int x2), (3, .int x3), (4, .int x4)] → W p l e ({ frames := 4, cells := lc - S0.1, slots := ls - S0.2.1, locals := 124 } : Room) s m #[Value.ref (ad0 x0), Value.int a1, Value.int a2, Value.int a3, Value.int a4] below meth c H locs (S.1 - S0.1) (S.2.1 - S0.2.1) Q (F0 m 0 ls_ []) := by
    intro S ad x1 x2 x3 x4 H locs ls_ hE hp hZ hP hD hS hl
    unfold f_Y7_keep at hE
    unfold p_Y7_keep at hp
    refine lv_aload_n hx hb dX7_keep_0 rfl (lv_at hl 0 rfl) ?_
    refine va_get (D := G) (ci := 0) (v := va_re ad (grC S x0 5)) (C := RX0) (T := TX0) (N := 11) hx hb hts iX0 hown hK hP x0 (at_0 (k_x0.n hZ.1)) rfl 5 (by decide) (hw (.fieldLink RX7 73 "MotionFloor$Assembly" "results" "LMotionFloor$Ledger;") (List.mem_of_getElem? (i := 0) rfl)) (fun _ h9 => h9) rfl dX7_keep_1 ?_
    obtain ⟨hy1, hp⟩ := hp
    refine cTop (r := (grC S x0 5)) hy1.1 ?_
    obtain ⟨hy2, hp⟩ := hp
    obtain ⟨hy3, hp⟩ := hp
    refine cNov (va_runV (As := []) (rest := []) ⟨hx, hb, hml, hown, hts⟩ (c_Y3_open l G K ad S ((grC S x0 5).getD 0) (f_Y3_open S ((grC S x0 5).getD 0)).2.1 (f_Y3_open S ((grC S x0 5).getD 0)).2.2.1 _) (cwV 0 hts (wGV t_ (mw (.methodLink RX7 77 yX3_open) (List.mem_of_getElem? (i := 1) rfl)) (mw (.instanceMethod yX3_open) (List.mem_of_getElem? (i := 2) rfl)) (mw (.selects RX3 yX3_open yX3_open) (List.mem_of_getElem? (i := 3) rfl)) (mw (.initialized RX3) (List.mem_of_getElem? (i := 4) rfl)) j_Y3_open) rfl rfl rfl (by decide +kernel) ⟨Nat.le_of_ble_eq_true rfl, Nat.le_of_ble_eq_true rfl⟩) (cPV hK hTE hP hD 2 rfl (at_2 hy1.2) ⟨⟨hy2.1.1, hy2.2.1⟩, hy1.2, hy3⟩) rfl rfl hl.1 rfl (lv_room (Nat.le_of_ble_eq_true rfl)) dX7_keep_4 ⟨by show _ ≤ lc - S0.1; have := hZ.1.1.1; have := hy2.1; omega, by show _ ≤ ls - S0.2.1; have := hZ.1.1.2; have := hy2.2; omega⟩) hP hD hS hA (fun u4 H locs hv hP hD hS => ?_)
    obtain ⟨hv, hz, ha⟩ := hv
    have e1 : (f_Y3_open S ((grC S x0 5).getD 0)).2.1 = u4.1.1 := by rw [← hv]
    have e2 : (f_Y3_open S ((grC S x0 5).getD 0)).2.2.1 = u4.1.2.1 := by rw [← hv]
    refine cCells (cells' := u4.1.1 - S0.1) (slots' := u4.1.2.1 - S0.2.1) (by have := hZ.1.1.1; have := hy2.1; omega) (by have := hZ.1.1.2; have := hy2.2; omega) ?_
    rw [← ha x0 (k_x0.n hZ.1).1] at hl
    have hZ := hZ.n hz ha (by rw [← e1]; exact hy2.1.2) (by rw [← e2]; exact hy2.2.2)
    rw [← hv] at hE hp
    dsimp only at hE hp
    exact B_Y7_keep_7a u4.1 u4.2 x1 x2 x3 x4 _ _ _ hE hp hZ hP hD hS (lv_sub hl [0, 1, 2, 3, 4] rfl)
  exact cCells (Nat.sub_self _).symm (Nat.sub_self _).symm (B_M S0 ad0 a1 a2 a3 a4 _ _ _ hX hp (nH.rf S0 ad0 k_l) hP hD hS hl)
theorem gdX1_putRuling_0 : ckS (List.drop 0 cX1_putRuling.data.toList) 0 [(0, .aload_n 0, 1), (1, .bipush 9, 2), (3, .invokevirtual 129, 3), (6, .astore_n 1, 1), (7, .aload_n 1, 1), (8, .aload_n 0, 1), (9, .getfield 21, 3), (12, .getfield 202, 3), (15, .putfield 190, 3), (18, .aload_n 0, 1), (19, .getfield 9, 3), (22, .aload_n 1, 1), (23, .invokevirtual 205, 3), (26, .bipush 9, 2), (28, .ireturn, 1)] = true := by decide +kernel
theorem dX1_putRuling_0 : decode cX1_putRuling 0 = .ok (.aload_n 0, 1) := ckS_g gdX1_putRuling_0 0 rfl
theorem dX1_putRuling_1 : decode cX1_putRuling 1 = .ok (.bipush 9, 2) := ckS_g gdX1_putRuling_0 1 rfl
theorem dX1_putRuling_3 : decode cX1_putRuling 3 = .ok (.invokevirtual 129, 3) := ckS_g gdX1_putRuling_0 2 rfl
theorem dX1_putRuling_6 : decode cX1_putRuling 6 = .ok (.astore_n 1, 1) := ckS_g gdX1_putRuling_0 3 rfl
theorem dX1_putRuling_7 : decode cX1_putRuling 7 = .ok (.aload_n 1, 1) := ckS_g gdX1_putRuling_0 4 rfl
theorem dX1_putRuling_8 : decode cX1_putRuling 8 = .ok (.aload_n 0, 1) := ckS_g gdX1_putRuling_0 5 rfl
theorem dX1_putRuling_9 : decode cX1_putRuling 9 = .ok (.getfield 21, 3) := ckS_g gdX1_putRuling_0 6 rfl
theorem dX1_putRuling_12 : decode cX1_putRuling 12 = .ok (.getfield 202, 3) := ckS_g gdX1_putRuling_0 7 rfl
theorem dX1_putRuling_15 : decode cX1_putRuling 15 = .ok (.putfield 190, 3) := ckS_g gdX1_putRuling_0 8 rfl
theorem dX1_putRuling_18 : decode cX1_putRuling 18 = .ok (.aload_n 0, 1) := ckS_g gdX1_putRuling_0 9 rfl
theorem dX1_putRuling_19 : decode cX1_putRuling 19 = .ok (.getfield 9, 3) := ckS_g gdX1_putRuling_0 10 rfl
theorem dX1_putRuling_22 : decode cX1_putRuling 22 = .ok (.aload_n 1, 1) := ckS_g gdX1_putRuling_0 11 rfl
theorem dX1_putRuling_23 : decode cX1_putRuling 23 = .ok (.invokevirtual 205, 3) := ckS_g gdX1_putRuling_0 12 rfl
theorem dX1_putRuling_26 : decode cX1_putRuling 26 = .ok (.bipush 9, 2) := ckS_g gdX1_putRuling_0 13 rfl
theorem dX1_putRuling_28 : decode cX1_putRuling 28 = .ok (.ireturn, 1) := ckS_g gdX1_putRuling_0 14 rfl
set_option maxRecDepth 100000 in
theorem zc593 : wZ (.methodLink RX1 205 yX5_put) := ⟨wT3 (List.mem_of_getElem? (i := 162) (by decide +kernel)), Or.inl rfl⟩
set_option maxRecDepth 100000 in
theorem zc594 : wZ (.fieldLink RX1 202 "MotionFloor$House" "chair" "I") := ⟨wT1 (List.mem_of_getElem? (i := 44) (by decide +kernel)), Or.inl rfl⟩
set_option maxRecDepth 100000 in
theorem zc595 : wZ (.selects RX0 yX0_newMotion yX0_newMotion) := ⟨wT2 (List.mem_of_getElem? (i := 236) (by decide +kernel)), Or.inl rfl⟩
set_option maxRecDepth 100000 in
theorem zc596 : wZ (.instanceMethod yX0_newMotion) := ⟨wT2 (List.mem_of_getElem? (i := 235) (by decide +kernel)), Or.inl rfl⟩
set_option maxRecDepth 100000 in
theorem zc597 : wZ (.methodLink RX1 129 yX0_newMotion) := ⟨wT2 (List.mem_of_getElem? (i := 234) (by decide +kernel)), Or.inl rfl⟩
set_option maxRecDepth 100000 in
theorem zc598 : wZ (.code yX1_putRuling cX1_putRuling 2 (some .int)) := ⟨wT3 (List.mem_of_getElem? (i := 161) rfl), Or.inl rfl⟩
def b_Y1_putRuling_26a (S : Cst) (x0 : Nat) (x1 : Option Nat) : Int32 × Cst := ((9 : Int32), S)
def q_Y1_putRuling_26a (S : Cst) (x0 : Nat) (lc : Nat) (ls : Nat) (x1 : Option Nat) : Prop := True
def b_Y1_putRuling_6a (S : Cst) (x0 : Nat) (o0 : Option Nat) : Int32 × Cst := (b_Y1_putRuling_26a ((f_Y5_put (siC S (o0.getD 0) 3 (giC S ((grC S x0 0).getD 0) 3)) ((grC (siC S (o0.getD 0) 3 (giC S ((grC S x0 0).getD 0) 3)) x0 1).getD 0) o0).2) x0 o0)
def q_Y1_putRuling_6a (S : Cst) (x0 : Nat) (lc : Nat) (ls : Nat) (o0 : Option Nat) : Prop := (iR S (grC S x0 0) 1) ∧ (iR S o0 3) ∧ (iR (siC S (o0.getD 0) 3 (giC S ((grC S x0 0).getD 0) 3)) (grC (siC S (o0.getD 0) 3 (giC S ((grC S x0 0).getD 0) 3)) x0 1) 4) ∧ (p_Y5_put (siC S (o0.getD 0) 3 (giC S ((grC S x0 0).getD 0) 3)) ((grC (siC S (o0.getD 0) 3 (giC S ((grC S x0 0).getD 0) 3)) x0 1).getD 0) o0) ∧ (q_Y1_putRuling_26a ((f_Y5_put (siC S (o0.getD 0) 3 (giC S ((grC S x0 0).getD 0) 3)) ((grC (siC S (o0.getD 0) 3 (giC S ((grC S x0 0).getD 0) 3)) x0 1).getD 0) o0).2) x0 lc ls o0)
def f_Y1_putRuling (S : Cst) (x0 : Nat) : Int32 × Cst := (b_Y1_putRuling_6a ((f_Y0_newMotion S x0 (9 : Int32)).2) x0 ((f_Y0_newMotion S x0 (9 : Int32)).1))
def p_Y1_putRuling (S : Cst) (x0 : Nat) (lc : Nat) (ls : Nat) : Prop := ((S.1 ≤ (f_Y0_newMotion S x0 (9 : Int32)).2.1 ∧ (f_Y0_newMotion S x0 (9 : Int32)).2.1 ≤ lc) ∧ (S.2.1 ≤ (f_Y0_newMotion S x0 (9 : Int32)).2.2.1 ∧ (f_Y0_newMotion S x0 (9 : Int32)).2.2.1 ≤ ls)) ∧ (p_Y0_newMotion S x0 (f_Y0_newMotion S x0 (9 : Int32)).2.1 (f_Y0_newMotion S x0 (9 : Int32)).2.2.1 (9 : Int32)) ∧ (q_Y1_putRuling_6a ((f_Y0_newMotion S x0 (9 : Int32)).2) x0 lc ls ((f_Y0_newMotion S x0 (9 : Int32)).1))
def e_Y1_putRuling : List Cond := [.methodLink RX1 129 yX0_newMotion, .instanceMethod yX0_newMotion, .selects RX0 yX0_newMotion yX0_newMotion, .initialized RX0, .fieldLink RX1 21 "MotionFloor$Assembly" "house" "LMotionFloor$House;", .fieldLink RX1 202 "MotionFloor$House" "chair" "I", .fieldLink RX1 190 "MotionFloor$Motion" "mover" "I", .fieldLink RX1 9 "MotionFloor$Assembly" "pending" "LMotionFloor$Pile;", .methodLink RX1 205 yX5_put, .instanceMethod yX5_put, .selects RX5 yX5_put yX5_put, .initialized RX5]
def v_Y1_putRuling : List Cond := .code yX1_putRuling cX1_putRuling 2 (some .int) :: (e_Y1_putRuling ++ (wsX00 ++ (wsX20 ++ (wsX40 ++ (v_Y0_newMotion ++ (v_Y5_put ++ []))))))
theorem te_Y1_putRuling : GoodIn lw_tbl e_Y1_putRuling := wGc zc597 (wGc zc596 (wGc zc595 (wGc zc39 (wGc zc196 (wGc zc594 (wGc zc193 (wGc zc181 (wGc zc593 (wGc zc159 (wGc zc158 (wGc zc34 (wG0))))))))))))
theorem t_Y1_putRuling : GoodIn lw_tbl v_Y1_putRuling := wGc zc598 (wGa te_Y1_putRuling (wGa zcX0 (wGa zcX2 (wGa zcX4 (wGa t_Y0_newMotion (wGa t_Y5_put (wG0)))))))
set_option maxHeartbeats 4000000 in
set_option maxRecDepth 100000 in
theorem c_Y1_putRuling (l : Launch) (G : va_G) (K : Nat → ClassId) (ad0 : Nat → Nat) (S0 : Cst) (x0 : Nat) (lc : Nat) (ls : Nat)  (sz : Nat) : Met l yX1_putRuling v_Y1_putRuling ({ frames := 4, cells := lc - S0.1, slots := ls - S0.2.1, locals := 87 }) (va_Pc [.ref (ad0 x0)] (cSt G K ad0 sz S0 ((S0.1 ≤ lc ∧ S0.2.1 ≤ ls) ∧ iK S0 x0 0 ∧ p_Y1_putRuling S0 x0 lc ls))) (va_Qi (fun (r : Int32) (u : Cst × (Nat → Nat)) => (r, u.1) = f_Y1_putRuling S0 x0 ∧ eN S0 u.1 ∧ (∀ q, q < S0.1 → u.2 q = ad0 q)) (fun u t => cBt G K u.2 (va_A (wsC K ad0 S0) sz) u.1 t) (va_A (wsC K ad0 S0) sz)) (lc - S0.1) (ls - S0.2.1) (va_A (wsC K ad0 S0) sz) := by
  refine Met.ofW (cc := cX1_putRuling) (maxL := 2) (ret := (some .int)) (by decide) rfl ?_
  intro p e s m args below meth c s₁ B hml hv
  obtain ⟨rfl, ⟨hsz, hP, hK, hD0, hTE⟩, hp⟩ := hv
  obtain ⟨k_l, hp⟩ := hp
  obtain ⟨k_x0, hp⟩ := hp
  have hx := B.exec
  have hb := B.bytes
  have hr := B.returns
  have hts := atoms_spec (ws := v_Y1_putRuling) B.pre
  have t_ := t_Y1_putRuling
  have mw : ∀ w ∈ e_Y1_putRuling, w ∈ v_Y1_putRuling := fun w h => List.mem_cons_of_mem _ (List.mem_append_left _ h)
  have hw := fun w (h : w ∈ e_Y1_putRuling) => hts w (mw w h)
  have iX0 : ∀ w ∈ wsX00, w ∈ v_Y1_putRuling := fun w h => List.mem_cons_of_mem _ (List.mem_append_right _ (List.mem_append_left _ h))
  have iX2 : ∀ w ∈ wsX20, w ∈ v_Y1_putRuling := fun w h => List.mem_cons_of_mem _ (List.mem_append_right _ (List.mem_append_right _ (List.mem_append_left _ h)))
  have iX4 : ∀ w ∈ wsX40, w ∈ v_Y1_putRuling := fun w h => List.mem_cons_of_mem _ (List.mem_append_right _ (List.mem_append_right _ (List.mem_append_right _ (List.mem_append_left _ h))))
  have j_Y0_newMotion : ∀ w ∈ v_Y0_newMotion, w ∈ v_Y1_putRuling := fun w h => List.mem_cons_of_mem _ (List.mem_append_right _ (List.mem_append_right _ (List.mem_append_right _ (List.mem_append_right _ (List.mem_append_left _ h)))))
  have j_Y5_put : ∀ w ∈ v_Y5_put, w ∈ v_Y1_putRuling := fun w h => List.mem_cons_of_mem _ (List.mem_append_right _ (List.mem_append_right _ (List.mem_append_right _ (List.mem_append_right _ (List.mem_append_right _ (List.mem_append_left _ h))))))
  have hown : s.vm.findClass RX1 = some m.cls := findClass_of_methodNamed B.named
  have hlocks := B.notSynchronized
  subst hsz
  have hD := hD0.self (sz := s.heap.size)
  generalize hAe : va_A (wsC K ad0 S0) s.heap.size = A at hD ⊢
  have hA : ∀ q : Nat, s.heap.size ≤ q → A q := fun q h => by rw [← hAe]; exact Or.inr h
  have hS : va_S A s.heap s.heap [] := va_S.rf
  have hl : lv_has (lg_sl ([.ref (ad0 x0)]) ++ List.replicate (2 - (lg_sl ([.ref (ad0 x0)])).length) Slot.unset).toArray 2 [(0, .ref (ad0 x0))] := by
    exact lv_entry ([.ref (ad0 x0)]) (n := 2) (Nat.le_of_ble_eq_true rfl)
  rw [lg_entry_eq]
  generalize (lg_sl ([.ref (ad0 x0)]) ++ List.replicate (2 - (lg_sl ([.ref (ad0 x0)])).length) Slot.unset).toArray = ls_ at hl ⊢
  refine wGen (fun Q hQ => ?_)
  obtain ⟨X, hX⟩ : ∃ X, f_Y1_putRuling S0 x0 = X := ⟨_, rfl⟩
  have B_Y1_putRuling_26a : ∀ (S : Cst) (ad : Nat → Nat) (x1 : Option Nat) (H : Heap) (locs : List Loc) (ls_ : Array Slot), b_Y1_putRuling_26a S x0 x1 = X → q_Y1_putRuling_26a S x0 lc ls x1 → nH S0 ad0 lc ls S ad → va_P G vwCl (wsC K ad S) H → va_D A (wsC K ad S) → va_S A s.heap H locs → lv_has ls_ 2 [(0, .ref (ad x0)), (1, va_re ad x1)] → W p l e ({ frames := 4, cells := lc - S0.1, slots := ls - S0.2.1, locals := 87 } : Room) s m #[Value.ref (ad0 x0)] below meth c H locs (S.1 - S0.1) (S.2.1 - S0.2.1) Q (F0 m 26 ls_ []) := by
    intro S ad x1 H locs ls_ hE hp hZ hP hD hS hl
    unfold b_Y1_putRuling_26a at hE
    unfold q_Y1_putRuling_26a at hp
    refine lv_bipush (v := 9) hx hb dX1_putRuling_26 (by decide) ?_
    refine W.widen (k := lc - S0.1) (n := ls - S0.2.1) (show S.1 - S0.1 ≤ lc - S0.1 from Nat.sub_le_sub_right hZ.2.2.1 _) (show S.2.1 - S0.2.1 ≤ ls - S0.2.1 from Nat.sub_le_sub_right hZ.2.2.2 _) ?_
    subst hQ
    exact W.iret (v := (9 : Int32)) hx hb hr (fun t ht hW => ⟨⟨(9 : Int32), (S, ad), rfl, ⟨hE.trans hX.symm, hZ.1, hZ.2.1⟩, by rw [ht]; exact hP, hD⟩, hS.F ht⟩) hS.2.2 dX1_putRuling_28
  have B_Y1_putRuling_6a : ∀ (S : Cst) (ad : Nat → Nat) (o0 : Option Nat) (H : Heap) (locs : List Loc) (ls_ : Array Slot), b_Y1_putRuling_6a S x0 o0 = X → q_Y1_putRuling_6a S x0 lc ls o0 → nH S0 ad0 lc ls S ad → va_P G vwCl (wsC K ad S) H → va_D A (wsC K ad S) → va_S A s.heap H locs → lv_has ls_ 2 [(0, .ref (ad x0))] → W p l e ({ frames := 4, cells := lc - S0.1, slots := ls - S0.2.1, locals := 87 } : Room) s m #[Value.ref (ad0 x0)] below meth c H locs (S.1 - S0.1) (S.2.1 - S0.2.1) Q (F0 m 6 ls_ [va_re ad o0]) := by
    intro S ad o0 H locs ls_ hE hp hZ hP hD hS hl
    unfold b_Y1_putRuling_6a at hE
    unfold q_Y1_putRuling_6a at hp
    refine cAstore_n (ad := ad) (r := o0) (i := 1) (lv' := [(1, va_re ad o0), (0, .ref (ad x0))]) hx hb dX1_putRuling_6 rfl hl (by decide) rfl (fun ls_ hl => ?_)
    refine cAload_n (ad := ad) (r := o0) hx hb dX1_putRuling_7 rfl (lv_at hl 0 rfl) ?_
    refine lv_aload_n hx hb dX1_putRuling_8 rfl (lv_at hl 1 rfl) ?_
    refine va_get (D := G) (ci := 0) (v := va_re ad (grC S x0 0)) (C := RX0) (T := TX0) (N := 11) hx hb hts iX0 hown hK hP x0 (at_0 (k_x0.n hZ.1)) rfl 0 (by decide) (hw (.fieldLink RX1 21 "MotionFloor$Assembly" "house" "LMotionFloor$House;") (List.mem_of_getElem? (i := 4) rfl)) (fun _ h9 => h9) rfl dX1_putRuling_9 ?_
    obtain ⟨hy5, hp⟩ := hp
    refine cTop (r := (grC S x0 0)) hy5.1 ?_
    refine va_get (D := G) (ci := 1) (v := .int (giC S ((grC S x0 0).getD 0) 3)) (C := RX2) (T := TX2) (N := 8) hx hb hts iX2 hown hK hP ((grC S x0 0).getD 0) (at_1 hy5.2) rfl 3 (by decide) (hw (.fieldLink RX1 202 "MotionFloor$House" "chair" "I") (List.mem_of_getElem? (i := 5) rfl)) (fun _ h9 => h9) rfl dX1_putRuling_12 ?_
    obtain ⟨hy6, hp⟩ := hp
    refine cTop2 (r := o0) hy6.1 ?_
    refine va_put (D := G) (ci := 3) (v := .int (giC S ((grC S x0 0).getD 0) 3)) (ty := .int) (C := RX4) (T := TX4) (N := 16) hx hb hts iX4 tyX4 tyX4_ok nmX4 hown hK hP hD hS (o0.getD 0) (at_3 hy6.2) rfl 3 (by decide) (hw (.fieldLink RX1 190 "MotionFloor$Motion" "mover" "I") (List.mem_of_getElem? (i := 6) rfl)) (fun _ h9 => h9) rfl (by decide +kernel) rfl rfl (Nat.le_of_ble_eq_true rfl) dX1_putRuling_15 (fun H locs hP hD hS => ?_)
    rw [st_3_3 hy6.2] at hP hD
    have hZ := hZ.k (eK.si S (o0.getD 0) 3 (giC S ((grC S x0 0).getD 0) 3))
    refine lv_aload_n hx hb dX1_putRuling_18 rfl (lv_at hl 1 rfl) ?_
    refine va_get (D := G) (ci := 0) (v := va_re ad (grC (siC S (o0.getD 0) 3 (giC S ((grC S x0 0).getD 0) 3)) x0 1)) (C := RX0) (T := TX0) (N := 11) hx hb hts iX0 hown hK hP x0 (at_0 (k_x0.n hZ.1)) rfl 1 (by decide) (hw (.fieldLink RX1 9 "MotionFloor$Assembly" "pending" "LMotionFloor$Pile;") (List.mem_of_getElem? (i := 7) rfl)) (fun _ h9 => h9) rfl dX1_putRuling_19 ?_
    refine cAload_n (ad := ad) (r := o0) hx hb dX1_putRuling_22 rfl (lv_at hl 0 rfl) ?_
    obtain ⟨hy7, hp⟩ := hp
    refine cTop2 (r := (grC (siC S (o0.getD 0) 3 (giC S ((grC S x0 0).getD 0) 3)) x0 1)) hy7.1 ?_
    obtain ⟨hy8, hp⟩ := hp
    refine cGov (va_runV (As := [va_re ad o0]) (rest := []) ⟨hx, hb, hml, hown, hts⟩ (c_Y5_put l G K ad (siC S (o0.getD 0) 3 (giC S ((grC S x0 0).getD 0) 3)) ((grC (siC S (o0.getD 0) 3 (giC S ((grC S x0 0).getD 0) 3)) x0 1).getD 0) o0 _) (cwV 1 hts (wGV t_ (mw (.methodLink RX1 205 yX5_put) (List.mem_of_getElem? (i := 8) rfl)) (mw (.instanceMethod yX5_put) (List.mem_of_getElem? (i := 9) rfl)) (mw (.selects RX5 yX5_put yX5_put) (List.mem_of_getElem? (i := 10) rfl)) (mw (.initialized RX5) (List.mem_of_getElem? (i := 11) rfl)) j_Y5_put) rfl rfl rfl (by decide +kernel) ⟨Nat.le_of_ble_eq_true rfl, Nat.le_of_ble_eq_true rfl⟩) (cPV hK hTE hP hD 4 rfl (at_4 hy7.2) ⟨hy7.2, hy8⟩) rfl rfl hl.1 rfl (lv_room (Nat.le_of_ble_eq_true rfl)) dX1_putRuling_23 ⟨(show S.1 - S0.1 ≤ lc - S0.1 from Nat.sub_le_sub_right hZ.2.2.1 _), (show S.2.1 - S0.2.1 ≤ ls - S0.2.1 from Nat.sub_le_sub_right hZ.2.2.2 _)⟩) hP hD hS hA (fun u9 H locs hv hP hD hS => ?_)
    obtain ⟨hv, hz⟩ := hv
    have hZ := hZ.k hz
    refine cCells (cells' := u9.1 - S0.1) (slots' := u9.2.1 - S0.2.1) (by have e : S.1 = u9.1 := hz.1.1; show S.1 - S0.1 + 0 = _; omega) (by have e : S.2.1 = u9.2.1 := hz.1.2; show S.2.1 - S0.2.1 + 0 = _; omega) ?_
    rw [← hv] at hE hp
    dsimp only at hE hp
    exact B_Y1_putRuling_26a u9 ad o0 _ _ _ hE hp hZ hP hD hS (lv_sub hl [1, 0] rfl)
  have B_M : ∀ (S : Cst) (ad : Nat → Nat) (H : Heap) (locs : List Loc) (ls_ : Array Slot), f_Y1_putRuling S x0 = X → p_Y1_putRuling S x0 lc ls → nH S0 ad0 lc ls S ad → va_P G vwCl (wsC K ad S) H → va_D A (wsC K ad S) → va_S A s.heap H locs → lv_has ls_ 2 [(0, .ref (ad x0))] → W p l e ({ frames := 4, cells := lc - S0.1, slots := ls - S0.2.1, locals := 87 } : Room) s m #[Value.ref (ad0 x0)] below meth c H locs (S.1 - S0.1) (S.2.1 - S0.2.1) Q (F0 m 0 ls_ []) := by
    intro S ad H locs ls_ hE hp hZ hP hD hS hl
    unfold f_Y1_putRuling at hE
    unfold p_Y1_putRuling at hp
    refine lv_aload_n hx hb dX1_putRuling_0 rfl (lv_at hl 0 rfl) ?_
    refine lv_bipush (v := 9) hx hb dX1_putRuling_1 (by decide) ?_
    obtain ⟨hy1, hp⟩ := hp
    obtain ⟨hy2, hp⟩ := hp
    refine cNoq (va_runV (As := [.int 9]) (rest := []) ⟨hx, hb, hml, hown, hts⟩ (c_Y0_newMotion l G K ad S x0 (f_Y0_newMotion S x0 (9 : Int32)).2.1 (f_Y0_newMotion S x0 (9 : Int32)).2.2.1 (9 : Int32) _) (cwV 1 hts (wGV t_ (mw (.methodLink RX1 129 yX0_newMotion) (List.mem_of_getElem? (i := 0) rfl)) (mw (.instanceMethod yX0_newMotion) (List.mem_of_getElem? (i := 1) rfl)) (mw (.selects RX0 yX0_newMotion yX0_newMotion) (List.mem_of_getElem? (i := 2) rfl)) (mw (.initialized RX0) (List.mem_of_getElem? (i := 3) rfl)) j_Y0_newMotion) rfl rfl rfl (by decide +kernel) ⟨Nat.le_of_ble_eq_true rfl, Nat.le_of_ble_eq_true rfl⟩) (cPV hK hTE hP hD 0 rfl (at_0 (k_x0.n hZ.1)) ⟨⟨hy1.1.1, hy1.2.1⟩, (k_x0.n hZ.1), hy2⟩) rfl rfl hl.1 rfl (lv_room (Nat.le_of_ble_eq_true rfl)) dX1_putRuling_3 ⟨by show _ ≤ lc - S0.1; have := hZ.1.1.1; have := hy1.1; omega, by show _ ≤ ls - S0.2.1; have := hZ.1.1.2; have := hy1.2; omega⟩) hP hD hS hA (fun r4 u3 H locs hv hP hD hS => ?_)
    obtain ⟨hv, hz, ha⟩ := hv
    have e1 : (f_Y0_newMotion S x0 (9 : Int32)).2.1 = u3.1.1 := by rw [← hv]
    have e2 : (f_Y0_newMotion S x0 (9 : Int32)).2.2.1 = u3.1.2.1 := by rw [← hv]
    refine cCells (cells' := u3.1.1 - S0.1) (slots' := u3.1.2.1 - S0.2.1) (by have := hZ.1.1.1; have := hy1.1; omega) (by have := hZ.1.1.2; have := hy1.2; omega) ?_
    rw [← ha x0 (k_x0.n hZ.1).1] at hl
    have hZ := hZ.n hz ha (by rw [← e1]; exact hy1.1.2) (by rw [← e2]; exact hy1.2.2)
    rw [← hv] at hE hp
    dsimp only at hE hp
    exact B_Y1_putRuling_6a u3.1 u3.2 r4 _ _ _ hE hp hZ hP hD hS (lv_sub hl [0] rfl)
  exact cCells (Nat.sub_self _).symm (Nat.sub_self _).symm (B_M S0 ad0 _ _ _ hX hp (nH.rf S0 ad0 k_l) hP hD hS hl)
