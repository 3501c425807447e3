theorem gdX12_adjourn_0 : ckS (List.drop 0 cX12_adjourn.data.toList) 0 [(0, .aload_n 0, 1), (1, .getfield 16, 3), (4, .bipush 22, 2), (6, .iconst 0, 1), (7, .iconst 0, 1), (8, .iconst 0, 1), (9, .iconst 0, 1), (10, .invokevirtual 40, 3), (13, .ireturn, 1)] = true := by decide +kernel
theorem dX12_adjourn_0 : decode cX12_adjourn 0 = .ok (.aload_n 0, 1) := ckS_g gdX12_adjourn_0 0 rfl
theorem dX12_adjourn_1 : decode cX12_adjourn 1 = .ok (.getfield 16, 3) := ckS_g gdX12_adjourn_0 1 rfl
theorem dX12_adjourn_4 : decode cX12_adjourn 4 = .ok (.bipush 22, 2) := ckS_g gdX12_adjourn_0 2 rfl
theorem dX12_adjourn_6 : decode cX12_adjourn 6 = .ok (.iconst 0, 1) := ckS_g gdX12_adjourn_0 3 rfl
theorem dX12_adjourn_7 : decode cX12_adjourn 7 = .ok (.iconst 0, 1) := ckS_g gdX12_adjourn_0 4 rfl
theorem dX12_adjourn_8 : decode cX12_adjourn 8 = .ok (.iconst 0, 1) := ckS_g gdX12_adjourn_0 5 rfl
theorem dX12_adjourn_9 : decode cX12_adjourn 9 = .ok (.iconst 0, 1) := ckS_g gdX12_adjourn_0 6 rfl
theorem dX12_adjourn_10 : decode cX12_adjourn 10 = .ok (.invokevirtual 40, 3) := ckS_g gdX12_adjourn_0 7 rfl
theorem dX12_adjourn_13 : decode cX12_adjourn 13 = .ok (.ireturn, 1) := ckS_g gdX12_adjourn_0 8 rfl
set_option maxRecDepth 100000 in
theorem z245 : wZ (.code yX12_adjourn cX12_adjourn 1 (some .int)) := ⟨wT6 (List.mem_of_getElem? (i := 199) rfl), Or.inl rfl⟩
def b_X12_adjourn_a13 (S : MS) (y0 : Int32) : Int32 × MS := (y0, S)
def q_X12_adjourn_a13 (S : MS) (y0 : Int32) : Prop := True
def f_X12_adjourn (S : MS)  : Int32 × MS := (b_X12_adjourn_a13 (mH S ((f_X11_act S.2.1 22 0 0 0 0).2)) (f_X11_act S.2.1 22 0 0 0 0).1)
def p_X12_adjourn (S : MS)  : Prop := (p_X11_act S.2.1 22 0 0 0 0) ∧ (q_X12_adjourn_a13 (mH S ((f_X11_act S.2.1 22 0 0 0 0).2)) (f_X11_act S.2.1 22 0 0 0 0).1)
def e_X12_adjourn : List Cond := [.fieldLink RX12 16 "MotionFloorModel" "hall" "LMotionFloorModel$Hall;", .methodLink RX12 40 yX11_act, .instanceMethod yX11_act, .selects RX11 yX11_act yX11_act, .initialized RX11]
def v_X12_adjourn : List Cond := .code yX12_adjourn cX12_adjourn 1 (some .int) :: (e_X12_adjourn ++ (wsX120 ++ (v_X11_act ++ [])))
theorem te_X12_adjourn : GoodIn lw_tbl e_X12_adjourn := wGc z219 (wGc z223 (wGc z222 (wGc z221 (wGc z51 (wG0)))))
theorem t_X12_adjourn : GoodIn lw_tbl v_X12_adjourn := wGc z245 (wGa te_X12_adjourn (wGa zcX12 (wGa t_X11_act (wG0))))
set_option maxHeartbeats 4000000 in
set_option maxRecDepth 100000 in
theorem c_X12_adjourn (l : Launch) (G : va_G) (K : Nat → ClassId) (m0 : Nat) (gm : Nat → Nat) (h1 : Nat) (g1 : Nat → Nat) (h2 : Nat) (g2 : Nat → Nat) (S0 : MS)  (sz : Nat) : Met l yX12_adjourn v_X12_adjourn ({ frames := 6, cells := 0, slots := 0, locals := 156 }) (va_Pc [.ref m0] (mSt G K m0 gm h1 g1 h2 g2 sz S0 (p_X12_adjourn S0))) (va_Qi (fun (r : Int32) (u : MS) => (r, u) = f_X12_adjourn S0) (mB G K m0 gm h1 g1 h2 g2 (va_A (mW K m0 gm h1 g1 h2 g2 S0) sz)) (va_A (mW K m0 gm h1 g1 h2 g2 S0) sz)) 0 0 (va_A (mW K m0 gm h1 g1 h2 g2 S0) sz) := by
  refine Met.ofW (cc := cX12_adjourn) (maxL := 1) (ret := (some .int)) (by decide) rfl ?_
  intro p e s m args below meth c s₁ B hml hv
  obtain ⟨rfl, ⟨hsz, hP, hK, hD0, hTE⟩, hp⟩ := hv
  have hx := B.exec
  have hb := B.bytes
  have hr := B.returns
  have hts := atoms_spec (ws := v_X12_adjourn) B.pre
  have t_ := t_X12_adjourn
  have mw : ∀ w ∈ e_X12_adjourn, w ∈ v_X12_adjourn := fun w h => List.mem_cons_of_mem _ (List.mem_append_left _ h)
  have hw := fun w (h : w ∈ e_X12_adjourn) => hts w (mw w h)
  have iX12 : ∀ w ∈ wsX120, w ∈ v_X12_adjourn := fun w h => List.mem_cons_of_mem _ (List.mem_append_right _ (List.mem_append_left _ h))
  have j_X11_act : ∀ w ∈ v_X11_act, w ∈ v_X12_adjourn := fun w h => List.mem_cons_of_mem _ (List.mem_append_right _ (List.mem_append_right _ (List.mem_append_left _ h)))
  have hown : s.vm.findClass RX12 = some m.cls := findClass_of_methodNamed B.named
  have hlocks := B.notSynchronized
  subst hsz
  have hD := hD0.self (sz := s.heap.size)
  generalize hAe : va_A (mW K m0 gm h1 g1 h2 g2 S0) s.heap.size = A at hD ⊢
  have hA : ∀ q : Nat, s.heap.size ≤ q → A q := fun q h => by rw [← hAe]; exact Or.inr h
  have hS : va_S A s.heap s.heap [] := va_S.rf
  have hl := lv_entry ([.ref m0]) (n := 1) (Nat.le_of_ble_eq_true rfl)
  rw [lg_entry_eq]
  generalize (lg_sl ([.ref m0]) ++ List.replicate (1 - (lg_sl ([.ref m0])).length) Slot.unset).toArray = ls at hl ⊢
  have hl : lv_has ls 1 [(0, .ref m0)] := hl
  refine wGen (fun Q hQ => ?_)
  obtain ⟨X, hX⟩ : ∃ X, f_X12_adjourn S0 = X := ⟨_, rfl⟩
  have B_M : ∀ (S : MS) (H : Heap) (locs : List Loc) (ls : Array Slot), f_X12_adjourn S = X → p_X12_adjourn S → va_P G vwCl (mW K m0 gm h1 g1 h2 g2 S) H → va_D A (mW K m0 gm h1 g1 h2 g2 S) → va_S A s.heap H locs → lv_has ls 1 [(0, .ref m0)] → W p l e ({ frames := 6, cells := 0, slots := 0, locals := 156 } : Room) s m #[Value.ref m0] below meth c H locs 0 0 Q (F0 m 0 ls []) := by
    intro S H locs ls hE hp hP hD hS hl
    unfold f_X12_adjourn at hE
    unfold p_X12_adjourn at hp
    refine lv_aload_n hx hb dX12_adjourn_0 rfl (lv_at hl 0 rfl) ?_
    refine va_get (D := G) (ci := 9) (v := .ref h1) (C := RX12) (T := TX12) (N := 7) hx hb hts iX12 hown hK hP 0 rfl rfl 0 (by decide) (hw (.fieldLink RX12 16 "MotionFloorModel" "hall" "LMotionFloorModel$Hall;") (List.mem_of_getElem? (i := 0) rfl)) (fun _ h9 => h9) rfl dX12_adjourn_1 ?_
    refine lv_bipush (v := 22) hx hb dX12_adjourn_4 (by decide) ?_
    refine lv_iconst (v := 0) hx hb dX12_adjourn_6 (by decide) ?_
    refine lv_iconst (v := 0) hx hb dX12_adjourn_7 (by decide) ?_
    refine lv_iconst (v := 0) hx hb dX12_adjourn_8 (by decide) ?_
    refine lv_iconst (v := 0) hx hb dX12_adjourn_9 (by decide) ?_
    obtain ⟨hy1, hp⟩ := hp
    refine mGoi_h (va_runV (As := [.int 22, .int 0, .int 0, .int 0, .int 0]) (rest := []) ⟨hx, hb, hml, hown, hts⟩ (c_X11_act l G K h1 g1 S.2.1 22 0 0 0 0 _) (cwV 5 hts (wGV t_ (mw (.methodLink RX12 40 yX11_act) (List.mem_of_getElem? (i := 1) rfl)) (mw (.instanceMethod yX11_act) (List.mem_of_getElem? (i := 2) rfl)) (mw (.selects RX11 yX11_act yX11_act) (List.mem_of_getElem? (i := 3) rfl)) (mw (.initialized RX11) (List.mem_of_getElem? (i := 4) rfl)) j_X11_act) rfl rfl rfl (by decide +kernel) ⟨Nat.le_of_ble_eq_true rfl, Nat.le_of_ble_eq_true rfl⟩) (hPV hK hTE (mP_h hP) (mD_h hD) hy1) rfl rfl hl.1 rfl (lv_room (Nat.le_of_ble_eq_true rfl)) dX12_adjourn_10 ⟨Nat.le_of_ble_eq_true rfl, Nat.le_of_ble_eq_true rfl⟩) hP hD hS hA (fun r3 u2 H locs hv hP hD hS => ?_)
    rw [← hv] at hE hp
    dsimp only at hE hp
    unfold b_X12_adjourn_a13 at hE
    unfold q_X12_adjourn_a13 at hp
    subst hQ
    exact W.iret (v := r3) hx hb hr (fun t ht hW => ⟨⟨r3, (mH S u2), rfl, hE.trans hX.symm, by rw [ht]; exact hP, hD⟩, hS.F ht⟩) hS.2.2 dX12_adjourn_13
  exact B_M S0 _ _ _ hX hp hP hD hS hl
theorem gdX12_order_0 : ckS (List.drop 0 cX12_order.data.toList) 0 [(0, .aload_n 0, 1), (1, .getfield 16, 3), (4, .iload_n 1, 1), (5, .invokevirtual 44, 3), (8, .istore_n 2, 1), (9, .aload_n 0, 1), (10, .getfield 16, 3), (13, .iload_n 2, 1), (14, .ifCond .ne 21, 3), (17, .aload_n 0, 1), (18, .getfield 16, 3), (21, .getfield 48, 3), (24, .sipush 600, 3), (27, .if_icmp .ne 8, 3), (30, .bipush 10, 2), (32, .goto 4, 3), (35, .iload_n 2, 1), (36, .putfield 52, 3), (39, .aload_n 0, 1), (40, .getfield 16, 3), (43, .getfield 52, 3), (46, .ifCond .ne 7, 3), (49, .iconst 1, 1), (50, .goto 4, 3), (53, .iconst 0, 1), (54, .ireturn, 1)] = true := by decide +kernel
theorem dX12_order_0 : decode cX12_order 0 = .ok (.aload_n 0, 1) := ckS_g gdX12_order_0 0 rfl
theorem dX12_order_1 : decode cX12_order 1 = .ok (.getfield 16, 3) := ckS_g gdX12_order_0 1 rfl
theorem dX12_order_4 : decode cX12_order 4 = .ok (.iload_n 1, 1) := ckS_g gdX12_order_0 2 rfl
theorem dX12_order_5 : decode cX12_order 5 = .ok (.invokevirtual 44, 3) := ckS_g gdX12_order_0 3 rfl
theorem dX12_order_8 : decode cX12_order 8 = .ok (.istore_n 2, 1) := ckS_g gdX12_order_0 4 rfl
theorem dX12_order_9 : decode cX12_order 9 = .ok (.aload_n 0, 1) := ckS_g gdX12_order_0 5 rfl
theorem dX12_order_10 : decode cX12_order 10 = .ok (.getfield 16, 3) := ckS_g gdX12_order_0 6 rfl
theorem dX12_order_13 : decode cX12_order 13 = .ok (.iload_n 2, 1) := ckS_g gdX12_order_0 7 rfl
theorem dX12_order_14 : decode cX12_order 14 = .ok (.ifCond .ne 21, 3) := ckS_g gdX12_order_0 8 rfl
theorem dX12_order_17 : decode cX12_order 17 = .ok (.aload_n 0, 1) := ckS_g gdX12_order_0 9 rfl
theorem dX12_order_18 : decode cX12_order 18 = .ok (.getfield 16, 3) := ckS_g gdX12_order_0 10 rfl
theorem dX12_order_21 : decode cX12_order 21 = .ok (.getfield 48, 3) := ckS_g gdX12_order_0 11 rfl
theorem dX12_order_24 : decode cX12_order 24 = .ok (.sipush 600, 3) := ckS_g gdX12_order_0 12 rfl
theorem dX12_order_27 : decode cX12_order 27 = .ok (.if_icmp .ne 8, 3) := ckS_g gdX12_order_0 13 rfl
theorem dX12_order_30 : decode cX12_order 30 = .ok (.bipush 10, 2) := ckS_g gdX12_order_0 14 rfl
theorem dX12_order_32 : decode cX12_order 32 = .ok (.goto 4, 3) := ckS_g gdX12_order_0 15 rfl
theorem dX12_order_35 : decode cX12_order 35 = .ok (.iload_n 2, 1) := ckS_g gdX12_order_0 16 rfl
theorem dX12_order_36 : decode cX12_order 36 = .ok (.putfield 52, 3) := ckS_g gdX12_order_0 17 rfl
theorem dX12_order_39 : decode cX12_order 39 = .ok (.aload_n 0, 1) := ckS_g gdX12_order_0 18 rfl
theorem dX12_order_40 : decode cX12_order 40 = .ok (.getfield 16, 3) := ckS_g gdX12_order_0 19 rfl
theorem dX12_order_43 : decode cX12_order 43 = .ok (.getfield 52, 3) := ckS_g gdX12_order_0 20 rfl
theorem dX12_order_46 : decode cX12_order 46 = .ok (.ifCond .ne 7, 3) := ckS_g gdX12_order_0 21 rfl
theorem dX12_order_49 : decode cX12_order 49 = .ok (.iconst 1, 1) := ckS_g gdX12_order_0 22 rfl
theorem dX12_order_50 : decode cX12_order 50 = .ok (.goto 4, 3) := ckS_g gdX12_order_0 23 rfl
theorem dX12_order_53 : decode cX12_order 53 = .ok (.iconst 0, 1) := ckS_g gdX12_order_0 24 rfl
theorem dX12_order_54 : decode cX12_order 54 = .ok (.ireturn, 1) := ckS_g gdX12_order_0 25 rfl
set_option maxRecDepth 100000 in
theorem z246 : wZ (.fieldLink RX12 48 "MotionFloorModel$Hall" "entries" "I") := ⟨wT5 (List.mem_of_getElem? (i := 49) (by decide +kernel)), Or.inl rfl⟩
set_option maxRecDepth 100000 in
theorem z247 : wZ (.fieldLink RX12 52 "MotionFloorModel$Hall" "why" "I") := ⟨wT5 (List.mem_of_getElem? (i := 55) (by decide +kernel)), Or.inl rfl⟩
set_option maxRecDepth 100000 in
theorem z248 : wZ (.methodLink RX12 44 yX11_reasonOfMove) := ⟨wT6 (List.mem_of_getElem? (i := 204) (by decide +kernel)), Or.inl rfl⟩
set_option maxRecDepth 100000 in
theorem z249 : wZ (.code yX12_order cX12_order 3 (some .int)) := ⟨wT6 (List.mem_of_getElem? (i := 203) rfl), Or.inl rfl⟩
def b_X12_order_54 (S : MS) (x1 x2 y0 : Int32) : Int32 × MS := (y0, S)
def q_X12_order_54 (S : MS) (x1 x2 y0 : Int32) : Prop := True
def b_X12_order_36 (S : MS) (x1 x2 y0 : Int32) : Int32 × MS := if (((mH S (sI S.2.1 10 y0)).2.1).1 10) = 0 then (b_X12_order_54 (mH S (sI S.2.1 10 y0)) x1 x2 1) else (b_X12_order_54 (mH S (sI S.2.1 10 y0)) x1 x2 0)
def q_X12_order_36 (S : MS) (x1 x2 y0 : Int32) : Prop := (if (((mH S (sI S.2.1 10 y0)).2.1).1 10) = 0 then (q_X12_order_54 (mH S (sI S.2.1 10 y0)) x1 x2 1) else (q_X12_order_54 (mH S (sI S.2.1 10 y0)) x1 x2 0))
def b_X12_order_35 (S : MS) (x1 x2 : Int32) : Int32 × MS := (b_X12_order_36 S x1 x2 x2)
def q_X12_order_35 (S : MS) (x1 x2 : Int32) : Prop := (q_X12_order_36 S x1 x2 x2)
def b_X12_order_a8 (S : MS) (x1 y0 : Int32) : Int32 × MS := if y0 = 0 then if (S.2.1.1 7) = 600 then (b_X12_order_36 S x1 y0 10) else (b_X12_order_35 S x1 y0) else (b_X12_order_35 S x1 y0)
def q_X12_order_a8 (S : MS) (x1 y0 : Int32) : Prop := (if y0 = 0 then (if (S.2.1.1 7) = 600 then (q_X12_order_36 S x1 y0 10) else (q_X12_order_35 S x1 y0)) else (q_X12_order_35 S x1 y0))
def f_X12_order (S : MS) (x1 : Int32) : Int32 × MS := (b_X12_order_a8 (mH S ((f_X11_reasonOfMove S.2.1 x1).2)) x1 (f_X11_reasonOfMove S.2.1 x1).1)
def p_X12_order (S : MS) (x1 : Int32) : Prop := (p_X11_reasonOfMove S.2.1 x1) ∧ (q_X12_order_a8 (mH S ((f_X11_reasonOfMove S.2.1 x1).2)) x1 (f_X11_reasonOfMove S.2.1 x1).1)
def e_X12_order : List Cond := [.fieldLink RX12 16 "MotionFloorModel" "hall" "LMotionFloorModel$Hall;", .methodLink RX12 44 yX11_reasonOfMove, .instanceMethod yX11_reasonOfMove, .selects RX11 yX11_reasonOfMove yX11_reasonOfMove, .initialized RX11, .fieldLink RX12 52 "MotionFloorModel$Hall" "why" "I", .fieldLink RX12 48 "MotionFloorModel$Hall" "entries" "I"]
def v_X12_order : List Cond := .code yX12_order cX12_order 3 (some .int) :: (e_X12_order ++ (wsX120 ++ (wsX110 ++ (v_X11_reasonOfMove ++ []))))
theorem te_X12_order : GoodIn lw_tbl e_X12_order := wGc z219 (wGc z248 (wGc z124 (wGc z123 (wGc z51 (wGc z247 (wGc z246 (wG0)))))))
theorem t_X12_order : GoodIn lw_tbl v_X12_order := wGc z249 (wGa te_X12_order (wGa zcX12 (wGa zcX11 (wGa t_X11_reasonOfMove (wG0)))))
set_option maxHeartbeats 4000000 in
set_option maxRecDepth 100000 in
theorem c_X12_order (l : Launch) (G : va_G) (K : Nat → ClassId) (m0 : Nat) (gm : Nat → Nat) (h1 : Nat) (g1 : Nat → Nat) (h2 : Nat) (g2 : Nat → Nat) (S0 : MS) (a1 : Int32) (sz : Nat) : Met l yX12_order v_X12_order ({ frames := 3, cells := 0, slots := 0, locals := 68 }) (va_Pc [.ref m0, .int a1] (mSt G K m0 gm h1 g1 h2 g2 sz S0 (p_X12_order S0 a1))) (va_Qi (fun (r : Int32) (u : MS) => (r, u) = f_X12_order S0 a1) (mB G K m0 gm h1 g1 h2 g2 (va_A (mW K m0 gm h1 g1 h2 g2 S0) sz)) (va_A (mW K m0 gm h1 g1 h2 g2 S0) sz)) 0 0 (va_A (mW K m0 gm h1 g1 h2 g2 S0) sz) := by
  refine Met.ofW (cc := cX12_order) (maxL := 3) (ret := (some .int)) (by decide) rfl ?_
  intro p e s m args below meth c s₁ B hml hv
  obtain ⟨rfl, ⟨hsz, hP, hK, hD0, hTE⟩, hp⟩ := hv
  have hx := B.exec
  have hb := B.bytes
  have hr := B.returns
  have hts := atoms_spec (ws := v_X12_order) B.pre
  have t_ := t_X12_order
  have mw : ∀ w ∈ e_X12_order, w ∈ v_X12_order := fun w h => List.mem_cons_of_mem _ (List.mem_append_left _ h)
  have hw := fun w (h : w ∈ e_X12_order) => hts w (mw w h)
  have iX12 : ∀ w ∈ wsX120, w ∈ v_X12_order := fun w h => List.mem_cons_of_mem _ (List.mem_append_right _ (List.mem_append_left _ h))
  have iX11 : ∀ w ∈ wsX110, w ∈ v_X12_order := fun w h => List.mem_cons_of_mem _ (List.mem_append_right _ (List.mem_append_right _ (List.mem_append_left _ h)))
  have j_X11_reasonOfMove : ∀ w ∈ v_X11_reasonOfMove, w ∈ v_X12_order := fun w h => List.mem_cons_of_mem _ (List.mem_append_right _ (List.mem_append_right _ (List.mem_append_right _ (List.mem_append_left _ h))))
  have hown : s.vm.findClass RX12 = some m.cls := findClass_of_methodNamed B.named
  have hlocks := B.notSynchronized
  subst hsz
  have hD := hD0.self (sz := s.heap.size)
  generalize hAe : va_A (mW K m0 gm h1 g1 h2 g2 S0) s.heap.size = A at hD ⊢
  have hA : ∀ q : Nat, s.heap.size ≤ q → A q := fun q h => by rw [← hAe]; exact Or.inr h
  have hS : va_S A s.heap s.heap [] := va_S.rf
  have hl := lv_entry ([.ref m0, .int a1]) (n := 3) (Nat.le_of_ble_eq_true rfl)
  rw [lg_entry_eq]
  generalize (lg_sl ([.ref m0, .int a1]) ++ List.replicate (3 - (lg_sl ([.ref m0, .int a1])).length) Slot.unset).toArray = ls at hl ⊢
  have hl : lv_has ls 3 [(0, .ref m0), (1, .int a1)] := hl
  refine wGen (fun Q hQ => ?_)
  obtain ⟨X, hX⟩ : ∃ X, f_X12_order S0 a1 = X := ⟨_, rfl⟩
  have B_54 : ∀ (S : MS) (x1 x2 y0 : Int32) (H : Heap) (locs : List Loc) (ls : Array Slot), b_X12_order_54 S x1 x2 y0 = X → q_X12_order_54 S x1 x2 y0 → va_P G vwCl (mW K m0 gm h1 g1 h2 g2 S) H → va_D A (mW K m0 gm h1 g1 h2 g2 S) → va_S A s.heap H locs → lv_has ls 3 [(0, .ref m0), (1, .int x1), (2, .int x2)] → W p l e ({ frames := 3, cells := 0, slots := 0, locals := 68 } : Room) s m #[Value.ref m0, Value.int a1] below meth c H locs 0 0 Q (F0 m 54 ls [.int y0]) := by
    intro S x1 x2 y0 H locs ls hE hp hP hD hS hl
    unfold b_X12_order_54 at hE
    unfold q_X12_order_54 at hp
    subst hQ
    exact W.iret (v := y0) hx hb hr (fun t ht hW => ⟨⟨y0, S, rfl, hE.trans hX.symm, by rw [ht]; exact hP, hD⟩, hS.F ht⟩) hS.2.2 dX12_order_54
  have B_36 : ∀ (S : MS) (x1 x2 y0 : Int32) (H : Heap) (locs : List Loc) (ls : Array Slot), b_X12_order_36 S x1 x2 y0 = X → q_X12_order_36 S x1 x2 y0 → va_P G vwCl (mW K m0 gm h1 g1 h2 g2 S) H → va_D A (mW K m0 gm h1 g1 h2 g2 S) → va_S A s.heap H locs → lv_has ls 3 [(0, .ref m0), (1, .int x1), (2, .int x2)] → W p l e ({ frames := 3, cells := 0, slots := 0, locals := 68 } : Room) s m #[Value.ref m0, Value.int a1] below meth c H locs 0 0 Q (F0 m 36 ls [.int y0, .ref h1]) := by
    intro S x1 x2 y0 H locs ls hE hp hP hD hS hl
    unfold b_X12_order_36 at hE
    unfold q_X12_order_36 at hp
    refine va_put (D := G) (ci := 8) (v := .int y0) (ty := .int) (C := RX11) (T := TX11) (N := 42) hx hb hts iX11 tyX11 tyX11_ok nmX11 hown hK hP hD hS 5 rfl rfl 10 (by decide) (hw (.fieldLink RX12 52 "MotionFloorModel$Hall" "why" "I") (List.mem_of_getElem? (i := 5) rfl)) (fun _ h9 => h9) rfl (by decide +kernel) rfl rfl (Nat.le_of_ble_eq_true rfl) dX12_order_36 (fun H locs hP hD hS => ?_)
    rw [mI_h_10] at hP hD
    refine lv_aload_n hx hb dX12_order_39 rfl (lv_at hl 0 rfl) ?_
    refine va_get (D := G) (ci := 9) (v := .ref h1) (C := RX12) (T := TX12) (N := 7) hx hb hts iX12 hown hK hP 0 rfl rfl 0 (by decide) (hw (.fieldLink RX12 16 "MotionFloorModel" "hall" "LMotionFloorModel$Hall;") (List.mem_of_getElem? (i := 0) rfl)) (fun _ h9 => h9) rfl dX12_order_40 ?_
    refine va_get (D := G) (ci := 8) (v := .int (((mH S (sI S.2.1 10 y0)).2.1).1 10)) (C := RX11) (T := TX11) (N := 42) hx hb hts iX11 hown hK hP 5 rfl rfl 10 (by decide) (hw (.fieldLink RX12 52 "MotionFloorModel$Hall" "why" "I") (List.mem_of_getElem? (i := 5) rfl)) (fun _ h9 => h9) rfl dX12_order_43 ?_
    refine lv_if_ne (tgt := 53) hx hb dX12_order_46 (by decide) (fun c5 => ?_) (fun c5 => ?_)
    · rw [if_neg c5] at hE hp
      refine lv_iconst (v := 0) hx hb dX12_order_53 (by decide) ?_
      exact B_54 (mH S (sI S.2.1 10 y0)) x1 x2 0 _ _ _ hE hp hP hD hS (lv_sub hl [0, 1, 2] rfl)
    · rw [if_pos c5] at hE hp
      refine lv_iconst (v := 1) hx hb dX12_order_49 (by decide) ?_
      refine lv_goto (tgt := 54) hx hb dX12_order_50 (by decide) ?_
      exact B_54 (mH S (sI S.2.1 10 y0)) x1 x2 1 _ _ _ hE hp hP hD hS (lv_sub hl [0, 1, 2] rfl)
  have B_35 : ∀ (S : MS) (x1 x2 : Int32) (H : Heap) (locs : List Loc) (ls : Array Slot), b_X12_order_35 S x1 x2 = X → q_X12_order_35 S x1 x2 → va_P G vwCl (mW K m0 gm h1 g1 h2 g2 S) H → va_D A (mW K m0 gm h1 g1 h2 g2 S) → va_S A s.heap H locs → lv_has ls 3 [(0, .ref m0), (1, .int x1), (2, .int x2)] → W p l e ({ frames := 3, cells := 0, slots := 0, locals := 68 } : Room) s m #[Value.ref m0, Value.int a1] below meth c H locs 0 0 Q (F0 m 35 ls [.ref h1]) := by
    intro S x1 x2 H locs ls hE hp hP hD hS hl
    unfold b_X12_order_35 at hE
    unfold q_X12_order_35 at hp
    refine lv_iload_n hx hb dX12_order_35 rfl (lv_at hl 2 rfl) ?_
    exact B_36 S x1 x2 x2 _ _ _ hE hp hP hD hS (lv_sub hl [0, 1, 2] rfl)
  have B_M : ∀ (S : MS) (x1 : Int32) (H : Heap) (locs : List Loc) (ls : Array Slot), f_X12_order S x1 = X → p_X12_order S x1 → va_P G vwCl (mW K m0 gm h1 g1 h2 g2 S) H → va_D A (mW K m0 gm h1 g1 h2 g2 S) → va_S A s.heap H locs → lv_has ls 3 [(0, .ref m0), (1, .int x1)] → W p l e ({ frames := 3, cells := 0, slots := 0, locals := 68 } : Room) s m #[Value.ref m0, Value.int a1] below meth c H locs 0 0 Q (F0 m 0 ls []) := by
    intro S x1 H locs ls hE hp hP hD hS hl
    unfold f_X12_order at hE
    unfold p_X12_order at hp
    refine lv_aload_n hx hb dX12_order_0 rfl (lv_at hl 0 rfl) ?_
    refine va_get (D := G) (ci := 9) (v := .ref h1) (C := RX12) (T := TX12) (N := 7) hx hb hts iX12 hown hK hP 0 rfl rfl 0 (by decide) (hw (.fieldLink RX12 16 "MotionFloorModel" "hall" "LMotionFloorModel$Hall;") (List.mem_of_getElem? (i := 0) rfl)) (fun _ h9 => h9) rfl dX12_order_1 ?_
    refine lv_iload_n hx hb dX12_order_4 rfl (lv_at hl 1 rfl) ?_
    obtain ⟨hy1, hp⟩ := hp
    refine mGoi_h (va_runV (As := [.int x1]) (rest := []) ⟨hx, hb, hml, hown, hts⟩ (c_X11_reasonOfMove l G K h1 g1 S.2.1 x1 _) (cwV 1 hts (wGV t_ (mw (.methodLink RX12 44 yX11_reasonOfMove) (List.mem_of_getElem? (i := 1) rfl)) (mw (.instanceMethod yX11_reasonOfMove) (List.mem_of_getElem? (i := 2) rfl)) (mw (.selects RX11 yX11_reasonOfMove yX11_reasonOfMove) (List.mem_of_getElem? (i := 3) rfl)) (mw (.initialized RX11) (List.mem_of_getElem? (i := 4) rfl)) j_X11_reasonOfMove) rfl rfl rfl (by decide +kernel) ⟨Nat.le_of_ble_eq_true rfl, Nat.le_of_ble_eq_true rfl⟩) (hPV hK hTE (mP_h hP) (mD_h hD) hy1) rfl rfl hl.1 rfl (lv_room (Nat.le_of_ble_eq_true rfl)) dX12_order_5 ⟨Nat.le_of_ble_eq_true rfl, Nat.le_of_ble_eq_true rfl⟩) hP hD hS hA (fun r3 u2 H locs hv hP hD hS => ?_)
    rw [← hv] at hE hp
    dsimp only at hE hp
    unfold b_X12_order_a8 at hE
    unfold q_X12_order_a8 at hp
    refine lv_istore_n (lv' := [(2, .int r3), (0, .ref m0), (1, .int x1)]) hx hb dX12_order_8 rfl hl (by decide) rfl (fun ls hl => ?_)
    refine lv_aload_n hx hb dX12_order_9 rfl (lv_at hl 1 rfl) ?_
    refine va_get (D := G) (ci := 9) (v := .ref h1) (C := RX12) (T := TX12) (N := 7) hx hb hts iX12 hown hK hP 0 rfl rfl 0 (by decide) (hw (.fieldLink RX12 16 "MotionFloorModel" "hall" "LMotionFloorModel$Hall;") (List.mem_of_getElem? (i := 0) rfl)) (fun _ h9 => h9) rfl dX12_order_10 ?_
    refine lv_iload_n hx hb dX12_order_13 rfl (lv_at hl 0 rfl) ?_
    refine lv_if_ne (tgt := 35) hx hb dX12_order_14 (by decide) (fun c4 => ?_) (fun c4 => ?_)
    · rw [if_neg c4] at hE hp
      exact B_35 (mH S u2) x1 r3 _ _ _ hE hp hP hD hS (lv_sub hl [1, 2, 0] rfl)
    · rw [if_pos c4] at hE hp
      refine lv_aload_n hx hb dX12_order_17 rfl (lv_at hl 1 rfl) ?_
      refine va_get (D := G) (ci := 9) (v := .ref h1) (C := RX12) (T := TX12) (N := 7) hx hb hts iX12 hown hK hP 0 rfl rfl 0 (by decide) (hw (.fieldLink RX12 16 "MotionFloorModel" "hall" "LMotionFloorModel$Hall;") (List.mem_of_getElem? (i := 0) rfl)) (fun _ h9 => h9) rfl dX12_order_18 ?_
      refine va_get (D := G) (ci := 8) (v := .int (((mH S u2).2.1).1 7)) (C := RX11) (T := TX11) (N := 42) hx hb hts iX11 hown hK hP 5 rfl rfl 7 (by decide) (hw (.fieldLink RX12 48 "MotionFloorModel$Hall" "entries" "I") (List.mem_of_getElem? (i := 6) rfl)) (fun _ h9 => h9) rfl dX12_order_21 ?_
      refine lv_sipush (v := 600) hx hb dX12_order_24 (by decide) ?_
      refine lv_icmp_ne (tgt := 35) hx hb dX12_order_27 (by decide) (fun c6 => ?_) (fun c6 => ?_)
      · rw [if_neg c6] at hE hp
        exact B_35 (mH S u2) x1 r3 _ _ _ hE hp hP hD hS (lv_sub hl [1, 2, 0] rfl)
      · rw [if_pos c6] at hE hp
        refine lv_bipush (v := 10) hx hb dX12_order_30 (by decide) ?_
        refine lv_goto (tgt := 36) hx hb dX12_order_32 (by decide) ?_
        exact B_36 (mH S u2) x1 r3 10 _ _ _ hE hp hP hD hS (lv_sub hl [1, 2, 0] rfl)
  exact B_M S0 a1 _ _ _ hX hp hP hD hS hl
theorem gdX12_why_0 : ckS (List.drop 0 cX12_why.data.toList) 0 [(0, .aload_n 0, 1), (1, .getfield 16, 3), (4, .getfield 52, 3), (7, .ireturn, 1)] = true := by decide +kernel
theorem dX12_why_0 : decode cX12_why 0 = .ok (.aload_n 0, 1) := ckS_g gdX12_why_0 0 rfl
theorem dX12_why_1 : decode cX12_why 1 = .ok (.getfield 16, 3) := ckS_g gdX12_why_0 1 rfl
theorem dX12_why_4 : decode cX12_why 4 = .ok (.getfield 52, 3) := ckS_g gdX12_why_0 2 rfl
theorem dX12_why_7 : decode cX12_why 7 = .ok (.ireturn, 1) := ckS_g gdX12_why_0 3 rfl
set_option maxRecDepth 100000 in
theorem z250 : wZ (.code yX12_why cX12_why 1 (some .int)) := ⟨wT6 (List.mem_of_getElem? (i := 208) rfl), Or.inl rfl⟩
def f_X12_why (S : MS)  : Int32 × MS := ((S.2.1.1 10), S)
def p_X12_why (S : MS)  : Prop := True
def e_X12_why : List Cond := [.fieldLink RX12 16 "MotionFloorModel" "hall" "LMotionFloorModel$Hall;", .fieldLink RX12 52 "MotionFloorModel$Hall" "why" "I"]
def v_X12_why : List Cond := .code yX12_why cX12_why 1 (some .int) :: (e_X12_why ++ (wsX120 ++ (wsX110 ++ [])))
theorem te_X12_why : GoodIn lw_tbl e_X12_why := wGc z219 (wGc z247 (wG0))
theorem t_X12_why : GoodIn lw_tbl v_X12_why := wGc z250 (wGa te_X12_why (wGa zcX12 (wGa zcX11 (wG0))))
set_option maxHeartbeats 4000000 in
set_option maxRecDepth 100000 in
theorem c_X12_why (l : Launch) (G : va_G) (K : Nat → ClassId) (m0 : Nat) (gm : Nat → Nat) (h1 : Nat) (g1 : Nat → Nat) (h2 : Nat) (g2 : Nat → Nat) (S0 : MS)  (sz : Nat) : Met l yX12_why v_X12_why ({ frames := 0, cells := 0, slots := 0, locals := 0 }) (va_Pc [.ref m0] (mSt G K m0 gm h1 g1 h2 g2 sz S0 (p_X12_why S0))) (va_Qi (fun (r : Int32) (u : MS) => (r, u) = f_X12_why S0) (mB G K m0 gm h1 g1 h2 g2 (va_A (mW K m0 gm h1 g1 h2 g2 S0) sz)) (va_A (mW K m0 gm h1 g1 h2 g2 S0) sz)) 0 0 (va_A (mW K m0 gm h1 g1 h2 g2 S0) sz) := by
  refine Met.ofW (cc := cX12_why) (maxL := 1) (ret := (some .int)) (by decide) rfl ?_
  intro p e s m args below meth c s₁ B hml hv
  obtain ⟨rfl, ⟨hsz, hP, hK, hD0, hTE⟩, hp⟩ := hv
  have hx := B.exec
  have hb := B.bytes
  have hr := B.returns
  have hts := atoms_spec (ws := v_X12_why) B.pre
  have t_ := t_X12_why
  have mw : ∀ w ∈ e_X12_why, w ∈ v_X12_why := fun w h => List.mem_cons_of_mem _ (List.mem_append_left _ h)
  have hw := fun w (h : w ∈ e_X12_why) => hts w (mw w h)
  have iX12 : ∀ w ∈ wsX120, w ∈ v_X12_why := fun w h => List.mem_cons_of_mem _ (List.mem_append_right _ (List.mem_append_left _ h))
  have iX11 : ∀ w ∈ wsX110, w ∈ v_X12_why := fun w h => List.mem_cons_of_mem _ (List.mem_append_right _ (List.mem_append_right _ (List.mem_append_left _ h)))
  have hown : s.vm.findClass RX12 = some m.cls := findClass_of_methodNamed B.named
  have hlocks := B.notSynchronized
  subst hsz
  have hD := hD0.self (sz := s.heap.size)
  generalize hAe : va_A (mW K m0 gm h1 g1 h2 g2 S0) s.heap.size = A at hD ⊢
  have hA : ∀ q : Nat, s.heap.size ≤ q → A q := fun q h => by rw [← hAe]; exact Or.inr h
  have hS : va_S A s.heap s.heap [] := va_S.rf
  have hl := lv_entry ([.ref m0]) (n := 1) (Nat.le_of_ble_eq_true rfl)
  rw [lg_entry_eq]
  generalize (lg_sl ([.ref m0]) ++ List.replicate (1 - (lg_sl ([.ref m0])).length) Slot.unset).toArray = ls at hl ⊢
  have hl : lv_has ls 1 [(0, .ref m0)] := hl
  refine wGen (fun Q hQ => ?_)
  obtain ⟨X, hX⟩ : ∃ X, f_X12_why S0 = X := ⟨_, rfl⟩
  have B_M : ∀ (S : MS) (H : Heap) (locs : List Loc) (ls : Array Slot), f_X12_why S = X → p_X12_why S → va_P G vwCl (mW K m0 gm h1 g1 h2 g2 S) H → va_D A (mW K m0 gm h1 g1 h2 g2 S) → va_S A s.heap H locs → lv_has ls 1 [(0, .ref m0)] → W p l e ({ frames := 0, cells := 0, slots := 0, locals := 0 } : Room) s m #[Value.ref m0] below meth c H locs 0 0 Q (F0 m 0 ls []) := by
    intro S H locs ls hE hp hP hD hS hl
    unfold f_X12_why at hE
    unfold p_X12_why at hp
    refine lv_aload_n hx hb dX12_why_0 rfl (lv_at hl 0 rfl) ?_
    refine va_get (D := G) (ci := 9) (v := .ref h1) (C := RX12) (T := TX12) (N := 7) hx hb hts iX12 hown hK hP 0 rfl rfl 0 (by decide) (hw (.fieldLink RX12 16 "MotionFloorModel" "hall" "LMotionFloorModel$Hall;") (List.mem_of_getElem? (i := 0) rfl)) (fun _ h9 => h9) rfl dX12_why_1 ?_
    refine va_get (D := G) (ci := 8) (v := .int (S.2.1.1 10)) (C := RX11) (T := TX11) (N := 42) hx hb hts iX11 hown hK hP 5 rfl rfl 10 (by decide) (hw (.fieldLink RX12 52 "MotionFloorModel$Hall" "why" "I") (List.mem_of_getElem? (i := 1) rfl)) (fun _ h9 => h9) rfl dX12_why_4 ?_
    subst hQ
    exact W.iret (v := (S.2.1.1 10)) hx hb hr (fun t ht hW => ⟨⟨(S.2.1.1 10), S, rfl, hE.trans hX.symm, by rw [ht]; exact hP, hD⟩, hS.F ht⟩) hS.2.2 dX12_why_7
  exact B_M S0 _ _ _ hX hp hP hD hS hl
theorem dX12_pending_30 : decode cX12_pending 30 = .ok (.tableswitch 161 0 9 #[54, 64, 74, 84, 94, 104, 114, 124, 134, 152], 54) := by decide +kernel
theorem gdX12_pending_0 : ckS (List.drop 0 cX12_pending.data.toList) 0 [(0, .iload_n 1, 1), (1, .iconst 0, 1), (2, .aload_n 0, 1), (3, .getfield 16, 3), (6, .getfield 55, 3), (9, .iconst 1, 1), (10, .isub, 1), (11, .invokestatic 1, 3), (14, .ifCond .ne 5, 3), (17, .iconst (-1), 1), (18, .ireturn, 1), (19, .aload_n 0, 1), (20, .getfield 16, 3), (23, .getfield 58, 3), (26, .iload_n 1, 1), (27, .iaload, 1), (28, .istore_n 3, 1), (29, .iload_n 2, 1), (84, .aload_n 0, 1), (85, .getfield 16, 3), (88, .getfield 61, 3), (91, .iload_n 3, 1), (92, .iaload, 1), (93, .ireturn, 1), (94, .aload_n 0, 1), (95, .getfield 16, 3), (98, .getfield 64, 3), (101, .iload_n 3, 1), (102, .iaload, 1), (103, .ireturn, 1), (104, .aload_n 0, 1), (105, .getfield 16, 3), (108, .getfield 67, 3), (111, .iload_n 3, 1), (112, .iaload, 1), (113, .ireturn, 1), (114, .aload_n 0, 1), (115, .getfield 16, 3), (118, .getfield 70, 3), (121, .iload_n 3, 1)] = true := by decide +kernel
theorem dX12_pending_0 : decode cX12_pending 0 = .ok (.iload_n 1, 1) := ckS_g gdX12_pending_0 0 rfl
theorem dX12_pending_1 : decode cX12_pending 1 = .ok (.iconst 0, 1) := ckS_g gdX12_pending_0 1 rfl
theorem dX12_pending_2 : decode cX12_pending 2 = .ok (.aload_n 0, 1) := ckS_g gdX12_pending_0 2 rfl
theorem dX12_pending_3 : decode cX12_pending 3 = .ok (.getfield 16, 3) := ckS_g gdX12_pending_0 3 rfl
theorem dX12_pending_6 : decode cX12_pending 6 = .ok (.getfield 55, 3) := ckS_g gdX12_pending_0 4 rfl
theorem dX12_pending_9 : decode cX12_pending 9 = .ok (.iconst 1, 1) := ckS_g gdX12_pending_0 5 rfl
theorem dX12_pending_10 : decode cX12_pending 10 = .ok (.isub, 1) := ckS_g gdX12_pending_0 6 rfl
theorem dX12_pending_11 : decode cX12_pending 11 = .ok (.invokestatic 1, 3) := ckS_g gdX12_pending_0 7 rfl
theorem dX12_pending_14 : decode cX12_pending 14 = .ok (.ifCond .ne 5, 3) := ckS_g gdX12_pending_0 8 rfl
theorem dX12_pending_17 : decode cX12_pending 17 = .ok (.iconst (-1), 1) := ckS_g gdX12_pending_0 9 rfl
theorem dX12_pending_18 : decode cX12_pending 18 = .ok (.ireturn, 1) := ckS_g gdX12_pending_0 10 rfl
theorem dX12_pending_19 : decode cX12_pending 19 = .ok (.aload_n 0, 1) := ckS_g gdX12_pending_0 11 rfl
theorem dX12_pending_20 : decode cX12_pending 20 = .ok (.getfield 16, 3) := ckS_g gdX12_pending_0 12 rfl
theorem dX12_pending_23 : decode cX12_pending 23 = .ok (.getfield 58, 3) := ckS_g gdX12_pending_0 13 rfl
theorem dX12_pending_26 : decode cX12_pending 26 = .ok (.iload_n 1, 1) := ckS_g gdX12_pending_0 14 rfl
theorem dX12_pending_27 : decode cX12_pending 27 = .ok (.iaload, 1) := ckS_g gdX12_pending_0 15 rfl
theorem dX12_pending_28 : decode cX12_pending 28 = .ok (.istore_n 3, 1) := ckS_g gdX12_pending_0 16 rfl
theorem dX12_pending_29 : decode cX12_pending 29 = .ok (.iload_n 2, 1) := ckS_g gdX12_pending_0 17 rfl
theorem dX12_pending_84 : decode cX12_pending 84 = .ok (.aload_n 0, 1) := ckS_g gdX12_pending_0 18 rfl
theorem dX12_pending_85 : decode cX12_pending 85 = .ok (.getfield 16, 3) := ckS_g gdX12_pending_0 19 rfl
theorem dX12_pending_88 : decode cX12_pending 88 = .ok (.getfield 61, 3) := ckS_g gdX12_pending_0 20 rfl
theorem dX12_pending_91 : decode cX12_pending 91 = .ok (.iload_n 3, 1) := ckS_g gdX12_pending_0 21 rfl
theorem dX12_pending_92 : decode cX12_pending 92 = .ok (.iaload, 1) := ckS_g gdX12_pending_0 22 rfl
theorem dX12_pending_93 : decode cX12_pending 93 = .ok (.ireturn, 1) := ckS_g gdX12_pending_0 23 rfl
theorem dX12_pending_94 : decode cX12_pending 94 = .ok (.aload_n 0, 1) := ckS_g gdX12_pending_0 24 rfl
theorem dX12_pending_95 : decode cX12_pending 95 = .ok (.getfield 16, 3) := ckS_g gdX12_pending_0 25 rfl
theorem dX12_pending_98 : decode cX12_pending 98 = .ok (.getfield 64, 3) := ckS_g gdX12_pending_0 26 rfl
theorem dX12_pending_101 : decode cX12_pending 101 = .ok (.iload_n 3, 1) := ckS_g gdX12_pending_0 27 rfl
theorem dX12_pending_102 : decode cX12_pending 102 = .ok (.iaload, 1) := ckS_g gdX12_pending_0 28 rfl
theorem dX12_pending_103 : decode cX12_pending 103 = .ok (.ireturn, 1) := ckS_g gdX12_pending_0 29 rfl
theorem dX12_pending_104 : decode cX12_pending 104 = .ok (.aload_n 0, 1) := ckS_g gdX12_pending_0 30 rfl
theorem dX12_pending_105 : decode cX12_pending 105 = .ok (.getfield 16, 3) := ckS_g gdX12_pending_0 31 rfl
theorem dX12_pending_108 : decode cX12_pending 108 = .ok (.getfield 67, 3) := ckS_g gdX12_pending_0 32 rfl
theorem dX12_pending_111 : decode cX12_pending 111 = .ok (.iload_n 3, 1) := ckS_g gdX12_pending_0 33 rfl
theorem dX12_pending_112 : decode cX12_pending 112 = .ok (.iaload, 1) := ckS_g gdX12_pending_0 34 rfl
theorem dX12_pending_113 : decode cX12_pending 113 = .ok (.ireturn, 1) := ckS_g gdX12_pending_0 35 rfl
theorem dX12_pending_114 : decode cX12_pending 114 = .ok (.aload_n 0, 1) := ckS_g gdX12_pending_0 36 rfl
theorem dX12_pending_115 : decode cX12_pending 115 = .ok (.getfield 16, 3) := ckS_g gdX12_pending_0 37 rfl
theorem dX12_pending_118 : decode cX12_pending 118 = .ok (.getfield 70, 3) := ckS_g gdX12_pending_0 38 rfl
theorem dX12_pending_121 : decode cX12_pending 121 = .ok (.iload_n 3, 1) := ckS_g gdX12_pending_0 39 rfl
theorem gdX12_pending_122 : ckS (List.drop 122 cX12_pending.data.toList) 122 [(122, .iaload, 1), (123, .ireturn, 1), (124, .aload_n 0, 1), (125, .getfield 16, 3), (128, .getfield 73, 3), (131, .iload_n 3, 1), (132, .iaload, 1), (133, .ireturn, 1), (134, .aload_n 0, 1), (135, .getfield 16, 3), (138, .getfield 76, 3), (141, .iload_n 3, 1), (142, .iaload, 1), (143, .ireturn, 1), (144, .aload_n 0, 1), (145, .getfield 16, 3), (148, .getfield 79, 3), (151, .iload_n 3, 1), (152, .iaload, 1), (153, .ireturn, 1), (154, .aload_n 0, 1), (155, .getfield 16, 3), (158, .getfield 82, 3), (161, .iload_n 3, 1), (162, .iaload, 1), (163, .ireturn, 1), (164, .aload_n 0, 1), (165, .getfield 16, 3), (168, .getfield 85, 3), (171, .iload_n 3, 1), (172, .baload, 1), (173, .ifCond .eq 7, 3), (176, .iconst 1, 1), (177, .goto 4, 3), (180, .iconst 0, 1), (181, .ireturn, 1), (182, .aload_n 0, 1), (183, .getfield 16, 3), (186, .iload_n 3, 1), (187, .invokevirtual 89, 3)] = true := by decide +kernel
theorem dX12_pending_122 : decode cX12_pending 122 = .ok (.iaload, 1) := ckS_g gdX12_pending_122 0 rfl
theorem dX12_pending_123 : decode cX12_pending 123 = .ok (.ireturn, 1) := ckS_g gdX12_pending_122 1 rfl
theorem dX12_pending_124 : decode cX12_pending 124 = .ok (.aload_n 0, 1) := ckS_g gdX12_pending_122 2 rfl
theorem dX12_pending_125 : decode cX12_pending 125 = .ok (.getfield 16, 3) := ckS_g gdX12_pending_122 3 rfl
theorem dX12_pending_128 : decode cX12_pending 128 = .ok (.getfield 73, 3) := ckS_g gdX12_pending_122 4 rfl
theorem dX12_pending_131 : decode cX12_pending 131 = .ok (.iload_n 3, 1) := ckS_g gdX12_pending_122 5 rfl
theorem dX12_pending_132 : decode cX12_pending 132 = .ok (.iaload, 1) := ckS_g gdX12_pending_122 6 rfl
theorem dX12_pending_133 : decode cX12_pending 133 = .ok (.ireturn, 1) := ckS_g gdX12_pending_122 7 rfl
theorem dX12_pending_134 : decode cX12_pending 134 = .ok (.aload_n 0, 1) := ckS_g gdX12_pending_122 8 rfl
theorem dX12_pending_135 : decode cX12_pending 135 = .ok (.getfield 16, 3) := ckS_g gdX12_pending_122 9 rfl
theorem dX12_pending_138 : decode cX12_pending 138 = .ok (.getfield 76, 3) := ckS_g gdX12_pending_122 10 rfl
theorem dX12_pending_141 : decode cX12_pending 141 = .ok (.iload_n 3, 1) := ckS_g gdX12_pending_122 11 rfl
theorem dX12_pending_142 : decode cX12_pending 142 = .ok (.iaload, 1) := ckS_g gdX12_pending_122 12 rfl
theorem dX12_pending_143 : decode cX12_pending 143 = .ok (.ireturn, 1) := ckS_g gdX12_pending_122 13 rfl
theorem dX12_pending_144 : decode cX12_pending 144 = .ok (.aload_n 0, 1) := ckS_g gdX12_pending_122 14 rfl
theorem dX12_pending_145 : decode cX12_pending 145 = .ok (.getfield 16, 3) := ckS_g gdX12_pending_122 15 rfl
theorem dX12_pending_148 : decode cX12_pending 148 = .ok (.getfield 79, 3) := ckS_g gdX12_pending_122 16 rfl
theorem dX12_pending_151 : decode cX12_pending 151 = .ok (.iload_n 3, 1) := ckS_g gdX12_pending_122 17 rfl
theorem dX12_pending_152 : decode cX12_pending 152 = .ok (.iaload, 1) := ckS_g gdX12_pending_122 18 rfl
theorem dX12_pending_153 : decode cX12_pending 153 = .ok (.ireturn, 1) := ckS_g gdX12_pending_122 19 rfl
theorem dX12_pending_154 : decode cX12_pending 154 = .ok (.aload_n 0, 1) := ckS_g gdX12_pending_122 20 rfl
theorem dX12_pending_155 : decode cX12_pending 155 = .ok (.getfield 16, 3) := ckS_g gdX12_pending_122 21 rfl
theorem dX12_pending_158 : decode cX12_pending 158 = .ok (.getfield 82, 3) := ckS_g gdX12_pending_122 22 rfl
theorem dX12_pending_161 : decode cX12_pending 161 = .ok (.iload_n 3, 1) := ckS_g gdX12_pending_122 23 rfl
theorem dX12_pending_162 : decode cX12_pending 162 = .ok (.iaload, 1) := ckS_g gdX12_pending_122 24 rfl
theorem dX12_pending_163 : decode cX12_pending 163 = .ok (.ireturn, 1) := ckS_g gdX12_pending_122 25 rfl
theorem dX12_pending_164 : decode cX12_pending 164 = .ok (.aload_n 0, 1) := ckS_g gdX12_pending_122 26 rfl
theorem dX12_pending_165 : decode cX12_pending 165 = .ok (.getfield 16, 3) := ckS_g gdX12_pending_122 27 rfl
theorem dX12_pending_168 : decode cX12_pending 168 = .ok (.getfield 85, 3) := ckS_g gdX12_pending_122 28 rfl
theorem dX12_pending_171 : decode cX12_pending 171 = .ok (.iload_n 3, 1) := ckS_g gdX12_pending_122 29 rfl
theorem dX12_pending_172 : decode cX12_pending 172 = .ok (.baload, 1) := ckS_g gdX12_pending_122 30 rfl
theorem dX12_pending_173 : decode cX12_pending 173 = .ok (.ifCond .eq 7, 3) := ckS_g gdX12_pending_122 31 rfl
theorem dX12_pending_176 : decode cX12_pending 176 = .ok (.iconst 1, 1) := ckS_g gdX12_pending_122 32 rfl
theorem dX12_pending_177 : decode cX12_pending 177 = .ok (.goto 4, 3) := ckS_g gdX12_pending_122 33 rfl
theorem dX12_pending_180 : decode cX12_pending 180 = .ok (.iconst 0, 1) := ckS_g gdX12_pending_122 34 rfl
theorem dX12_pending_181 : decode cX12_pending 181 = .ok (.ireturn, 1) := ckS_g gdX12_pending_122 35 rfl
theorem dX12_pending_182 : decode cX12_pending 182 = .ok (.aload_n 0, 1) := ckS_g gdX12_pending_122 36 rfl
theorem dX12_pending_183 : decode cX12_pending 183 = .ok (.getfield 16, 3) := ckS_g gdX12_pending_122 37 rfl
theorem dX12_pending_186 : decode cX12_pending 186 = .ok (.iload_n 3, 1) := ckS_g gdX12_pending_122 38 rfl
theorem dX12_pending_187 : decode cX12_pending 187 = .ok (.invokevirtual 89, 3) := ckS_g gdX12_pending_122 39 rfl
theorem gdX12_pending_190 : ckS (List.drop 190 cX12_pending.data.toList) 190 [(190, .ireturn, 1), (191, .iconst (-1), 1), (192, .ireturn, 1)] = true := by decide +kernel
theorem dX12_pending_190 : decode cX12_pending 190 = .ok (.ireturn, 1) := ckS_g gdX12_pending_190 0 rfl
theorem dX12_pending_191 : decode cX12_pending 191 = .ok (.iconst (-1), 1) := ckS_g gdX12_pending_190 1 rfl
theorem dX12_pending_192 : decode cX12_pending 192 = .ok (.ireturn, 1) := ckS_g gdX12_pending_190 2 rfl
set_option maxRecDepth 100000 in
theorem z251 : wZ (.methodLink RX12 89 yX11_voters) := ⟨wT6 (List.mem_of_getElem? (i := 213) (by decide +kernel)), Or.inl rfl⟩
set_option maxRecDepth 100000 in
theorem z252 : wZ (.fieldLink RX12 85 "MotionFloorModel$Hall" "closed" "[Z") := ⟨wT5 (List.mem_of_getElem? (i := 79) (by decide +kernel)), Or.inl rfl⟩
set_option maxRecDepth 100000 in
theorem z253 : wZ (.fieldLink RX12 82 "MotionFloorModel$Hall" "speeches" "[I") := ⟨wT5 (List.mem_of_getElem? (i := 69) (by decide +kernel)), Or.inl rfl⟩
set_option maxRecDepth 100000 in
theorem z254 : wZ (.fieldLink RX12 79 "MotionFloorModel$Hall" "floors" "[I") := ⟨wT5 (List.mem_of_getElem? (i := 67) (by decide +kernel)), Or.inl rfl⟩
set_option maxRecDepth 100000 in
theorem z255 : wZ (.fieldLink RX12 76 "MotionFloorModel$Hall" "to" "[I") := ⟨wT5 (List.mem_of_getElem? (i := 75) (by decide +kernel)), Or.inl rfl⟩
set_option maxRecDepth 100000 in
theorem z256 : wZ (.fieldLink RX12 73 "MotionFloorModel$Hall" "from" "[I") := ⟨wT5 (List.mem_of_getElem? (i := 73) (by decide +kernel)), Or.inl rfl⟩
set_option maxRecDepth 100000 in
theorem z257 : wZ (.fieldLink RX12 70 "MotionFloorModel$Hall" "words" "[I") := ⟨wT5 (List.mem_of_getElem? (i := 71) (by decide +kernel)), Or.inl rfl⟩
set_option maxRecDepth 100000 in
theorem z258 : wZ (.fieldLink RX12 67 "MotionFloorModel$Hall" "seconder" "[I") := ⟨wT5 (List.mem_of_getElem? (i := 65) (by decide +kernel)), Or.inl rfl⟩
set_option maxRecDepth 100000 in
theorem z259 : wZ (.fieldLink RX12 64 "MotionFloorModel$Hall" "mover" "[I") := ⟨wT5 (List.mem_of_getElem? (i := 63) (by decide +kernel)), Or.inl rfl⟩
set_option maxRecDepth 100000 in
theorem z260 : wZ (.fieldLink RX12 61 "MotionFloorModel$Hall" "kind" "[I") := ⟨wT5 (List.mem_of_getElem? (i := 61) (by decide +kernel)), Or.inl rfl⟩
set_option maxRecDepth 100000 in
theorem z261 : wZ (.fieldLink RX12 58 "MotionFloorModel$Hall" "row" "[I") := ⟨wT5 (List.mem_of_getElem? (i := 91) (by decide +kernel)), Or.inl rfl⟩
set_option maxRecDepth 100000 in
theorem z262 : wZ (.fieldLink RX12 55 "MotionFloorModel$Hall" "pending" "I") := ⟨wT5 (List.mem_of_getElem? (i := 47) (by decide +kernel)), Or.inl rfl⟩
set_option maxRecDepth 100000 in
theorem z263 : wZ (.code yX12_pending cX12_pending 4 (some .int)) := ⟨wT6 (List.mem_of_getElem? (i := 212) rfl), Or.inl rfl⟩
def b_X12_pending_181 (S : MS) (x1 x2 x3 y0 : Int32) : Int32 × MS := (y0, S)
def q_X12_pending_181 (S : MS) (x1 x2 x3 y0 : Int32) : Prop := True
def b_X12_pending_a190 (S : MS) (x1 x2 x3 y0 : Int32) : Int32 × MS := (y0, S)
def q_X12_pending_a190 (S : MS) (x1 x2 x3 y0 : Int32) : Prop := True
def f_X12_pending (S : MS) (x1 x2 : Int32) : Int32 × MS := if (f_X12_in x1 0 ((S.2.1.1 6) - 1)) = 0 then ((-1), S) else if x2 = 0 then ((S.2.1.2 14 (S.2.1.2 31 x1.toNatClampNeg).toNatClampNeg), S) else if x2 = 1 then ((S.2.1.2 15 (S.2.1.2 31 x1.toNatClampNeg).toNatClampNeg), S) else if x2 = 2 then ((S.2.1.2 16 (S.2.1.2 31 x1.toNatClampNeg).toNatClampNeg), S) else if x2 = 3 then ((S.2.1.2 19 (S.2.1.2 31 x1.toNatClampNeg).toNatClampNeg), S) else if x2 = 4 then ((S.2.1.2 20 (S.2.1.2 31 x1.toNatClampNeg).toNatClampNeg), S) else if x2 = 5 then ((S.2.1.2 21 (S.2.1.2 31 x1.toNatClampNeg).toNatClampNeg), S) else if x2 = 6 then ((S.2.1.2 17 (S.2.1.2 31 x1.toNatClampNeg).toNatClampNeg), S) else if x2 = 7 then ((S.2.1.2 18 (S.2.1.2 31 x1.toNatClampNeg).toNatClampNeg), S) else if x2 = 8 then if (S.2.1.2 24 (S.2.1.2 31 x1.toNatClampNeg).toNatClampNeg) = 0 then (b_X12_pending_181 S x1 x2 (S.2.1.2 31 x1.toNatClampNeg) 0) else (b_X12_pending_181 S x1 x2 (S.2.1.2 31 x1.toNatClampNeg) 1) else if x2 = 9 then (b_X12_pending_a190 (mH S ((f_X11_voters S.2.1 (S.2.1.2 31 x1.toNatClampNeg)).2)) x1 x2 (S.2.1.2 31 x1.toNatClampNeg) (f_X11_voters S.2.1 (S.2.1.2 31 x1.toNatClampNeg)).1) else ((-1), S)
def p_X12_pending (S : MS) (x1 x2 : Int32) : Prop := (p_X12_in x1 0 ((S.2.1.1 6) - 1)) ∧ (if (f_X12_in x1 0 ((S.2.1.1 6) - 1)) = 0 then True else (vp_in x1 9) ∧ (if x2 = 0 then (vp_in (S.2.1.2 31 x1.toNatClampNeg) 90) ∧ True else (if x2 = 1 then (vp_in (S.2.1.2 31 x1.toNatClampNeg) 90) ∧ True else (if x2 = 2 then (vp_in (S.2.1.2 31 x1.toNatClampNeg) 90) ∧ True else (if x2 = 3 then (vp_in (S.2.1.2 31 x1.toNatClampNeg) 90) ∧ True else (if x2 = 4 then (vp_in (S.2.1.2 31 x1.toNatClampNeg) 90) ∧ True else (if x2 = 5 then (vp_in (S.2.1.2 31 x1.toNatClampNeg) 90) ∧ True else (if x2 = 6 then (vp_in (S.2.1.2 31 x1.toNatClampNeg) 90) ∧ True else (if x2 = 7 then (vp_in (S.2.1.2 31 x1.toNatClampNeg) 90) ∧ True else (if x2 = 8 then (vp_in (S.2.1.2 31 x1.toNatClampNeg) 90) ∧ (if (S.2.1.2 24 (S.2.1.2 31 x1.toNatClampNeg).toNatClampNeg) = 0 then (q_X12_pending_181 S x1 x2 (S.2.1.2 31 x1.toNatClampNeg) 0) else (q_X12_pending_181 S x1 x2 (S.2.1.2 31 x1.toNatClampNeg) 1)) else (if x2 = 9 then (p_X11_voters S.2.1 (S.2.1.2 31 x1.toNatClampNeg)) ∧ (q_X12_pending_a190 (mH S ((f_X11_voters S.2.1 (S.2.1.2 31 x1.toNatClampNeg)).2)) x1 x2 (S.2.1.2 31 x1.toNatClampNeg) (f_X11_voters S.2.1 (S.2.1.2 31 x1.toNatClampNeg)).1) else True)))))))))))
def e_X12_pending : List Cond := [.fieldLink RX12 16 "MotionFloorModel" "hall" "LMotionFloorModel$Hall;", .fieldLink RX12 55 "MotionFloorModel$Hall" "pending" "I", .methodLink RX12 1 yX12_in, .static yX12_in, .initialized RX12, .fieldLink RX12 58 "MotionFloorModel$Hall" "row" "[I", .fieldLink RX12 61 "MotionFloorModel$Hall" "kind" "[I", .fieldLink RX12 64 "MotionFloorModel$Hall" "mover" "[I", .fieldLink RX12 67 "MotionFloorModel$Hall" "seconder" "[I", .fieldLink RX12 70 "MotionFloorModel$Hall" "words" "[I", .fieldLink RX12 73 "MotionFloorModel$Hall" "from" "[I", .fieldLink RX12 76 "MotionFloorModel$Hall" "to" "[I", .fieldLink RX12 79 "MotionFloorModel$Hall" "floors" "[I", .fieldLink RX12 82 "MotionFloorModel$Hall" "speeches" "[I", .fieldLink RX12 85 "MotionFloorModel$Hall" "closed" "[Z", .methodLink RX12 89 yX11_voters, .instanceMethod yX11_voters, .selects RX11 yX11_voters yX11_voters, .initialized RX11]
def v_X12_pending : List Cond := .code yX12_pending cX12_pending 4 (some .int) :: (e_X12_pending ++ (wsX120 ++ (wsX110 ++ (v_X12_in ++ (v_X11_voters ++ [])))))
theorem te_X12_pending : GoodIn lw_tbl e_X12_pending := wGc z219 (wGc z262 (wGc z3 (wGc z2 (wGc z1 (wGc z261 (wGc z260 (wGc z259 (wGc z258 (wGc z257 (wGc z256 (wGc z255 (wGc z254 (wGc z253 (wGc z252 (wGc z251 (wGc z176 (wGc z175 (wGc z51 (wG0)))))))))))))))))))
theorem t_X12_pending : GoodIn lw_tbl v_X12_pending := wGc z263 (wGa te_X12_pending (wGa zcX12 (wGa zcX11 (wGa t_X12_in (wGa t_X11_voters (wG0))))))
set_option maxHeartbeats 4000000 in
set_option maxRecDepth 100000 in
theorem c_X12_pending (l : Launch) (G : va_G) (K : Nat → ClassId) (m0 : Nat) (gm : Nat → Nat) (h1 : Nat) (g1 : Nat → Nat) (h2 : Nat) (g2 : Nat → Nat) (S0 : MS) (a1 a2 : Int32) (sz : Nat) : Met l yX12_pending v_X12_pending ({ frames := 1, cells := 0, slots := 0, locals := 23 }) (va_Pc [.ref m0, .int a1, .int a2] (mSt G K m0 gm h1 g1 h2 g2 sz S0 (p_X12_pending S0 a1 a2))) (va_Qi (fun (r : Int32) (u : MS) => (r, u) = f_X12_pending S0 a1 a2) (mB G K m0 gm h1 g1 h2 g2 (va_A (mW K m0 gm h1 g1 h2 g2 S0) sz)) (va_A (mW K m0 gm h1 g1 h2 g2 S0) sz)) 0 0 (va_A (mW K m0 gm h1 g1 h2 g2 S0) sz) := by
  refine Met.ofW (cc := cX12_pending) (maxL := 4) (ret := (some .int)) (by decide) rfl ?_
  intro p e s m args below meth c s₁ B hml hv
  obtain ⟨rfl, ⟨hsz, hP, hK, hD0, hTE⟩, hp⟩ := hv
  have hx := B.exec
  have hb := B.bytes
  have hr := B.returns
  have hts := atoms_spec (ws := v_X12_pending) B.pre
  have t_ := t_X12_pending
  have mw : ∀ w ∈ e_X12_pending, w ∈ v_X12_pending := fun w h => List.mem_cons_of_mem _ (List.mem_append_left _ h)
  have hw := fun w (h : w ∈ e_X12_pending) => hts w (mw w h)
  have iX12 : ∀ w ∈ wsX120, w ∈ v_X12_pending := fun w h => List.mem_cons_of_mem _ (List.mem_append_right _ (List.mem_append_left _ h))
  have iX11 : ∀ w ∈ wsX110, w ∈ v_X12_pending := fun w h => List.mem_cons_of_mem _ (List.mem_append_right _ (List.mem_append_right _ (List.mem_append_left _ h)))
  have j_X12_in : ∀ w ∈ v_X12_in, w ∈ v_X12_pending := fun w h => List.mem_cons_of_mem _ (List.mem_append_right _ (List.mem_append_right _ (List.mem_append_right _ (List.mem_append_left _ h))))
  have j_X11_voters : ∀ w ∈ v_X11_voters, w ∈ v_X12_pending := fun w h => List.mem_cons_of_mem _ (List.mem_append_right _ (List.mem_append_right _ (List.mem_append_right _ (List.mem_append_right _ (List.mem_append_left _ h)))))
  have hown : s.vm.findClass RX12 = some m.cls := findClass_of_methodNamed B.named
  have hlocks := B.notSynchronized
  subst hsz
  have hD := hD0.self (sz := s.heap.size)
  generalize hAe : va_A (mW K m0 gm h1 g1 h2 g2 S0) s.heap.size = A at hD ⊢
  have hA : ∀ q : Nat, s.heap.size ≤ q → A q := fun q h => by rw [← hAe]; exact Or.inr h
  have hS : va_S A s.heap s.heap [] := va_S.rf
  have hl := lv_entry ([.ref m0, .int a1, .int a2]) (n := 4) (Nat.le_of_ble_eq_true rfl)
  rw [lg_entry_eq]
  generalize (lg_sl ([.ref m0, .int a1, .int a2]) ++ List.replicate (4 - (lg_sl ([.ref m0, .int a1, .int a2])).length) Slot.unset).toArray = ls at hl ⊢
  have hl : lv_has ls 4 [(0, .ref m0), (1, .int a1), (2, .int a2)] := hl
  refine wGen (fun Q hQ => ?_)
  obtain ⟨X, hX⟩ : ∃ X, f_X12_pending S0 a1 a2 = X := ⟨_, rfl⟩
  have B_181 : ∀ (S : MS) (x1 x2 x3 y0 : Int32) (H : Heap) (locs : List Loc) (ls : Array Slot), b_X12_pending_181 S x1 x2 x3 y0 = X → q_X12_pending_181 S x1 x2 x3 y0 → va_P G vwCl (mW K m0 gm h1 g1 h2 g2 S) H → va_D A (mW K m0 gm h1 g1 h2 g2 S) → va_S A s.heap H locs → lv_has ls 4 [(0, .ref m0), (1, .int x1), (2, .int x2), (3, .int x3)] → W p l e ({ frames := 1, cells := 0, slots := 0, locals := 23 } : Room) s m #[Value.ref m0, Value.int a1, Value.int a2] below meth c H locs 0 0 Q (F0 m 181 ls [.int y0]) := by
    intro S x1 x2 x3 y0 H locs ls hE hp hP hD hS hl
    unfold b_X12_pending_181 at hE
    unfold q_X12_pending_181 at hp
    subst hQ
    exact W.iret (v := y0) hx hb hr (fun t ht hW => ⟨⟨y0, S, rfl, hE.trans hX.symm, by rw [ht]; exact hP, hD⟩, hS.F ht⟩) hS.2.2 dX12_pending_181
  have B_M : ∀ (S : MS) (x1 x2 : Int32) (H : Heap) (locs : List Loc) (ls : Array Slot), f_X12_pending S x1 x2 = X → p_X12_pending S x1 x2 → va_P G vwCl (mW K m0 gm h1 g1 h2 g2 S) H → va_D A (mW K m0 gm h1 g1 h2 g2 S) → va_S A s.heap H locs → lv_has ls 4 [(0, .ref m0), (1, .int x1), (2, .int x2)] → W p l e ({ frames := 1, cells := 0, slots := 0, locals := 23 } : Room) s m #[Value.ref m0, Value.int a1, Value.int a2] below meth c H locs 0 0 Q (F0 m 0 ls []) := by
    intro S x1 x2 H locs ls hE hp hP hD hS hl
    unfold f_X12_pending at hE
    unfold p_X12_pending at hp
    refine lv_iload_n hx hb dX12_pending_0 rfl (lv_at hl 1 rfl) ?_
    refine lv_iconst (v := 0) hx hb dX12_pending_1 (by decide) ?_
    refine lv_aload_n hx hb dX12_pending_2 rfl (lv_at hl 0 rfl) ?_
    refine va_get (D := G) (ci := 9) (v := .ref h1) (C := RX12) (T := TX12) (N := 7) hx hb hts iX12 hown hK hP 0 rfl rfl 0 (by decide) (hw (.fieldLink RX12 16 "MotionFloorModel" "hall" "LMotionFloorModel$Hall;") (List.mem_of_getElem? (i := 0) rfl)) (fun _ h9 => h9) rfl dX12_pending_3 ?_
    refine va_get (D := G) (ci := 8) (v := .int (S.2.1.1 6)) (C := RX11) (T := TX11) (N := 42) hx hb hts iX11 hown hK hP 5 rfl rfl 6 (by decide) (hw (.fieldLink RX12 55 "MotionFloorModel$Hall" "pending" "I") (List.mem_of_getElem? (i := 1) rfl)) (fun _ h9 => h9) rfl dX12_pending_6 ?_
    refine lv_iconst (v := 1) hx hb dX12_pending_9 (by decide) ?_
    refine lv_isub hx hb dX12_pending_10 ?_
    obtain ⟨hy1, hp⟩ := hp
    refine nGoi (va_runS (As := [.int x1, .int 0, .int ((S.2.1.1 6) - 1)]) (rest := []) ⟨hx, hb, hml, hown, hts⟩ (c_X12_in l G K x1 0 ((S.2.1.1 6) - 1) _) (va_cwS 3 hts (wGS t_ (mw (.methodLink RX12 1 yX12_in) (List.mem_of_getElem? (i := 2) rfl)) (mw (.static yX12_in) (List.mem_of_getElem? (i := 3) rfl)) (mw (.initialized RX12) (List.mem_of_getElem? (i := 4) rfl)) j_X12_in) rfl rfl rfl (by decide +kernel) ⟨Nat.le_of_ble_eq_true rfl, Nat.le_of_ble_eq_true rfl⟩) (nPS hK hTE hy1) rfl rfl hl.1 rfl (lv_room (Nat.le_of_ble_eq_true rfl)) dX12_pending_11 ⟨Nat.le_of_ble_eq_true rfl, Nat.le_of_ble_eq_true rfl⟩) hP hS hA (fun r H locs hv hP hS => ?_)
    subst hv
    refine lv_if_ne (tgt := 19) hx hb dX12_pending_14 (by decide) (fun c2 => ?_) (fun c2 => ?_)
    · rw [if_neg c2] at hE hp
      refine lv_aload_n hx hb dX12_pending_19 rfl (lv_at hl 0 rfl) ?_
      refine va_get (D := G) (ci := 9) (v := .ref h1) (C := RX12) (T := TX12) (N := 7) hx hb hts iX12 hown hK hP 0 rfl rfl 0 (by decide) (hw (.fieldLink RX12 16 "MotionFloorModel" "hall" "LMotionFloorModel$Hall;") (List.mem_of_getElem? (i := 0) rfl)) (fun _ h9 => h9) rfl dX12_pending_20 ?_
      refine va_get (D := G) (ci := 8) (v := .ref (g1 31)) (C := RX11) (T := TX11) (N := 42) hx hb hts iX11 hown hK hP 5 rfl rfl 31 (by decide) (hw (.fieldLink RX12 58 "MotionFloorModel$Hall" "row" "[I") (List.mem_of_getElem? (i := 5) rfl)) (fun _ h9 => h9) rfl dX12_pending_23 ?_
      refine lv_iload_n hx hb dX12_pending_26 rfl (lv_at hl 1 rfl) ?_
      obtain ⟨hy3, hp⟩ := hp
      refine va_iald hx hb hK hP 25 0 rfl rfl hy3 dX12_pending_27 ?_
      refine lv_istore_n (lv' := [(3, .int (S.2.1.2 31 x1.toNatClampNeg)), (0, .ref m0), (1, .int x1), (2, .int x2)]) hx hb dX12_pending_28 rfl hl (by decide) rfl (fun ls hl => ?_)
      refine lv_iload_n hx hb dX12_pending_29 rfl (lv_at hl 3 rfl) ?_
      by_cases s0 : x2 = 0
      · rw [if_pos s0] at hE hp
        refine lv_tableIn (off := 54) (tgt := 84) hx hb dX12_pending_30 (by rw [s0]; decide) (by rw [s0]; decide) (by rw [s0]; decide) (by decide) ?_
        refine lv_aload_n hx hb dX12_pending_84 rfl (lv_at hl 1 rfl) ?_
        refine va_get (D := G) (ci := 9) (v := .ref h1) (C := RX12) (T := TX12) (N := 7) hx hb hts iX12 hown hK hP 0 rfl rfl 0 (by decide) (hw (.fieldLink RX12 16 "MotionFloorModel" "hall" "LMotionFloorModel$Hall;") (List.mem_of_getElem? (i := 0) rfl)) (fun _ h9 => h9) rfl dX12_pending_85 ?_
        refine va_get (D := G) (ci := 8) (v := .ref (g1 14)) (C := RX11) (T := TX11) (N := 42) hx hb hts iX11 hown hK hP 5 rfl rfl 14 (by decide) (hw (.fieldLink RX12 61 "MotionFloorModel$Hall" "kind" "[I") (List.mem_of_getElem? (i := 6) rfl)) (fun _ h9 => h9) rfl dX12_pending_88 ?_
        refine lv_iload_n hx hb dX12_pending_91 rfl (lv_at hl 0 rfl) ?_
        obtain ⟨hy4, hp⟩ := hp
        refine va_iald hx hb hK hP 9 0 rfl rfl hy4 dX12_pending_92 ?_
        subst hQ
        exact W.iret (v := (S.2.1.2 14 (S.2.1.2 31 x1.toNatClampNeg).toNatClampNeg)) hx hb hr (fun t ht hW => ⟨⟨(S.2.1.2 14 (S.2.1.2 31 x1.toNatClampNeg).toNatClampNeg), S, rfl, hE.trans hX.symm, by rw [ht]; exact hP, hD⟩, hS.F ht⟩) hS.2.2 dX12_pending_93
      rw [if_neg s0] at hE hp
      have s0 := wNe (b := 0) rfl (by decide) s0
      by_cases s1 : x2 = 1
      · rw [if_pos s1] at hE hp
        refine lv_tableIn (off := 64) (tgt := 94) hx hb dX12_pending_30 (by rw [s1]; decide) (by rw [s1]; decide) (by rw [s1]; decide) (by decide) ?_
        refine lv_aload_n hx hb dX12_pending_94 rfl (lv_at hl 1 rfl) ?_
        refine va_get (D := G) (ci := 9) (v := .ref h1) (C := RX12) (T := TX12) (N := 7) hx hb hts iX12 hown hK hP 0 rfl rfl 0 (by decide) (hw (.fieldLink RX12 16 "MotionFloorModel" "hall" "LMotionFloorModel$Hall;") (List.mem_of_getElem? (i := 0) rfl)) (fun _ h9 => h9) rfl dX12_pending_95 ?_
        refine va_get (D := G) (ci := 8) (v := .ref (g1 15)) (C := RX11) (T := TX11) (N := 42) hx hb hts iX11 hown hK hP 5 rfl rfl 15 (by decide) (hw (.fieldLink RX12 64 "MotionFloorModel$Hall" "mover" "[I") (List.mem_of_getElem? (i := 7) rfl)) (fun _ h9 => h9) rfl dX12_pending_98 ?_
        refine lv_iload_n hx hb dX12_pending_101 rfl (lv_at hl 0 rfl) ?_
        obtain ⟨hy5, hp⟩ := hp
        refine va_iald hx hb hK hP 10 0 rfl rfl hy5 dX12_pending_102 ?_
        subst hQ
        exact W.iret (v := (S.2.1.2 15 (S.2.1.2 31 x1.toNatClampNeg).toNatClampNeg)) hx hb hr (fun t ht hW => ⟨⟨(S.2.1.2 15 (S.2.1.2 31 x1.toNatClampNeg).toNatClampNeg), S, rfl, hE.trans hX.symm, by rw [ht]; exact hP, hD⟩, hS.F ht⟩) hS.2.2 dX12_pending_103
      rw [if_neg s1] at hE hp
      have s1 := wNe (b := 1) rfl (by decide) s1
      by_cases s2 : x2 = 2
      · rw [if_pos s2] at hE hp
        refine lv_tableIn (off := 74) (tgt := 104) hx hb dX12_pending_30 (by rw [s2]; decide) (by rw [s2]; decide) (by rw [s2]; decide) (by decide) ?_
        refine lv_aload_n hx hb dX12_pending_104 rfl (lv_at hl 1 rfl) ?_
        refine va_get (D := G) (ci := 9) (v := .ref h1) (C := RX12) (T := TX12) (N := 7) hx hb hts iX12 hown hK hP 0 rfl rfl 0 (by decide) (hw (.fieldLink RX12 16 "MotionFloorModel" "hall" "LMotionFloorModel$Hall;") (List.mem_of_getElem? (i := 0) rfl)) (fun _ h9 => h9) rfl dX12_pending_105 ?_
        refine va_get (D := G) (ci := 8) (v := .ref (g1 16)) (C := RX11) (T := TX11) (N := 42) hx hb hts iX11 hown hK hP 5 rfl rfl 16 (by decide) (hw (.fieldLink RX12 67 "MotionFloorModel$Hall" "seconder" "[I") (List.mem_of_getElem? (i := 8) rfl)) (fun _ h9 => h9) rfl dX12_pending_108 ?_
        refine lv_iload_n hx hb dX12_pending_111 rfl (lv_at hl 0 rfl) ?_
        obtain ⟨hy6, hp⟩ := hp
        refine va_iald hx hb hK hP 11 0 rfl rfl hy6 dX12_pending_112 ?_
        subst hQ
        exact W.iret (v := (S.2.1.2 16 (S.2.1.2 31 x1.toNatClampNeg).toNatClampNeg)) hx hb hr (fun t ht hW => ⟨⟨(S.2.1.2 16 (S.2.1.2 31 x1.toNatClampNeg).toNatClampNeg), S, rfl, hE.trans hX.symm, by rw [ht]; exact hP, hD⟩, hS.F ht⟩) hS.2.2 dX12_pending_113
      rw [if_neg s2] at hE hp
      have s2 := wNe (b := 2) rfl (by decide) s2
      by_cases s3 : x2 = 3
      · rw [if_pos s3] at hE hp
        refine lv_tableIn (off := 84) (tgt := 114) hx hb dX12_pending_30 (by rw [s3]; decide) (by rw [s3]; decide) (by rw [s3]; decide) (by decide) ?_
        refine lv_aload_n hx hb dX12_pending_114 rfl (lv_at hl 1 rfl) ?_
        refine va_get (D := G) (ci := 9) (v := .ref h1) (C := RX12) (T := TX12) (N := 7) hx hb hts iX12 hown hK hP 0 rfl rfl 0 (by decide) (hw (.fieldLink RX12 16 "MotionFloorModel" "hall" "LMotionFloorModel$Hall;") (List.mem_of_getElem? (i := 0) rfl)) (fun _ h9 => h9) rfl dX12_pending_115 ?_
        refine va_get (D := G) (ci := 8) (v := .ref (g1 19)) (C := RX11) (T := TX11) (N := 42) hx hb hts iX11 hown hK hP 5 rfl rfl 19 (by decide) (hw (.fieldLink RX12 70 "MotionFloorModel$Hall" "words" "[I") (List.mem_of_getElem? (i := 9) rfl)) (fun _ h9 => h9) rfl dX12_pending_118 ?_
        refine lv_iload_n hx hb dX12_pending_121 rfl (lv_at hl 0 rfl) ?_
        obtain ⟨hy7, hp⟩ := hp
        refine va_iald hx hb hK hP 14 0 rfl rfl hy7 dX12_pending_122 ?_
        subst hQ
        exact W.iret (v := (S.2.1.2 19 (S.2.1.2 31 x1.toNatClampNeg).toNatClampNeg)) hx hb hr (fun t ht hW => ⟨⟨(S.2.1.2 19 (S.2.1.2 31 x1.toNatClampNeg).toNatClampNeg), S, rfl, hE.trans hX.symm, by rw [ht]; exact hP, hD⟩, hS.F ht⟩) hS.2.2 dX12_pending_123
      rw [if_neg s3] at hE hp
      have s3 := wNe (b := 3) rfl (by decide) s3
      by_cases s4 : x2 = 4
      · rw [if_pos s4] at hE hp
        refine lv_tableIn (off := 94) (tgt := 124) hx hb dX12_pending_30 (by rw [s4]; decide) (by rw [s4]; decide) (by rw [s4]; decide) (by decide) ?_
        refine lv_aload_n hx hb dX12_pending_124 rfl (lv_at hl 1 rfl) ?_
        refine va_get (D := G) (ci := 9) (v := .ref h1) (C := RX12) (T := TX12) (N := 7) hx hb hts iX12 hown hK hP 0 rfl rfl 0 (by decide) (hw (.fieldLink RX12 16 "MotionFloorModel" "hall" "LMotionFloorModel$Hall;") (List.mem_of_getElem? (i := 0) rfl)) (fun _ h9 => h9) rfl dX12_pending_125 ?_
        refine va_get (D := G) (ci := 8) (v := .ref (g1 20)) (C := RX11) (T := TX11) (N := 42) hx hb hts iX11 hown hK hP 5 rfl rfl 20 (by decide) (hw (.fieldLink RX12 73 "MotionFloorModel$Hall" "from" "[I") (List.mem_of_getElem? (i := 10) rfl)) (fun _ h9 => h9) rfl dX12_pending_128 ?_
        refine lv_iload_n hx hb dX12_pending_131 rfl (lv_at hl 0 rfl) ?_
        obtain ⟨hy8, hp⟩ := hp
        refine va_iald hx hb hK hP 15 0 rfl rfl hy8 dX12_pending_132 ?_
        subst hQ
        exact W.iret (v := (S.2.1.2 20 (S.2.1.2 31 x1.toNatClampNeg).toNatClampNeg)) hx hb hr (fun t ht hW => ⟨⟨(S.2.1.2 20 (S.2.1.2 31 x1.toNatClampNeg).toNatClampNeg), S, rfl, hE.trans hX.symm, by rw [ht]; exact hP, hD⟩, hS.F ht⟩) hS.2.2 dX12_pending_133
      rw [if_neg s4] at hE hp
      have s4 := wNe (b := 4) rfl (by decide) s4
      by_cases s5 : x2 = 5
      · rw [if_pos s5] at hE hp
        refine lv_tableIn (off := 104) (tgt := 134) hx hb dX12_pending_30 (by rw [s5]; decide) (by rw [s5]; decide) (by rw [s5]; decide) (by decide) ?_
        refine lv_aload_n hx hb dX12_pending_134 rfl (lv_at hl 1 rfl) ?_
        refine va_get (D := G) (ci := 9) (v := .ref h1) (C := RX12) (T := TX12) (N := 7) hx hb hts iX12 hown hK hP 0 rfl rfl 0 (by decide) (hw (.fieldLink RX12 16 "MotionFloorModel" "hall" "LMotionFloorModel$Hall;") (List.mem_of_getElem? (i := 0) rfl)) (fun _ h9 => h9) rfl dX12_pending_135 ?_
        refine va_get (D := G) (ci := 8) (v := .ref (g1 21)) (C := RX11) (T := TX11) (N := 42) hx hb hts iX11 hown hK hP 5 rfl rfl 21 (by decide) (hw (.fieldLink RX12 76 "MotionFloorModel$Hall" "to" "[I") (List.mem_of_getElem? (i := 11) rfl)) (fun _ h9 => h9) rfl dX12_pending_138 ?_
        refine lv_iload_n hx hb dX12_pending_141 rfl (lv_at hl 0 rfl) ?_
        obtain ⟨hy9, hp⟩ := hp
        refine va_iald hx hb hK hP 16 0 rfl rfl hy9 dX12_pending_142 ?_
        subst hQ
        exact W.iret (v := (S.2.1.2 21 (S.2.1.2 31 x1.toNatClampNeg).toNatClampNeg)) hx hb hr (fun t ht hW => ⟨⟨(S.2.1.2 21 (S.2.1.2 31 x1.toNatClampNeg).toNatClampNeg), S, rfl, hE.trans hX.symm, by rw [ht]; exact hP, hD⟩, hS.F ht⟩) hS.2.2 dX12_pending_143
      rw [if_neg s5] at hE hp
      have s5 := wNe (b := 5) rfl (by decide) s5
      by_cases s6 : x2 = 6
      · rw [if_pos s6] at hE hp
        refine lv_tableIn (off := 114) (tgt := 144) hx hb dX12_pending_30 (by rw [s6]; decide) (by rw [s6]; decide) (by rw [s6]; decide) (by decide) ?_
        refine lv_aload_n hx hb dX12_pending_144 rfl (lv_at hl 1 rfl) ?_
        refine va_get (D := G) (ci := 9) (v := .ref h1) (C := RX12) (T := TX12) (N := 7) hx hb hts iX12 hown hK hP 0 rfl rfl 0 (by decide) (hw (.fieldLink RX12 16 "MotionFloorModel" "hall" "LMotionFloorModel$Hall;") (List.mem_of_getElem? (i := 0) rfl)) (fun _ h9 => h9) rfl dX12_pending_145 ?_
        refine va_get (D := G) (ci := 8) (v := .ref (g1 17)) (C := RX11) (T := TX11) (N := 42) hx hb hts iX11 hown hK hP 5 rfl rfl 17 (by decide) (hw (.fieldLink RX12 79 "MotionFloorModel$Hall" "floors" "[I") (List.mem_of_getElem? (i := 12) rfl)) (fun _ h9 => h9) rfl dX12_pending_148 ?_
        refine lv_iload_n hx hb dX12_pending_151 rfl (lv_at hl 0 rfl) ?_
        obtain ⟨hy10, hp⟩ := hp
        refine va_iald hx hb hK hP 12 0 rfl rfl hy10 dX12_pending_152 ?_
        subst hQ
        exact W.iret (v := (S.2.1.2 17 (S.2.1.2 31 x1.toNatClampNeg).toNatClampNeg)) hx hb hr (fun t ht hW => ⟨⟨(S.2.1.2 17 (S.2.1.2 31 x1.toNatClampNeg).toNatClampNeg), S, rfl, hE.trans hX.symm, by rw [ht]; exact hP, hD⟩, hS.F ht⟩) hS.2.2 dX12_pending_153
      rw [if_neg s6] at hE hp
      have s6 := wNe (b := 6) rfl (by decide) s6
      by_cases s7 : x2 = 7
      · rw [if_pos s7] at hE hp
        refine lv_tableIn (off := 124) (tgt := 154) hx hb dX12_pending_30 (by rw [s7]; decide) (by rw [s7]; decide) (by rw [s7]; decide) (by decide) ?_
        refine lv_aload_n hx hb dX12_pending_154 rfl (lv_at hl 1 rfl) ?_
        refine va_get (D := G) (ci := 9) (v := .ref h1) (C := RX12) (T := TX12) (N := 7) hx hb hts iX12 hown hK hP 0 rfl rfl 0 (by decide) (hw (.fieldLink RX12 16 "MotionFloorModel" "hall" "LMotionFloorModel$Hall;") (List.mem_of_getElem? (i := 0) rfl)) (fun _ h9 => h9) rfl dX12_pending_155 ?_
        refine va_get (D := G) (ci := 8) (v := .ref (g1 18)) (C := RX11) (T := TX11) (N := 42) hx hb hts iX11 hown hK hP 5 rfl rfl 18 (by decide) (hw (.fieldLink RX12 82 "MotionFloorModel$Hall" "speeches" "[I") (List.mem_of_getElem? (i := 13) rfl)) (fun _ h9 => h9) rfl dX12_pending_158 ?_
        refine lv_iload_n hx hb dX12_pending_161 rfl (lv_at hl 0 rfl) ?_
        obtain ⟨hy11, hp⟩ := hp
        refine va_iald hx hb hK hP 13 0 rfl rfl hy11 dX12_pending_162 ?_
        subst hQ
        exact W.iret (v := (S.2.1.2 18 (S.2.1.2 31 x1.toNatClampNeg).toNatClampNeg)) hx hb hr (fun t ht hW => ⟨⟨(S.2.1.2 18 (S.2.1.2 31 x1.toNatClampNeg).toNatClampNeg), S, rfl, hE.trans hX.symm, by rw [ht]; exact hP, hD⟩, hS.F ht⟩) hS.2.2 dX12_pending_163
      rw [if_neg s7] at hE hp
      have s7 := wNe (b := 7) rfl (by decide) s7
      by_cases s8 : x2 = 8
      · rw [if_pos s8] at hE hp
        refine lv_tableIn (off := 134) (tgt := 164) hx hb dX12_pending_30 (by rw [s8]; decide) (by rw [s8]; decide) (by rw [s8]; decide) (by decide) ?_
        refine lv_aload_n hx hb dX12_pending_164 rfl (lv_at hl 1 rfl) ?_
        refine va_get (D := G) (ci := 9) (v := .ref h1) (C := RX12) (T := TX12) (N := 7) hx hb hts iX12 hown hK hP 0 rfl rfl 0 (by decide) (hw (.fieldLink RX12 16 "MotionFloorModel" "hall" "LMotionFloorModel$Hall;") (List.mem_of_getElem? (i := 0) rfl)) (fun _ h9 => h9) rfl dX12_pending_165 ?_
        refine va_get (D := G) (ci := 8) (v := .ref (g1 24)) (C := RX11) (T := TX11) (N := 42) hx hb hts iX11 hown hK hP 5 rfl rfl 24 (by decide) (hw (.fieldLink RX12 85 "MotionFloorModel$Hall" "closed" "[Z") (List.mem_of_getElem? (i := 14) rfl)) (fun _ h9 => h9) rfl dX12_pending_168 ?_
        refine lv_iload_n hx hb dX12_pending_171 rfl (lv_at hl 0 rfl) ?_
        obtain ⟨hy12, hp⟩ := hp
        refine va_zald hx hb hK hP 19 1 rfl rfl hy12 dX12_pending_172 ?_
        refine lv_if_eq (tgt := 180) hx hb dX12_pending_173 (by decide) (fun c13 => ?_) (fun c13 => ?_)
        · rw [if_pos c13] at hE hp
          refine lv_iconst (v := 0) hx hb dX12_pending_180 (by decide) ?_
          exact B_181 S x1 x2 (S.2.1.2 31 x1.toNatClampNeg) 0 _ _ _ hE hp hP hD hS (lv_sub hl [1, 2, 3, 0] rfl)
        · rw [if_neg c13] at hE hp
          refine lv_iconst (v := 1) hx hb dX12_pending_176 (by decide) ?_
          refine lv_goto (tgt := 181) hx hb dX12_pending_177 (by decide) ?_
          exact B_181 S x1 x2 (S.2.1.2 31 x1.toNatClampNeg) 1 _ _ _ hE hp hP hD hS (lv_sub hl [1, 2, 3, 0] rfl)
      rw [if_neg s8] at hE hp
      have s8 := wNe (b := 8) rfl (by decide) s8
      by_cases s9 : x2 = 9
      · rw [if_pos s9] at hE hp
        refine lv_tableIn (off := 152) (tgt := 182) hx hb dX12_pending_30 (by rw [s9]; decide) (by rw [s9]; decide) (by rw [s9]; decide) (by decide) ?_
        refine lv_aload_n hx hb dX12_pending_182 rfl (lv_at hl 1 rfl) ?_
        refine va_get (D := G) (ci := 9) (v := .ref h1) (C := RX12) (T := TX12) (N := 7) hx hb hts iX12 hown hK hP 0 rfl rfl 0 (by decide) (hw (.fieldLink RX12 16 "MotionFloorModel" "hall" "LMotionFloorModel$Hall;") (List.mem_of_getElem? (i := 0) rfl)) (fun _ h9 => h9) rfl dX12_pending_183 ?_
        refine lv_iload_n hx hb dX12_pending_186 rfl (lv_at hl 0 rfl) ?_
        obtain ⟨hy14, hp⟩ := hp
        refine mGoi_h (va_runV (As := [.int (S.2.1.2 31 x1.toNatClampNeg)]) (rest := []) ⟨hx, hb, hml, hown, hts⟩ (c_X11_voters l G K h1 g1 S.2.1 (S.2.1.2 31 x1.toNatClampNeg) _) (cwV 1 hts (wGV t_ (mw (.methodLink RX12 89 yX11_voters) (List.mem_of_getElem? (i := 15) rfl)) (mw (.instanceMethod yX11_voters) (List.mem_of_getElem? (i := 16) rfl)) (mw (.selects RX11 yX11_voters yX11_voters) (List.mem_of_getElem? (i := 17) rfl)) (mw (.initialized RX11) (List.mem_of_getElem? (i := 18) rfl)) j_X11_voters) rfl rfl rfl (by decide +kernel) ⟨Nat.le_of_ble_eq_true rfl, Nat.le_of_ble_eq_true rfl⟩) (hPV hK hTE (mP_h hP) (mD_h hD) hy14) rfl rfl hl.1 rfl (lv_room (Nat.le_of_ble_eq_true rfl)) dX12_pending_187 ⟨Nat.le_of_ble_eq_true rfl, Nat.le_of_ble_eq_true rfl⟩) hP hD hS hA (fun r16 u15 H locs hv hP hD hS => ?_)
        rw [← hv] at hE hp
        dsimp only at hE hp
        unfold b_X12_pending_a190 at hE
        unfold q_X12_pending_a190 at hp
        subst hQ
        exact W.iret (v := r16) hx hb hr (fun t ht hW => ⟨⟨r16, (mH S u15), rfl, hE.trans hX.symm, by rw [ht]; exact hP, hD⟩, hS.F ht⟩) hS.2.2 dX12_pending_190
      rw [if_neg s9] at hE hp
      have s9 := wNe (b := 9) rfl (by decide) s9
      refine lv_tableOut (tgt := 191) hx hb dX12_pending_30 (by omega) (by decide) ?_
      refine lv_iconst (v := (-1)) hx hb dX12_pending_191 (by decide) ?_
      subst hQ
      exact W.iret (v := (-1)) hx hb hr (fun t ht hW => ⟨⟨(-1), S, rfl, hE.trans hX.symm, by rw [ht]; exact hP, hD⟩, hS.F ht⟩) hS.2.2 dX12_pending_192
    · rw [if_pos c2] at hE hp
      refine lv_iconst (v := (-1)) hx hb dX12_pending_17 (by decide) ?_
      subst hQ
      exact W.iret (v := (-1)) hx hb hr (fun t ht hW => ⟨⟨(-1), S, rfl, hE.trans hX.symm, by rw [ht]; exact hP, hD⟩, hS.F ht⟩) hS.2.2 dX12_pending_18
  exact B_M S0 a1 a2 _ _ _ hX hp hP hD hS hl
theorem gdX12_text_0 : ckS (List.drop 0 cX12_text.data.toList) 0 [(0, .aload_n 0, 1), (1, .getfield 16, 3), (4, .iload_n 1, 1), (5, .iload_n 2, 1), (6, .invokevirtual 92, 3), (9, .ireturn, 1)] = true := by decide +kernel
theorem dX12_text_0 : decode cX12_text 0 = .ok (.aload_n 0, 1) := ckS_g gdX12_text_0 0 rfl
theorem dX12_text_1 : decode cX12_text 1 = .ok (.getfield 16, 3) := ckS_g gdX12_text_0 1 rfl
theorem dX12_text_4 : decode cX12_text 4 = .ok (.iload_n 1, 1) := ckS_g gdX12_text_0 2 rfl
theorem dX12_text_5 : decode cX12_text 5 = .ok (.iload_n 2, 1) := ckS_g gdX12_text_0 3 rfl
theorem dX12_text_6 : decode cX12_text 6 = .ok (.invokevirtual 92, 3) := ckS_g gdX12_text_0 4 rfl
theorem dX12_text_9 : decode cX12_text 9 = .ok (.ireturn, 1) := ckS_g gdX12_text_0 5 rfl
set_option maxRecDepth 100000 in
theorem z264 : wZ (.selects RX11 yX11_text yX11_text) := ⟨wT6 (List.mem_of_getElem? (i := 220) (by decide +kernel)), Or.inl rfl⟩
set_option maxRecDepth 100000 in
theorem z265 : wZ (.instanceMethod yX11_text) := ⟨wT6 (List.mem_of_getElem? (i := 219) (by decide +kernel)), Or.inl rfl⟩
set_option maxRecDepth 100000 in
theorem z266 : wZ (.methodLink RX12 92 yX11_text) := ⟨wT6 (List.mem_of_getElem? (i := 218) (by decide +kernel)), Or.inl rfl⟩
set_option maxRecDepth 100000 in
theorem z267 : wZ (.code yX12_text cX12_text 3 (some .int)) := ⟨wT6 (List.mem_of_getElem? (i := 217) rfl), Or.inl rfl⟩
def b_X12_text_a9 (S : MS) (x1 x2 y0 : Int32) : Int32 × MS := (y0, S)
def q_X12_text_a9 (S : MS) (x1 x2 y0 : Int32) : Prop := True
def f_X12_text (S : MS) (x1 x2 : Int32) : Int32 × MS := (b_X12_text_a9 (mH S ((f_X11_text S.2.1 x1 x2).2)) x1 x2 (f_X11_text S.2.1 x1 x2).1)
def p_X12_text (S : MS) (x1 x2 : Int32) : Prop := (p_X11_text S.2.1 x1 x2) ∧ (q_X12_text_a9 (mH S ((f_X11_text S.2.1 x1 x2).2)) x1 x2 (f_X11_text S.2.1 x1 x2).1)
def e_X12_text : List Cond := [.fieldLink RX12 16 "MotionFloorModel" "hall" "LMotionFloorModel$Hall;", .methodLink RX12 92 yX11_text, .instanceMethod yX11_text, .selects RX11 yX11_text yX11_text, .initialized RX11]
def v_X12_text : List Cond := .code yX12_text cX12_text 3 (some .int) :: (e_X12_text ++ (wsX120 ++ (v_X11_text ++ [])))
theorem te_X12_text : GoodIn lw_tbl e_X12_text := wGc z219 (wGc z266 (wGc z265 (wGc z264 (wGc z51 (wG0)))))
theorem t_X12_text : GoodIn lw_tbl v_X12_text := wGc z267 (wGa te_X12_text (wGa zcX12 (wGa t_X11_text (wG0))))
set_option maxHeartbeats 4000000 in
set_option maxRecDepth 100000 in
theorem c_X12_text (l : Launch) (G : va_G) (K : Nat → ClassId) (m0 : Nat) (gm : Nat → Nat) (h1 : Nat) (g1 : Nat → Nat) (h2 : Nat) (g2 : Nat → Nat) (S0 : MS) (a1 a2 : Int32) (sz : Nat) : Met l yX12_text v_X12_text ({ frames := 2, cells := 0, slots := 0, locals := 45 }) (va_Pc [.ref m0, .int a1, .int a2] (mSt G K m0 gm h1 g1 h2 g2 sz S0 (p_X12_text S0 a1 a2))) (va_Qi (fun (r : Int32) (u : MS) => (r, u) = f_X12_text S0 a1 a2) (mB G K m0 gm h1 g1 h2 g2 (va_A (mW K m0 gm h1 g1 h2 g2 S0) sz)) (va_A (mW K m0 gm h1 g1 h2 g2 S0) sz)) 0 0 (va_A (mW K m0 gm h1 g1 h2 g2 S0) sz) := by
  refine Met.ofW (cc := cX12_text) (maxL := 3) (ret := (some .int)) (by decide) rfl ?_
  intro p e s m args below meth c s₁ B hml hv
  obtain ⟨rfl, ⟨hsz, hP, hK, hD0, hTE⟩, hp⟩ := hv
  have hx := B.exec
  have hb := B.bytes
  have hr := B.returns
  have hts := atoms_spec (ws := v_X12_text) B.pre
  have t_ := t_X12_text
  have mw : ∀ w ∈ e_X12_text, w ∈ v_X12_text := fun w h => List.mem_cons_of_mem _ (List.mem_append_left _ h)
  have hw := fun w (h : w ∈ e_X12_text) => hts w (mw w h)
  have iX12 : ∀ w ∈ wsX120, w ∈ v_X12_text := fun w h => List.mem_cons_of_mem _ (List.mem_append_right _ (List.mem_append_left _ h))
  have j_X11_text : ∀ w ∈ v_X11_text, w ∈ v_X12_text := fun w h => List.mem_cons_of_mem _ (List.mem_append_right _ (List.mem_append_right _ (List.mem_append_left _ h)))
  have hown : s.vm.findClass RX12 = some m.cls := findClass_of_methodNamed B.named
  have hlocks := B.notSynchronized
  subst hsz
  have hD := hD0.self (sz := s.heap.size)
  generalize hAe : va_A (mW K m0 gm h1 g1 h2 g2 S0) s.heap.size = A at hD ⊢
  have hA : ∀ q : Nat, s.heap.size ≤ q → A q := fun q h => by rw [← hAe]; exact Or.inr h
  have hS : va_S A s.heap s.heap [] := va_S.rf
  have hl := lv_entry ([.ref m0, .int a1, .int a2]) (n := 3) (Nat.le_of_ble_eq_true rfl)
  rw [lg_entry_eq]
  generalize (lg_sl ([.ref m0, .int a1, .int a2]) ++ List.replicate (3 - (lg_sl ([.ref m0, .int a1, .int a2])).length) Slot.unset).toArray = ls at hl ⊢
  have hl : lv_has ls 3 [(0, .ref m0), (1, .int a1), (2, .int a2)] := hl
  refine wGen (fun Q hQ => ?_)
  obtain ⟨X, hX⟩ : ∃ X, f_X12_text S0 a1 a2 = X := ⟨_, rfl⟩
  have B_M : ∀ (S : MS) (x1 x2 : Int32) (H : Heap) (locs : List Loc) (ls : Array Slot), f_X12_text S x1 x2 = X → p_X12_text S x1 x2 → va_P G vwCl (mW K m0 gm h1 g1 h2 g2 S) H → va_D A (mW K m0 gm h1 g1 h2 g2 S) → va_S A s.heap H locs → lv_has ls 3 [(0, .ref m0), (1, .int x1), (2, .int x2)] → W p l e ({ frames := 2, cells := 0, slots := 0, locals := 45 } : Room) s m #[Value.ref m0, Value.int a1, Value.int a2] below meth c H locs 0 0 Q (F0 m 0 ls []) := by
    intro S x1 x2 H locs ls hE hp hP hD hS hl
    unfold f_X12_text at hE
    unfold p_X12_text at hp
    refine lv_aload_n hx hb dX12_text_0 rfl (lv_at hl 0 rfl) ?_
    refine va_get (D := G) (ci := 9) (v := .ref h1) (C := RX12) (T := TX12) (N := 7) hx hb hts iX12 hown hK hP 0 rfl rfl 0 (by decide) (hw (.fieldLink RX12 16 "MotionFloorModel" "hall" "LMotionFloorModel$Hall;") (List.mem_of_getElem? (i := 0) rfl)) (fun _ h9 => h9) rfl dX12_text_1 ?_
    refine lv_iload_n hx hb dX12_text_4 rfl (lv_at hl 1 rfl) ?_
    refine lv_iload_n hx hb dX12_text_5 rfl (lv_at hl 2 rfl) ?_
    obtain ⟨hy1, hp⟩ := hp
    refine mGoi_h (va_runV (As := [.int x1, .int x2]) (rest := []) ⟨hx, hb, hml, hown, hts⟩ (c_X11_text l G K h1 g1 S.2.1 x1 x2 _) (cwV 2 hts (wGV t_ (mw (.methodLink RX12 92 yX11_text) (List.mem_of_getElem? (i := 1) rfl)) (mw (.instanceMethod yX11_text) (List.mem_of_getElem? (i := 2) rfl)) (mw (.selects RX11 yX11_text yX11_text) (List.mem_of_getElem? (i := 3) rfl)) (mw (.initialized RX11) (List.mem_of_getElem? (i := 4) rfl)) j_X11_text) rfl rfl rfl (by decide +kernel) ⟨Nat.le_of_ble_eq_true rfl, Nat.le_of_ble_eq_true rfl⟩) (hPV hK hTE (mP_h hP) (mD_h hD) hy1) rfl rfl hl.1 rfl (lv_room (Nat.le_of_ble_eq_true rfl)) dX12_text_6 ⟨Nat.le_of_ble_eq_true rfl, Nat.le_of_ble_eq_true rfl⟩) hP hD hS hA (fun r3 u2 H locs hv hP hD hS => ?_)
    rw [← hv] at hE hp
    dsimp only at hE hp
    unfold b_X12_text_a9 at hE
    unfold q_X12_text_a9 at hp
    subst hQ
    exact W.iret (v := r3) hx hb hr (fun t ht hW => ⟨⟨r3, (mH S u2), rfl, hE.trans hX.symm, by rw [ht]; exact hP, hD⟩, hS.F ht⟩) hS.2.2 dX12_text_9
  exact B_M S0 a1 a2 _ _ _ hX hp hP hD hS hl
theorem gdX12_ballot_0 : ckS (List.drop 0 cX12_ballot.data.toList) 0 [(0, .aload_n 0, 1), (1, .getfield 16, 3), (4, .getfield 55, 3), (7, .ifCond .eq 20, 3), (10, .iload_n 1, 1), (11, .iconst 0, 1), (12, .aload_n 0, 1), (13, .getfield 16, 3), (16, .getfield 96, 3), (19, .iconst 1, 1), (20, .isub, 1), (21, .invokestatic 1, 3), (24, .ifCond .ne 5, 3), (27, .iconst (-1), 1), (28, .ireturn, 1), (29, .aload_n 0, 1), (30, .getfield 16, 3), (33, .getfield 99, 3), (36, .sipush 200, 3), (39, .aload_n 0, 1), (40, .getfield 16, 3), (43, .invokevirtual 103, 3), (46, .imul, 1), (47, .iload_n 1, 1), (48, .iadd, 1), (49, .baload, 1), (50, .istore_n 2, 1), (51, .iload_n 2, 1), (52, .iconst 2, 1), (53, .if_icmp .ne 7, 3), (56, .iconst (-1), 1), (57, .goto 4, 3), (60, .iload_n 2, 1), (61, .ireturn, 1)] = true := by decide +kernel
theorem dX12_ballot_0 : decode cX12_ballot 0 = .ok (.aload_n 0, 1) := ckS_g gdX12_ballot_0 0 rfl
theorem dX12_ballot_1 : decode cX12_ballot 1 = .ok (.getfield 16, 3) := ckS_g gdX12_ballot_0 1 rfl
theorem dX12_ballot_4 : decode cX12_ballot 4 = .ok (.getfield 55, 3) := ckS_g gdX12_ballot_0 2 rfl
theorem dX12_ballot_7 : decode cX12_ballot 7 = .ok (.ifCond .eq 20, 3) := ckS_g gdX12_ballot_0 3 rfl
theorem dX12_ballot_10 : decode cX12_ballot 10 = .ok (.iload_n 1, 1) := ckS_g gdX12_ballot_0 4 rfl
theorem dX12_ballot_11 : decode cX12_ballot 11 = .ok (.iconst 0, 1) := ckS_g gdX12_ballot_0 5 rfl
theorem dX12_ballot_12 : decode cX12_ballot 12 = .ok (.aload_n 0, 1) := ckS_g gdX12_ballot_0 6 rfl
theorem dX12_ballot_13 : decode cX12_ballot 13 = .ok (.getfield 16, 3) := ckS_g gdX12_ballot_0 7 rfl
theorem dX12_ballot_16 : decode cX12_ballot 16 = .ok (.getfield 96, 3) := ckS_g gdX12_ballot_0 8 rfl
theorem dX12_ballot_19 : decode cX12_ballot 19 = .ok (.iconst 1, 1) := ckS_g gdX12_ballot_0 9 rfl
theorem dX12_ballot_20 : decode cX12_ballot 20 = .ok (.isub, 1) := ckS_g gdX12_ballot_0 10 rfl
theorem dX12_ballot_21 : decode cX12_ballot 21 = .ok (.invokestatic 1, 3) := ckS_g gdX12_ballot_0 11 rfl
theorem dX12_ballot_24 : decode cX12_ballot 24 = .ok (.ifCond .ne 5, 3) := ckS_g gdX12_ballot_0 12 rfl
theorem dX12_ballot_27 : decode cX12_ballot 27 = .ok (.iconst (-1), 1) := ckS_g gdX12_ballot_0 13 rfl
theorem dX12_ballot_28 : decode cX12_ballot 28 = .ok (.ireturn, 1) := ckS_g gdX12_ballot_0 14 rfl
theorem dX12_ballot_29 : decode cX12_ballot 29 = .ok (.aload_n 0, 1) := ckS_g gdX12_ballot_0 15 rfl
theorem dX12_ballot_30 : decode cX12_ballot 30 = .ok (.getfield 16, 3) := ckS_g gdX12_ballot_0 16 rfl
theorem dX12_ballot_33 : decode cX12_ballot 33 = .ok (.getfield 99, 3) := ckS_g gdX12_ballot_0 17 rfl
theorem dX12_ballot_36 : decode cX12_ballot 36 = .ok (.sipush 200, 3) := ckS_g gdX12_ballot_0 18 rfl
theorem dX12_ballot_39 : decode cX12_ballot 39 = .ok (.aload_n 0, 1) := ckS_g gdX12_ballot_0 19 rfl
theorem dX12_ballot_40 : decode cX12_ballot 40 = .ok (.getfield 16, 3) := ckS_g gdX12_ballot_0 20 rfl
theorem dX12_ballot_43 : decode cX12_ballot 43 = .ok (.invokevirtual 103, 3) := ckS_g gdX12_ballot_0 21 rfl
theorem dX12_ballot_46 : decode cX12_ballot 46 = .ok (.imul, 1) := ckS_g gdX12_ballot_0 22 rfl
theorem dX12_ballot_47 : decode cX12_ballot 47 = .ok (.iload_n 1, 1) := ckS_g gdX12_ballot_0 23 rfl
theorem dX12_ballot_48 : decode cX12_ballot 48 = .ok (.iadd, 1) := ckS_g gdX12_ballot_0 24 rfl
theorem dX12_ballot_49 : decode cX12_ballot 49 = .ok (.baload, 1) := ckS_g gdX12_ballot_0 25 rfl
theorem dX12_ballot_50 : decode cX12_ballot 50 = .ok (.istore_n 2, 1) := ckS_g gdX12_ballot_0 26 rfl
theorem dX12_ballot_51 : decode cX12_ballot 51 = .ok (.iload_n 2, 1) := ckS_g gdX12_ballot_0 27 rfl
theorem dX12_ballot_52 : decode cX12_ballot 52 = .ok (.iconst 2, 1) := ckS_g gdX12_ballot_0 28 rfl
theorem dX12_ballot_53 : decode cX12_ballot 53 = .ok (.if_icmp .ne 7, 3) := ckS_g gdX12_ballot_0 29 rfl
theorem dX12_ballot_56 : decode cX12_ballot 56 = .ok (.iconst (-1), 1) := ckS_g gdX12_ballot_0 30 rfl
theorem dX12_ballot_57 : decode cX12_ballot 57 = .ok (.goto 4, 3) := ckS_g gdX12_ballot_0 31 rfl
theorem dX12_ballot_60 : decode cX12_ballot 60 = .ok (.iload_n 2, 1) := ckS_g gdX12_ballot_0 32 rfl
theorem dX12_ballot_61 : decode cX12_ballot 61 = .ok (.ireturn, 1) := ckS_g gdX12_ballot_0 33 rfl
set_option maxRecDepth 100000 in
theorem z268 : wZ (.methodLink RX12 103 yX11_top) := ⟨wT6 (List.mem_of_getElem? (i := 226) (by decide +kernel)), Or.inl rfl⟩
set_option maxRecDepth 100000 in
theorem z269 : wZ (.fieldLink RX12 99 "MotionFloorModel$Hall" "ballot" "[B") := ⟨wT5 (List.mem_of_getElem? (i := 88) (by decide +kernel)), Or.inl rfl⟩
set_option maxRecDepth 100000 in
theorem z270 : wZ (.fieldLink RX12 96 "MotionFloorModel$Hall" "seats" "I") := ⟨wT5 (List.mem_of_getElem? (i := 35) (by decide +kernel)), Or.inl rfl⟩
set_option maxRecDepth 100000 in
theorem z271 : wZ (.code yX12_ballot cX12_ballot 3 (some .int)) := ⟨wT6 (List.mem_of_getElem? (i := 225) rfl), Or.inl rfl⟩
def b_X12_ballot_27 (S : MS) (x1 : Int32) : Int32 × MS := ((-1), S)
def q_X12_ballot_27 (S : MS) (x1 : Int32) : Prop := True
def b_X12_ballot_61 (S : MS) (x1 x2 y0 : Int32) : Int32 × MS := (y0, S)
def q_X12_ballot_61 (S : MS) (x1 x2 y0 : Int32) : Prop := True
def b_X12_ballot_a46 (S : MS) (x1 y0 y1 : Int32) : Int32 × MS := if (S.2.1.2 29 ((y1 * y0) + x1).toNatClampNeg) = 2 then (b_X12_ballot_61 S x1 (S.2.1.2 29 ((y1 * y0) + x1).toNatClampNeg) (-1)) else (b_X12_ballot_61 S x1 (S.2.1.2 29 ((y1 * y0) + x1).toNatClampNeg) (S.2.1.2 29 ((y1 * y0) + x1).toNatClampNeg))
def q_X12_ballot_a46 (S : MS) (x1 y0 y1 : Int32) : Prop := (vp_in ((y1 * y0) + x1) 18000) ∧ (if (S.2.1.2 29 ((y1 * y0) + x1).toNatClampNeg) = 2 then (q_X12_ballot_61 S x1 (S.2.1.2 29 ((y1 * y0) + x1).toNatClampNeg) (-1)) else (q_X12_ballot_61 S x1 (S.2.1.2 29 ((y1 * y0) + x1).toNatClampNeg) (S.2.1.2 29 ((y1 * y0) + x1).toNatClampNeg)))
def f_X12_ballot (S : MS) (x1 : Int32) : Int32 × MS := if (S.2.1.1 6) = 0 then (b_X12_ballot_27 S x1) else if (f_X12_in x1 0 ((S.2.1.1 0) - 1)) = 0 then (b_X12_ballot_27 S x1) else (b_X12_ballot_a46 (mH S ((f_X11_top S.2.1 ).2)) x1 (f_X11_top S.2.1 ).1 200)
def p_X12_ballot (S : MS) (x1 : Int32) : Prop := (if (S.2.1.1 6) = 0 then (q_X12_ballot_27 S x1) else (p_X12_in x1 0 ((S.2.1.1 0) - 1)) ∧ (if (f_X12_in x1 0 ((S.2.1.1 0) - 1)) = 0 then (q_X12_ballot_27 S x1) else (p_X11_top S.2.1 ) ∧ (q_X12_ballot_a46 (mH S ((f_X11_top S.2.1 ).2)) x1 (f_X11_top S.2.1 ).1 200)))
def e_X12_ballot : List Cond := [.fieldLink RX12 16 "MotionFloorModel" "hall" "LMotionFloorModel$Hall;", .fieldLink RX12 55 "MotionFloorModel$Hall" "pending" "I", .fieldLink RX12 96 "MotionFloorModel$Hall" "seats" "I", .methodLink RX12 1 yX12_in, .static yX12_in, .initialized RX12, .fieldLink RX12 99 "MotionFloorModel$Hall" "ballot" "[B", .methodLink RX12 103 yX11_top, .instanceMethod yX11_top, .selects RX11 yX11_top yX11_top, .initialized RX11]
def v_X12_ballot : List Cond := .code yX12_ballot cX12_ballot 3 (some .int) :: (e_X12_ballot ++ (wsX120 ++ (wsX110 ++ (v_X12_in ++ (v_X11_top ++ [])))))
theorem te_X12_ballot : GoodIn lw_tbl e_X12_ballot := wGc z219 (wGc z262 (wGc z270 (wGc z3 (wGc z2 (wGc z1 (wGc z269 (wGc z268 (wGc z90 (wGc z89 (wGc z51 (wG0)))))))))))
theorem t_X12_ballot : GoodIn lw_tbl v_X12_ballot := wGc z271 (wGa te_X12_ballot (wGa zcX12 (wGa zcX11 (wGa t_X12_in (wGa t_X11_top (wG0))))))
set_option maxHeartbeats 4000000 in
set_option maxRecDepth 100000 in
theorem c_X12_ballot (l : Launch) (G : va_G) (K : Nat → ClassId) (m0 : Nat) (gm : Nat → Nat) (h1 : Nat) (g1 : Nat → Nat) (h2 : Nat) (g2 : Nat → Nat) (S0 : MS) (a1 : Int32) (sz : Nat) : Met l yX12_ballot v_X12_ballot ({ frames := 1, cells := 0, slots := 0, locals := 22 }) (va_Pc [.ref m0, .int a1] (mSt G K m0 gm h1 g1 h2 g2 sz S0 (p_X12_ballot S0 a1))) (va_Qi (fun (r : Int32) (u : MS) => (r, u) = f_X12_ballot S0 a1) (mB G K m0 gm h1 g1 h2 g2 (va_A (mW K m0 gm h1 g1 h2 g2 S0) sz)) (va_A (mW K m0 gm h1 g1 h2 g2 S0) sz)) 0 0 (va_A (mW K m0 gm h1 g1 h2 g2 S0) sz) := by
  refine Met.ofW (cc := cX12_ballot) (maxL := 3) (ret := (some .int)) (by decide) rfl ?_
  intro p e s m args below meth c s₁ B hml hv
  obtain ⟨rfl, ⟨hsz, hP, hK, hD0, hTE⟩, hp⟩ := hv
  have hx := B.exec
  have hb := B.bytes
  have hr := B.returns
  have hts := atoms_spec (ws := v_X12_ballot) B.pre
  have t_ := t_X12_ballot
  have mw : ∀ w ∈ e_X12_ballot, w ∈ v_X12_ballot := fun w h => List.mem_cons_of_mem _ (List.mem_append_left _ h)
  have hw := fun w (h : w ∈ e_X12_ballot) => hts w (mw w h)
  have iX12 : ∀ w ∈ wsX120, w ∈ v_X12_ballot := fun w h => List.mem_cons_of_mem _ (List.mem_append_right _ (List.mem_append_left _ h))
  have iX11 : ∀ w ∈ wsX110, w ∈ v_X12_ballot := fun w h => List.mem_cons_of_mem _ (List.mem_append_right _ (List.mem_append_right _ (List.mem_append_left _ h)))
  have j_X12_in : ∀ w ∈ v_X12_in, w ∈ v_X12_ballot := fun w h => List.mem_cons_of_mem _ (List.mem_append_right _ (List.mem_append_right _ (List.mem_append_right _ (List.mem_append_left _ h))))
  have j_X11_top : ∀ w ∈ v_X11_top, w ∈ v_X12_ballot := fun w h => List.mem_cons_of_mem _ (List.mem_append_right _ (List.mem_append_right _ (List.mem_append_right _ (List.mem_append_right _ (List.mem_append_left _ h)))))
  have hown : s.vm.findClass RX12 = some m.cls := findClass_of_methodNamed B.named
  have hlocks := B.notSynchronized
  subst hsz
  have hD := hD0.self (sz := s.heap.size)
  generalize hAe : va_A (mW K m0 gm h1 g1 h2 g2 S0) s.heap.size = A at hD ⊢
  have hA : ∀ q : Nat, s.heap.size ≤ q → A q := fun q h => by rw [← hAe]; exact Or.inr h
  have hS : va_S A s.heap s.heap [] := va_S.rf
  have hl := lv_entry ([.ref m0, .int a1]) (n := 3) (Nat.le_of_ble_eq_true rfl)
  rw [lg_entry_eq]
  generalize (lg_sl ([.ref m0, .int a1]) ++ List.replicate (3 - (lg_sl ([.ref m0, .int a1])).length) Slot.unset).toArray = ls at hl ⊢
  have hl : lv_has ls 3 [(0, .ref m0), (1, .int a1)] := hl
  refine wGen (fun Q hQ => ?_)
  obtain ⟨X, hX⟩ : ∃ X, f_X12_ballot S0 a1 = X := ⟨_, rfl⟩
  have B_27 : ∀ (S : MS) (x1 : Int32) (H : Heap) (locs : List Loc) (ls : Array Slot), b_X12_ballot_27 S x1 = X → q_X12_ballot_27 S x1 → va_P G vwCl (mW K m0 gm h1 g1 h2 g2 S) H → va_D A (mW K m0 gm h1 g1 h2 g2 S) → va_S A s.heap H locs → lv_has ls 3 [(0, .ref m0), (1, .int x1)] → W p l e ({ frames := 1, cells := 0, slots := 0, locals := 22 } : Room) s m #[Value.ref m0, Value.int a1] below meth c H locs 0 0 Q (F0 m 27 ls []) := by
    intro S x1 H locs ls hE hp hP hD hS hl
    unfold b_X12_ballot_27 at hE
    unfold q_X12_ballot_27 at hp
    refine lv_iconst (v := (-1)) hx hb dX12_ballot_27 (by decide) ?_
    subst hQ
    exact W.iret (v := (-1)) hx hb hr (fun t ht hW => ⟨⟨(-1), S, rfl, hE.trans hX.symm, by rw [ht]; exact hP, hD⟩, hS.F ht⟩) hS.2.2 dX12_ballot_28
  have B_61 : ∀ (S : MS) (x1 x2 y0 : Int32) (H : Heap) (locs : List Loc) (ls : Array Slot), b_X12_ballot_61 S x1 x2 y0 = X → q_X12_ballot_61 S x1 x2 y0 → va_P G vwCl (mW K m0 gm h1 g1 h2 g2 S) H → va_D A (mW K m0 gm h1 g1 h2 g2 S) → va_S A s.heap H locs → lv_has ls 3 [(0, .ref m0), (1, .int x1), (2, .int x2)] → W p l e ({ frames := 1, cells := 0, slots := 0, locals := 22 } : Room) s m #[Value.ref m0, Value.int a1] below meth c H locs 0 0 Q (F0 m 61 ls [.int y0]) := by
    intro S x1 x2 y0 H locs ls hE hp hP hD hS hl
    unfold b_X12_ballot_61 at hE
    unfold q_X12_ballot_61 at hp
    subst hQ
    exact W.iret (v := y0) hx hb hr (fun t ht hW => ⟨⟨y0, S, rfl, hE.trans hX.symm, by rw [ht]; exact hP, hD⟩, hS.F ht⟩) hS.2.2 dX12_ballot_61
  have B_M : ∀ (S : MS) (x1 : Int32) (H : Heap) (locs : List Loc) (ls : Array Slot), f_X12_ballot S x1 = X → p_X12_ballot S x1 → va_P G vwCl (mW K m0 gm h1 g1 h2 g2 S) H → va_D A (mW K m0 gm h1 g1 h2 g2 S) → va_S A s.heap H locs → lv_has ls 3 [(0, .ref m0), (1, .int x1)] → W p l e ({ frames := 1, cells := 0, slots := 0, locals := 22 } : Room) s m #[Value.ref m0, Value.int a1] below meth c H locs 0 0 Q (F0 m 0 ls []) := by
    intro S x1 H locs ls hE hp hP hD hS hl
    unfold f_X12_ballot at hE
    unfold p_X12_ballot at hp
    refine lv_aload_n hx hb dX12_ballot_0 rfl (lv_at hl 0 rfl) ?_
    refine va_get (D := G) (ci := 9) (v := .ref h1) (C := RX12) (T := TX12) (N := 7) hx hb hts iX12 hown hK hP 0 rfl rfl 0 (by decide) (hw (.fieldLink RX12 16 "MotionFloorModel" "hall" "LMotionFloorModel$Hall;") (List.mem_of_getElem? (i := 0) rfl)) (fun _ h9 => h9) rfl dX12_ballot_1 ?_
    refine va_get (D := G) (ci := 8) (v := .int (S.2.1.1 6)) (C := RX11) (T := TX11) (N := 42) hx hb hts iX11 hown hK hP 5 rfl rfl 6 (by decide) (hw (.fieldLink RX12 55 "MotionFloorModel$Hall" "pending" "I") (List.mem_of_getElem? (i := 1) rfl)) (fun _ h9 => h9) rfl dX12_ballot_4 ?_
    refine lv_if_eq (tgt := 27) hx hb dX12_ballot_7 (by decide) (fun c1 => ?_) (fun c1 => ?_)
    · rw [if_pos c1] at hE hp
      exact B_27 S x1 _ _ _ hE hp hP hD hS (lv_sub hl [0, 1] rfl)
    · rw [if_neg c1] at hE hp
      refine lv_iload_n hx hb dX12_ballot_10 rfl (lv_at hl 1 rfl) ?_
      refine lv_iconst (v := 0) hx hb dX12_ballot_11 (by decide) ?_
      refine lv_aload_n hx hb dX12_ballot_12 rfl (lv_at hl 0 rfl) ?_
      refine va_get (D := G) (ci := 9) (v := .ref h1) (C := RX12) (T := TX12) (N := 7) hx hb hts iX12 hown hK hP 0 rfl rfl 0 (by decide) (hw (.fieldLink RX12 16 "MotionFloorModel" "hall" "LMotionFloorModel$Hall;") (List.mem_of_getElem? (i := 0) rfl)) (fun _ h9 => h9) rfl dX12_ballot_13 ?_
      refine va_get (D := G) (ci := 8) (v := .int (S.2.1.1 0)) (C := RX11) (T := TX11) (N := 42) hx hb hts iX11 hown hK hP 5 rfl rfl 0 (by decide) (hw (.fieldLink RX12 96 "MotionFloorModel$Hall" "seats" "I") (List.mem_of_getElem? (i := 2) rfl)) (fun _ h9 => h9) rfl dX12_ballot_16 ?_
      refine lv_iconst (v := 1) hx hb dX12_ballot_19 (by decide) ?_
      refine lv_isub hx hb dX12_ballot_20 ?_
      obtain ⟨hy2, hp⟩ := hp
      refine nGoi (va_runS (As := [.int x1, .int 0, .int ((S.2.1.1 0) - 1)]) (rest := []) ⟨hx, hb, hml, hown, hts⟩ (c_X12_in l G K x1 0 ((S.2.1.1 0) - 1) _) (va_cwS 3 hts (wGS t_ (mw (.methodLink RX12 1 yX12_in) (List.mem_of_getElem? (i := 3) rfl)) (mw (.static yX12_in) (List.mem_of_getElem? (i := 4) rfl)) (mw (.initialized RX12) (List.mem_of_getElem? (i := 5) rfl)) j_X12_in) rfl rfl rfl (by decide +kernel) ⟨Nat.le_of_ble_eq_true rfl, Nat.le_of_ble_eq_true rfl⟩) (nPS hK hTE hy2) rfl rfl hl.1 rfl (lv_room (Nat.le_of_ble_eq_true rfl)) dX12_ballot_21 ⟨Nat.le_of_ble_eq_true rfl, Nat.le_of_ble_eq_true rfl⟩) hP hS hA (fun r H locs hv hP hS => ?_)
      subst hv
      refine lv_if_ne (tgt := 29) hx hb dX12_ballot_24 (by decide) (fun c3 => ?_) (fun c3 => ?_)
      · rw [if_neg c3] at hE hp
        refine lv_aload_n hx hb dX12_ballot_29 rfl (lv_at hl 0 rfl) ?_
        refine va_get (D := G) (ci := 9) (v := .ref h1) (C := RX12) (T := TX12) (N := 7) hx hb hts iX12 hown hK hP 0 rfl rfl 0 (by decide) (hw (.fieldLink RX12 16 "MotionFloorModel" "hall" "LMotionFloorModel$Hall;") (List.mem_of_getElem? (i := 0) rfl)) (fun _ h9 => h9) rfl dX12_ballot_30 ?_
        refine va_get (D := G) (ci := 8) (v := .ref (g1 29)) (C := RX11) (T := TX11) (N := 42) hx hb hts iX11 hown hK hP 5 rfl rfl 29 (by decide) (hw (.fieldLink RX12 99 "MotionFloorModel$Hall" "ballot" "[B") (List.mem_of_getElem? (i := 6) rfl)) (fun _ h9 => h9) rfl dX12_ballot_33 ?_
        refine lv_sipush (v := 200) hx hb dX12_ballot_36 (by decide) ?_
        refine lv_aload_n hx hb dX12_ballot_39 rfl (lv_at hl 0 rfl) ?_
        refine va_get (D := G) (ci := 9) (v := .ref h1) (C := RX12) (T := TX12) (N := 7) hx hb hts iX12 hown hK hP 0 rfl rfl 0 (by decide) (hw (.fieldLink RX12 16 "MotionFloorModel" "hall" "LMotionFloorModel$Hall;") (List.mem_of_getElem? (i := 0) rfl)) (fun _ h9 => h9) rfl dX12_ballot_40 ?_
        obtain ⟨hy4, hp⟩ := hp
        refine mGoi_h (va_runV (As := []) (rest := [.int 200, .ref (g1 29)]) ⟨hx, hb, hml, hown, hts⟩ (c_X11_top l G K h1 g1 S.2.1 _) (cwV 0 hts (wGV t_ (mw (.methodLink RX12 103 yX11_top) (List.mem_of_getElem? (i := 7) rfl)) (mw (.instanceMethod yX11_top) (List.mem_of_getElem? (i := 8) rfl)) (mw (.selects RX11 yX11_top yX11_top) (List.mem_of_getElem? (i := 9) rfl)) (mw (.initialized RX11) (List.mem_of_getElem? (i := 10) rfl)) j_X11_top) rfl rfl rfl (by decide +kernel) ⟨Nat.le_of_ble_eq_true rfl, Nat.le_of_ble_eq_true rfl⟩) (hPV hK hTE (mP_h hP) (mD_h hD) hy4) rfl rfl hl.1 rfl (lv_room (Nat.le_of_ble_eq_true rfl)) dX12_ballot_43 ⟨Nat.le_of_ble_eq_true rfl, Nat.le_of_ble_eq_true rfl⟩) hP hD hS hA (fun r6 u5 H locs hv hP hD hS => ?_)
        rw [← hv] at hE hp
        dsimp only at hE hp
        unfold b_X12_ballot_a46 at hE
        unfold q_X12_ballot_a46 at hp
        refine lv_imul hx hb dX12_ballot_46 ?_
        refine lv_iload_n hx hb dX12_ballot_47 rfl (lv_at hl 1 rfl) ?_
        refine lv_iadd hx hb dX12_ballot_48 ?_
        obtain ⟨hy7, hp⟩ := hp
        refine va_bald hx hb hK hP 24 2 rfl rfl hy7 dX12_ballot_49 ?_
        refine lv_istore_n (lv' := [(2, .int (((mH S u5).2.1).2 29 ((200 * r6) + x1).toNatClampNeg)), (0, .ref m0), (1, .int x1)]) hx hb dX12_ballot_50 rfl hl (by decide) rfl (fun ls hl => ?_)
        refine lv_iload_n hx hb dX12_ballot_51 rfl (lv_at hl 0 rfl) ?_
        refine lv_iconst (v := 2) hx hb dX12_ballot_52 (by decide) ?_
        refine lv_icmp_ne (tgt := 60) hx hb dX12_ballot_53 (by decide) (fun c8 => ?_) (fun c8 => ?_)
        · rw [if_neg c8] at hE hp
          refine lv_iload_n hx hb dX12_ballot_60 rfl (lv_at hl 0 rfl) ?_
          exact B_61 (mH S u5) x1 (((mH S u5).2.1).2 29 ((200 * r6) + x1).toNatClampNeg) (((mH S u5).2.1).2 29 ((200 * r6) + x1).toNatClampNeg) _ _ _ hE hp hP hD hS (lv_sub hl [1, 2, 0] rfl)
        · rw [if_pos c8] at hE hp
          refine lv_iconst (v := (-1)) hx hb dX12_ballot_56 (by decide) ?_
          refine lv_goto (tgt := 61) hx hb dX12_ballot_57 (by decide) ?_
          exact B_61 (mH S u5) x1 (((mH S u5).2.1).2 29 ((200 * r6) + x1).toNatClampNeg) (-1) _ _ _ hE hp hP hD hS (lv_sub hl [1, 2, 0] rfl)
      · rw [if_pos c3] at hE hp
        exact B_27 S x1 _ _ _ hE hp hP hD hS (lv_sub hl [0, 1] rfl)
  exact B_M S0 a1 _ _ _ hX hp hP hD hS hl
theorem dX12_desk_63 : decode cX12_desk 63 = .ok (.tableswitch 132 0 4 #[33, 61, 81, 92, 112], 33) := by decide +kernel
theorem gdX12_desk_0 : ckS (List.drop 0 cX12_desk.data.toList) 0 [(0, .iload_n 1, 1), (1, .iconst 0, 1), (2, .bipush 7, 2), (4, .invokestatic 1, 3), (7, .ifCond .eq 12, 3), (10, .iload_n 2, 1), (11, .iconst 0, 1), (12, .iconst 5, 1), (13, .invokestatic 1, 3), (16, .ifCond .ne 5, 3), (19, .iconst (-1), 1), (20, .ireturn, 1), (21, .aload_n 0, 1), (22, .getfield 16, 3), (25, .getfield 107, 3), (28, .iload_n 1, 1), (29, .iaload, 1), (30, .istore_n 3, 1), (31, .iload_n 3, 1), (32, .ifCond .ne 5, 3), (35, .iconst 0, 1), (36, .ireturn, 1), (37, .aload_n 0, 1), (38, .getfield 16, 3), (41, .getfield 110, 3), (44, .bipush 9, 2), (46, .iload_n 1, 1), (47, .imul, 1), (48, .iaload, 1), (49, .istore 4, 2), (51, .aload_n 0, 1), (52, .getfield 16, 3), (55, .getfield 113, 3), (58, .iload_n 1, 1), (59, .baload, 1), (60, .istore 5, 2), (62, .iload_n 2, 1), (96, .iload 5, 2), (98, .ifCond .eq 7, 3), (101, .iconst 3, 1)] = true := by decide +kernel
theorem dX12_desk_0 : decode cX12_desk 0 = .ok (.iload_n 1, 1) := ckS_g gdX12_desk_0 0 rfl
theorem dX12_desk_1 : decode cX12_desk 1 = .ok (.iconst 0, 1) := ckS_g gdX12_desk_0 1 rfl
theorem dX12_desk_2 : decode cX12_desk 2 = .ok (.bipush 7, 2) := ckS_g gdX12_desk_0 2 rfl
theorem dX12_desk_4 : decode cX12_desk 4 = .ok (.invokestatic 1, 3) := ckS_g gdX12_desk_0 3 rfl
theorem dX12_desk_7 : decode cX12_desk 7 = .ok (.ifCond .eq 12, 3) := ckS_g gdX12_desk_0 4 rfl
theorem dX12_desk_10 : decode cX12_desk 10 = .ok (.iload_n 2, 1) := ckS_g gdX12_desk_0 5 rfl
theorem dX12_desk_11 : decode cX12_desk 11 = .ok (.iconst 0, 1) := ckS_g gdX12_desk_0 6 rfl
theorem dX12_desk_12 : decode cX12_desk 12 = .ok (.iconst 5, 1) := ckS_g gdX12_desk_0 7 rfl
theorem dX12_desk_13 : decode cX12_desk 13 = .ok (.invokestatic 1, 3) := ckS_g gdX12_desk_0 8 rfl
theorem dX12_desk_16 : decode cX12_desk 16 = .ok (.ifCond .ne 5, 3) := ckS_g gdX12_desk_0 9 rfl
theorem dX12_desk_19 : decode cX12_desk 19 = .ok (.iconst (-1), 1) := ckS_g gdX12_desk_0 10 rfl
theorem dX12_desk_20 : decode cX12_desk 20 = .ok (.ireturn, 1) := ckS_g gdX12_desk_0 11 rfl
theorem dX12_desk_21 : decode cX12_desk 21 = .ok (.aload_n 0, 1) := ckS_g gdX12_desk_0 12 rfl
theorem dX12_desk_22 : decode cX12_desk 22 = .ok (.getfield 16, 3) := ckS_g gdX12_desk_0 13 rfl
theorem dX12_desk_25 : decode cX12_desk 25 = .ok (.getfield 107, 3) := ckS_g gdX12_desk_0 14 rfl
theorem dX12_desk_28 : decode cX12_desk 28 = .ok (.iload_n 1, 1) := ckS_g gdX12_desk_0 15 rfl
theorem dX12_desk_29 : decode cX12_desk 29 = .ok (.iaload, 1) := ckS_g gdX12_desk_0 16 rfl
theorem dX12_desk_30 : decode cX12_desk 30 = .ok (.istore_n 3, 1) := ckS_g gdX12_desk_0 17 rfl
theorem dX12_desk_31 : decode cX12_desk 31 = .ok (.iload_n 3, 1) := ckS_g gdX12_desk_0 18 rfl
theorem dX12_desk_32 : decode cX12_desk 32 = .ok (.ifCond .ne 5, 3) := ckS_g gdX12_desk_0 19 rfl
theorem dX12_desk_35 : decode cX12_desk 35 = .ok (.iconst 0, 1) := ckS_g gdX12_desk_0 20 rfl
theorem dX12_desk_36 : decode cX12_desk 36 = .ok (.ireturn, 1) := ckS_g gdX12_desk_0 21 rfl
theorem dX12_desk_37 : decode cX12_desk 37 = .ok (.aload_n 0, 1) := ckS_g gdX12_desk_0 22 rfl
theorem dX12_desk_38 : decode cX12_desk 38 = .ok (.getfield 16, 3) := ckS_g gdX12_desk_0 23 rfl
theorem dX12_desk_41 : decode cX12_desk 41 = .ok (.getfield 110, 3) := ckS_g gdX12_desk_0 24 rfl
theorem dX12_desk_44 : decode cX12_desk 44 = .ok (.bipush 9, 2) := ckS_g gdX12_desk_0 25 rfl
theorem dX12_desk_46 : decode cX12_desk 46 = .ok (.iload_n 1, 1) := ckS_g gdX12_desk_0 26 rfl
theorem dX12_desk_47 : decode cX12_desk 47 = .ok (.imul, 1) := ckS_g gdX12_desk_0 27 rfl
theorem dX12_desk_48 : decode cX12_desk 48 = .ok (.iaload, 1) := ckS_g gdX12_desk_0 28 rfl
theorem dX12_desk_49 : decode cX12_desk 49 = .ok (.istore 4, 2) := ckS_g gdX12_desk_0 29 rfl
theorem dX12_desk_51 : decode cX12_desk 51 = .ok (.aload_n 0, 1) := ckS_g gdX12_desk_0 30 rfl
theorem dX12_desk_52 : decode cX12_desk 52 = .ok (.getfield 16, 3) := ckS_g gdX12_desk_0 31 rfl
theorem dX12_desk_55 : decode cX12_desk 55 = .ok (.getfield 113, 3) := ckS_g gdX12_desk_0 32 rfl
theorem dX12_desk_58 : decode cX12_desk 58 = .ok (.iload_n 1, 1) := ckS_g gdX12_desk_0 33 rfl
theorem dX12_desk_59 : decode cX12_desk 59 = .ok (.baload, 1) := ckS_g gdX12_desk_0 34 rfl
theorem dX12_desk_60 : decode cX12_desk 60 = .ok (.istore 5, 2) := ckS_g gdX12_desk_0 35 rfl
theorem dX12_desk_62 : decode cX12_desk 62 = .ok (.iload_n 2, 1) := ckS_g gdX12_desk_0 36 rfl
theorem dX12_desk_96 : decode cX12_desk 96 = .ok (.iload 5, 2) := ckS_g gdX12_desk_0 37 rfl
theorem dX12_desk_98 : decode cX12_desk 98 = .ok (.ifCond .eq 7, 3) := ckS_g gdX12_desk_0 38 rfl
theorem dX12_desk_101 : decode cX12_desk 101 = .ok (.iconst 3, 1) := ckS_g gdX12_desk_0 39 rfl
theorem gdX12_desk_102 : ckS (List.drop 102 cX12_desk.data.toList) 102 [(102, .goto 21, 3), (105, .aload_n 0, 1), (106, .getfield 16, 3), (109, .getfield 116, 3), (112, .iload 4, 2), (114, .baload, 1), (115, .ifCond .eq 7, 3), (118, .iconst 1, 1), (119, .goto 4, 3), (122, .iconst 2, 1), (123, .ireturn, 1), (124, .iload 5, 2), (126, .ifCond .eq 7, 3), (129, .iload_n 3, 1), (130, .goto 13, 3), (133, .aload_n 0, 1), (134, .getfield 16, 3), (137, .getfield 61, 3), (140, .iload 4, 2), (142, .iaload, 1), (143, .ireturn, 1), (144, .aload_n 0, 1), (145, .getfield 16, 3), (148, .getfield 70, 3), (151, .iload 4, 2), (153, .iaload, 1), (154, .ireturn, 1), (155, .iload 5, 2), (157, .ifCond .eq 7, 3), (160, .iconst 0, 1), (161, .goto 13, 3), (164, .aload_n 0, 1), (165, .getfield 16, 3), (168, .getfield 73, 3), (171, .iload 4, 2), (173, .iaload, 1), (174, .ireturn, 1), (175, .iload 5, 2), (177, .ifCond .eq 7, 3), (180, .iconst 0, 1)] = true := by decide +kernel
theorem dX12_desk_102 : decode cX12_desk 102 = .ok (.goto 21, 3) := ckS_g gdX12_desk_102 0 rfl
theorem dX12_desk_105 : decode cX12_desk 105 = .ok (.aload_n 0, 1) := ckS_g gdX12_desk_102 1 rfl
theorem dX12_desk_106 : decode cX12_desk 106 = .ok (.getfield 16, 3) := ckS_g gdX12_desk_102 2 rfl
theorem dX12_desk_109 : decode cX12_desk 109 = .ok (.getfield 116, 3) := ckS_g gdX12_desk_102 3 rfl
theorem dX12_desk_112 : decode cX12_desk 112 = .ok (.iload 4, 2) := ckS_g gdX12_desk_102 4 rfl
theorem dX12_desk_114 : decode cX12_desk 114 = .ok (.baload, 1) := ckS_g gdX12_desk_102 5 rfl
theorem dX12_desk_115 : decode cX12_desk 115 = .ok (.ifCond .eq 7, 3) := ckS_g gdX12_desk_102 6 rfl
theorem dX12_desk_118 : decode cX12_desk 118 = .ok (.iconst 1, 1) := ckS_g gdX12_desk_102 7 rfl
theorem dX12_desk_119 : decode cX12_desk 119 = .ok (.goto 4, 3) := ckS_g gdX12_desk_102 8 rfl
theorem dX12_desk_122 : decode cX12_desk 122 = .ok (.iconst 2, 1) := ckS_g gdX12_desk_102 9 rfl
theorem dX12_desk_123 : decode cX12_desk 123 = .ok (.ireturn, 1) := ckS_g gdX12_desk_102 10 rfl
theorem dX12_desk_124 : decode cX12_desk 124 = .ok (.iload 5, 2) := ckS_g gdX12_desk_102 11 rfl
theorem dX12_desk_126 : decode cX12_desk 126 = .ok (.ifCond .eq 7, 3) := ckS_g gdX12_desk_102 12 rfl
theorem dX12_desk_129 : decode cX12_desk 129 = .ok (.iload_n 3, 1) := ckS_g gdX12_desk_102 13 rfl
theorem dX12_desk_130 : decode cX12_desk 130 = .ok (.goto 13, 3) := ckS_g gdX12_desk_102 14 rfl
theorem dX12_desk_133 : decode cX12_desk 133 = .ok (.aload_n 0, 1) := ckS_g gdX12_desk_102 15 rfl
theorem dX12_desk_134 : decode cX12_desk 134 = .ok (.getfield 16, 3) := ckS_g gdX12_desk_102 16 rfl
theorem dX12_desk_137 : decode cX12_desk 137 = .ok (.getfield 61, 3) := ckS_g gdX12_desk_102 17 rfl
theorem dX12_desk_140 : decode cX12_desk 140 = .ok (.iload 4, 2) := ckS_g gdX12_desk_102 18 rfl
theorem dX12_desk_142 : decode cX12_desk 142 = .ok (.iaload, 1) := ckS_g gdX12_desk_102 19 rfl
theorem dX12_desk_143 : decode cX12_desk 143 = .ok (.ireturn, 1) := ckS_g gdX12_desk_102 20 rfl
theorem dX12_desk_144 : decode cX12_desk 144 = .ok (.aload_n 0, 1) := ckS_g gdX12_desk_102 21 rfl
theorem dX12_desk_145 : decode cX12_desk 145 = .ok (.getfield 16, 3) := ckS_g gdX12_desk_102 22 rfl
theorem dX12_desk_148 : decode cX12_desk 148 = .ok (.getfield 70, 3) := ckS_g gdX12_desk_102 23 rfl
theorem dX12_desk_151 : decode cX12_desk 151 = .ok (.iload 4, 2) := ckS_g gdX12_desk_102 24 rfl
theorem dX12_desk_153 : decode cX12_desk 153 = .ok (.iaload, 1) := ckS_g gdX12_desk_102 25 rfl
theorem dX12_desk_154 : decode cX12_desk 154 = .ok (.ireturn, 1) := ckS_g gdX12_desk_102 26 rfl
theorem dX12_desk_155 : decode cX12_desk 155 = .ok (.iload 5, 2) := ckS_g gdX12_desk_102 27 rfl
theorem dX12_desk_157 : decode cX12_desk 157 = .ok (.ifCond .eq 7, 3) := ckS_g gdX12_desk_102 28 rfl
theorem dX12_desk_160 : decode cX12_desk 160 = .ok (.iconst 0, 1) := ckS_g gdX12_desk_102 29 rfl
theorem dX12_desk_161 : decode cX12_desk 161 = .ok (.goto 13, 3) := ckS_g gdX12_desk_102 30 rfl
theorem dX12_desk_164 : decode cX12_desk 164 = .ok (.aload_n 0, 1) := ckS_g gdX12_desk_102 31 rfl
theorem dX12_desk_165 : decode cX12_desk 165 = .ok (.getfield 16, 3) := ckS_g gdX12_desk_102 32 rfl
theorem dX12_desk_168 : decode cX12_desk 168 = .ok (.getfield 73, 3) := ckS_g gdX12_desk_102 33 rfl
theorem dX12_desk_171 : decode cX12_desk 171 = .ok (.iload 4, 2) := ckS_g gdX12_desk_102 34 rfl
theorem dX12_desk_173 : decode cX12_desk 173 = .ok (.iaload, 1) := ckS_g gdX12_desk_102 35 rfl
theorem dX12_desk_174 : decode cX12_desk 174 = .ok (.ireturn, 1) := ckS_g gdX12_desk_102 36 rfl
theorem dX12_desk_175 : decode cX12_desk 175 = .ok (.iload 5, 2) := ckS_g gdX12_desk_102 37 rfl
theorem dX12_desk_177 : decode cX12_desk 177 = .ok (.ifCond .eq 7, 3) := ckS_g gdX12_desk_102 38 rfl
theorem dX12_desk_180 : decode cX12_desk 180 = .ok (.iconst 0, 1) := ckS_g gdX12_desk_102 39 rfl
theorem gdX12_desk_181 : ckS (List.drop 181 cX12_desk.data.toList) 181 [(181, .goto 13, 3), (184, .aload_n 0, 1), (185, .getfield 16, 3), (188, .getfield 76, 3), (191, .iload 4, 2), (193, .iaload, 1), (194, .ireturn, 1), (195, .iload 5, 2), (197, .ifCond .ne 20, 3), (200, .aload_n 0, 1), (201, .getfield 16, 3), (204, .getfield 119, 3), (207, .iload 4, 2), (209, .baload, 1), (210, .ifCond .eq 7, 3), (213, .iconst 1, 1), (214, .goto 4, 3), (217, .iconst 0, 1), (218, .ireturn, 1)] = true := by decide +kernel
theorem dX12_desk_181 : decode cX12_desk 181 = .ok (.goto 13, 3) := ckS_g gdX12_desk_181 0 rfl
theorem dX12_desk_184 : decode cX12_desk 184 = .ok (.aload_n 0, 1) := ckS_g gdX12_desk_181 1 rfl
theorem dX12_desk_185 : decode cX12_desk 185 = .ok (.getfield 16, 3) := ckS_g gdX12_desk_181 2 rfl
theorem dX12_desk_188 : decode cX12_desk 188 = .ok (.getfield 76, 3) := ckS_g gdX12_desk_181 3 rfl
theorem dX12_desk_191 : decode cX12_desk 191 = .ok (.iload 4, 2) := ckS_g gdX12_desk_181 4 rfl
theorem dX12_desk_193 : decode cX12_desk 193 = .ok (.iaload, 1) := ckS_g gdX12_desk_181 5 rfl
theorem dX12_desk_194 : decode cX12_desk 194 = .ok (.ireturn, 1) := ckS_g gdX12_desk_181 6 rfl
theorem dX12_desk_195 : decode cX12_desk 195 = .ok (.iload 5, 2) := ckS_g gdX12_desk_181 7 rfl
theorem dX12_desk_197 : decode cX12_desk 197 = .ok (.ifCond .ne 20, 3) := ckS_g gdX12_desk_181 8 rfl
theorem dX12_desk_200 : decode cX12_desk 200 = .ok (.aload_n 0, 1) := ckS_g gdX12_desk_181 9 rfl
theorem dX12_desk_201 : decode cX12_desk 201 = .ok (.getfield 16, 3) := ckS_g gdX12_desk_181 10 rfl
theorem dX12_desk_204 : decode cX12_desk 204 = .ok (.getfield 119, 3) := ckS_g gdX12_desk_181 11 rfl
theorem dX12_desk_207 : decode cX12_desk 207 = .ok (.iload 4, 2) := ckS_g gdX12_desk_181 12 rfl
theorem dX12_desk_209 : decode cX12_desk 209 = .ok (.baload, 1) := ckS_g gdX12_desk_181 13 rfl
theorem dX12_desk_210 : decode cX12_desk 210 = .ok (.ifCond .eq 7, 3) := ckS_g gdX12_desk_181 14 rfl
theorem dX12_desk_213 : decode cX12_desk 213 = .ok (.iconst 1, 1) := ckS_g gdX12_desk_181 15 rfl
theorem dX12_desk_214 : decode cX12_desk 214 = .ok (.goto 4, 3) := ckS_g gdX12_desk_181 16 rfl
theorem dX12_desk_217 : decode cX12_desk 217 = .ok (.iconst 0, 1) := ckS_g gdX12_desk_181 17 rfl
theorem dX12_desk_218 : decode cX12_desk 218 = .ok (.ireturn, 1) := ckS_g gdX12_desk_181 18 rfl
set_option maxRecDepth 100000 in
theorem z272 : wZ (.fieldLink RX12 119 "MotionFloorModel$Hall" "outside" "[Z") := ⟨wT5 (List.mem_of_getElem? (i := 82) (by decide +kernel)), Or.inl rfl⟩
set_option maxRecDepth 100000 in
theorem z273 : wZ (.fieldLink RX12 116 "MotionFloorModel$Hall" "letter" "[Z") := ⟨wT5 (List.mem_of_getElem? (i := 84) (by decide +kernel)), Or.inl rfl⟩
set_option maxRecDepth 100000 in
theorem z274 : wZ (.fieldLink RX12 113 "MotionFloorModel$Hall" "tabled" "[Z") := ⟨wT5 (List.mem_of_getElem? (i := 103) (by decide +kernel)), Or.inl rfl⟩
set_option maxRecDepth 100000 in
theorem z275 : wZ (.fieldLink RX12 110 "MotionFloorModel$Hall" "desk" "[I") := ⟨wT5 (List.mem_of_getElem? (i := 95) (by decide +kernel)), Or.inl rfl⟩
set_option maxRecDepth 100000 in
theorem z276 : wZ (.fieldLink RX12 107 "MotionFloorModel$Hall" "lying" "[I") := ⟨wT5 (List.mem_of_getElem? (i := 97) (by decide +kernel)), Or.inl rfl⟩
set_option maxRecDepth 100000 in
theorem z277 : wZ (.code yX12_desk cX12_desk 6 (some .int)) := ⟨wT6 (List.mem_of_getElem? (i := 230) rfl), Or.inl rfl⟩
def b_X12_desk_19 (S : MS) (x1 x2 : Int32) : Int32 × MS := ((-1), S)
def q_X12_desk_19 (S : MS) (x1 x2 : Int32) : Prop := True
def b_X12_desk_123 (S : MS) (x1 x2 x3 x4 x5 y0 : Int32) : Int32 × MS := (y0, S)
def q_X12_desk_123 (S : MS) (x1 x2 x3 x4 x5 y0 : Int32) : Prop := True
def b_X12_desk_143 (S : MS) (x1 x2 x3 x4 x5 y0 : Int32) : Int32 × MS := (y0, S)
def q_X12_desk_143 (S : MS) (x1 x2 x3 x4 x5 y0 : Int32) : Prop := True
def b_X12_desk_174 (S : MS) (x1 x2 x3 x4 x5 y0 : Int32) : Int32 × MS := (y0, S)
def q_X12_desk_174 (S : MS) (x1 x2 x3 x4 x5 y0 : Int32) : Prop := True
def b_X12_desk_194 (S : MS) (x1 x2 x3 x4 x5 y0 : Int32) : Int32 × MS := (y0, S)
def q_X12_desk_194 (S : MS) (x1 x2 x3 x4 x5 y0 : Int32) : Prop := True
def b_X12_desk_218 (S : MS) (x1 x2 x3 x4 x5 y0 : Int32) : Int32 × MS := (y0, S)
def q_X12_desk_218 (S : MS) (x1 x2 x3 x4 x5 y0 : Int32) : Prop := True
def b_X12_desk_217 (S : MS) (x1 x2 x3 x4 x5 : Int32) : Int32 × MS := (b_X12_desk_218 S x1 x2 x3 x4 x5 0)
def q_X12_desk_217 (S : MS) (x1 x2 x3 x4 x5 : Int32) : Prop := (q_X12_desk_218 S x1 x2 x3 x4 x5 0)
def f_X12_desk (S : MS) (x1 x2 : Int32) : Int32 × MS := if (f_X12_in x1 0 7) = 0 then (b_X12_desk_19 S x1 x2) else if (f_X12_in x2 0 5) = 0 then (b_X12_desk_19 S x1 x2) else if (S.2.1.2 34 x1.toNatClampNeg) = 0 then (0, S) else if x2 = 0 then if (S.2.1.2 37 x1.toNatClampNeg) = 0 then if (S.2.1.2 27 (S.2.1.2 33 (9 * x1).toNatClampNeg).toNatClampNeg) = 0 then (b_X12_desk_123 S x1 x2 (S.2.1.2 34 x1.toNatClampNeg) (S.2.1.2 33 (9 * x1).toNatClampNeg) (S.2.1.2 37 x1.toNatClampNeg) 2) else (b_X12_desk_123 S x1 x2 (S.2.1.2 34 x1.toNatClampNeg) (S.2.1.2 33 (9 * x1).toNatClampNeg) (S.2.1.2 37 x1.toNatClampNeg) 1) else (b_X12_desk_123 S x1 x2 (S.2.1.2 34 x1.toNatClampNeg) (S.2.1.2 33 (9 * x1).toNatClampNeg) (S.2.1.2 37 x1.toNatClampNeg) 3) else if x2 = 1 then if (S.2.1.2 37 x1.toNatClampNeg) = 0 then (b_X12_desk_143 S x1 x2 (S.2.1.2 34 x1.toNatClampNeg) (S.2.1.2 33 (9 * x1).toNatClampNeg) (S.2.1.2 37 x1.toNatClampNeg) (S.2.1.2 14 (S.2.1.2 33 (9 * x1).toNatClampNeg).toNatClampNeg)) else (b_X12_desk_143 S x1 x2 (S.2.1.2 34 x1.toNatClampNeg) (S.2.1.2 33 (9 * x1).toNatClampNeg) (S.2.1.2 37 x1.toNatClampNeg) (S.2.1.2 34 x1.toNatClampNeg)) else if x2 = 2 then ((S.2.1.2 19 (S.2.1.2 33 (9 * x1).toNatClampNeg).toNatClampNeg), S) else if x2 = 3 then if (S.2.1.2 37 x1.toNatClampNeg) = 0 then (b_X12_desk_174 S x1 x2 (S.2.1.2 34 x1.toNatClampNeg) (S.2.1.2 33 (9 * x1).toNatClampNeg) (S.2.1.2 37 x1.toNatClampNeg) (S.2.1.2 20 (S.2.1.2 33 (9 * x1).toNatClampNeg).toNatClampNeg)) else (b_X12_desk_174 S x1 x2 (S.2.1.2 34 x1.toNatClampNeg) (S.2.1.2 33 (9 * x1).toNatClampNeg) (S.2.1.2 37 x1.toNatClampNeg) 0) else if x2 = 4 then if (S.2.1.2 37 x1.toNatClampNeg) = 0 then (b_X12_desk_194 S x1 x2 (S.2.1.2 34 x1.toNatClampNeg) (S.2.1.2 33 (9 * x1).toNatClampNeg) (S.2.1.2 37 x1.toNatClampNeg) (S.2.1.2 21 (S.2.1.2 33 (9 * x1).toNatClampNeg).toNatClampNeg)) else (b_X12_desk_194 S x1 x2 (S.2.1.2 34 x1.toNatClampNeg) (S.2.1.2 33 (9 * x1).toNatClampNeg) (S.2.1.2 37 x1.toNatClampNeg) 0) else if (S.2.1.2 37 x1.toNatClampNeg) = 0 then if (S.2.1.2 26 (S.2.1.2 33 (9 * x1).toNatClampNeg).toNatClampNeg) = 0 then (b_X12_desk_217 S x1 x2 (S.2.1.2 34 x1.toNatClampNeg) (S.2.1.2 33 (9 * x1).toNatClampNeg) (S.2.1.2 37 x1.toNatClampNeg)) else (b_X12_desk_218 S x1 x2 (S.2.1.2 34 x1.toNatClampNeg) (S.2.1.2 33 (9 * x1).toNatClampNeg) (S.2.1.2 37 x1.toNatClampNeg) 1) else (b_X12_desk_217 S x1 x2 (S.2.1.2 34 x1.toNatClampNeg) (S.2.1.2 33 (9 * x1).toNatClampNeg) (S.2.1.2 37 x1.toNatClampNeg))
def p_X12_desk (S : MS) (x1 x2 : Int32) : Prop := (p_X12_in x1 0 7) ∧ (if (f_X12_in x1 0 7) = 0 then (q_X12_desk_19 S x1 x2) else (p_X12_in x2 0 5) ∧ (if (f_X12_in x2 0 5) = 0 then (q_X12_desk_19 S x1 x2) else (vp_in x1 8) ∧ (if (S.2.1.2 34 x1.toNatClampNeg) = 0 then True else (vp_in (9 * x1) 72) ∧ (vp_in x1 8) ∧ (if x2 = 0 then (if (S.2.1.2 37 x1.toNatClampNeg) = 0 then (vp_in (S.2.1.2 33 (9 * x1).toNatClampNeg) 90) ∧ (if (S.2.1.2 27 (S.2.1.2 33 (9 * x1).toNatClampNeg).toNatClampNeg) = 0 then (q_X12_desk_123 S x1 x2 (S.2.1.2 34 x1.toNatClampNeg) (S.2.1.2 33 (9 * x1).toNatClampNeg) (S.2.1.2 37 x1.toNatClampNeg) 2) else (q_X12_desk_123 S x1 x2 (S.2.1.2 34 x1.toNatClampNeg) (S.2.1.2 33 (9 * x1).toNatClampNeg) (S.2.1.2 37 x1.toNatClampNeg) 1)) else (q_X12_desk_123 S x1 x2 (S.2.1.2 34 x1.toNatClampNeg) (S.2.1.2 33 (9 * x1).toNatClampNeg) (S.2.1.2 37 x1.toNatClampNeg) 3)) else (if x2 = 1 then (if (S.2.1.2 37 x1.toNatClampNeg) = 0 then (vp_in (S.2.1.2 33 (9 * x1).toNatClampNeg) 90) ∧ (q_X12_desk_143 S x1 x2 (S.2.1.2 34 x1.toNatClampNeg) (S.2.1.2 33 (9 * x1).toNatClampNeg) (S.2.1.2 37 x1.toNatClampNeg) (S.2.1.2 14 (S.2.1.2 33 (9 * x1).toNatClampNeg).toNatClampNeg)) else (q_X12_desk_143 S x1 x2 (S.2.1.2 34 x1.toNatClampNeg) (S.2.1.2 33 (9 * x1).toNatClampNeg) (S.2.1.2 37 x1.toNatClampNeg) (S.2.1.2 34 x1.toNatClampNeg))) else (if x2 = 2 then (vp_in (S.2.1.2 33 (9 * x1).toNatClampNeg) 90) ∧ True else (if x2 = 3 then (if (S.2.1.2 37 x1.toNatClampNeg) = 0 then (vp_in (S.2.1.2 33 (9 * x1).toNatClampNeg) 90) ∧ (q_X12_desk_174 S x1 x2 (S.2.1.2 34 x1.toNatClampNeg) (S.2.1.2 33 (9 * x1).toNatClampNeg) (S.2.1.2 37 x1.toNatClampNeg) (S.2.1.2 20 (S.2.1.2 33 (9 * x1).toNatClampNeg).toNatClampNeg)) else (q_X12_desk_174 S x1 x2 (S.2.1.2 34 x1.toNatClampNeg) (S.2.1.2 33 (9 * x1).toNatClampNeg) (S.2.1.2 37 x1.toNatClampNeg) 0)) else (if x2 = 4 then (if (S.2.1.2 37 x1.toNatClampNeg) = 0 then (vp_in (S.2.1.2 33 (9 * x1).toNatClampNeg) 90) ∧ (q_X12_desk_194 S x1 x2 (S.2.1.2 34 x1.toNatClampNeg) (S.2.1.2 33 (9 * x1).toNatClampNeg) (S.2.1.2 37 x1.toNatClampNeg) (S.2.1.2 21 (S.2.1.2 33 (9 * x1).toNatClampNeg).toNatClampNeg)) else (q_X12_desk_194 S x1 x2 (S.2.1.2 34 x1.toNatClampNeg) (S.2.1.2 33 (9 * x1).toNatClampNeg) (S.2.1.2 37 x1.toNatClampNeg) 0)) else (if (S.2.1.2 37 x1.toNatClampNeg) = 0 then (vp_in (S.2.1.2 33 (9 * x1).toNatClampNeg) 90) ∧ (if (S.2.1.2 26 (S.2.1.2 33 (9 * x1).toNatClampNeg).toNatClampNeg) = 0 then (q_X12_desk_217 S x1 x2 (S.2.1.2 34 x1.toNatClampNeg) (S.2.1.2 33 (9 * x1).toNatClampNeg) (S.2.1.2 37 x1.toNatClampNeg)) else (q_X12_desk_218 S x1 x2 (S.2.1.2 34 x1.toNatClampNeg) (S.2.1.2 33 (9 * x1).toNatClampNeg) (S.2.1.2 37 x1.toNatClampNeg) 1)) else (q_X12_desk_217 S x1 x2 (S.2.1.2 34 x1.toNatClampNeg) (S.2.1.2 33 (9 * x1).toNatClampNeg) (S.2.1.2 37 x1.toNatClampNeg)))))))))))
def e_X12_desk : List Cond := [.methodLink RX12 1 yX12_in, .static yX12_in, .initialized RX12, .fieldLink RX12 16 "MotionFloorModel" "hall" "LMotionFloorModel$Hall;", .fieldLink RX12 107 "MotionFloorModel$Hall" "lying" "[I", .fieldLink RX12 110 "MotionFloorModel$Hall" "desk" "[I", .fieldLink RX12 113 "MotionFloorModel$Hall" "tabled" "[Z", .fieldLink RX12 116 "MotionFloorModel$Hall" "letter" "[Z", .fieldLink RX12 61 "MotionFloorModel$Hall" "kind" "[I", .fieldLink RX12 70 "MotionFloorModel$Hall" "words" "[I", .fieldLink RX12 73 "MotionFloorModel$Hall" "from" "[I", .fieldLink RX12 76 "MotionFloorModel$Hall" "to" "[I", .fieldLink RX12 119 "MotionFloorModel$Hall" "outside" "[Z"]
def v_X12_desk : List Cond := .code yX12_desk cX12_desk 6 (some .int) :: (e_X12_desk ++ (wsX120 ++ (wsX110 ++ (v_X12_in ++ []))))
theorem te_X12_desk : GoodIn lw_tbl e_X12_desk := wGc z3 (wGc z2 (wGc z1 (wGc z219 (wGc z276 (wGc z275 (wGc z274 (wGc z273 (wGc z260 (wGc z257 (wGc z256 (wGc z255 (wGc z272 (wG0)))))))))))))
theorem t_X12_desk : GoodIn lw_tbl v_X12_desk := wGc z277 (wGa te_X12_desk (wGa zcX12 (wGa zcX11 (wGa t_X12_in (wG0)))))
set_option maxHeartbeats 4000000 in
set_option maxRecDepth 100000 in
theorem c_X12_desk (l : Launch) (G : va_G) (K : Nat → ClassId) (m0 : Nat) (gm : Nat → Nat) (h1 : Nat) (g1 : Nat → Nat) (h2 : Nat) (g2 : Nat → Nat) (S0 : MS) (a1 a2 : Int32) (sz : Nat) : Met l yX12_desk v_X12_desk ({ frames := 1, cells := 0, slots := 0, locals := 22 }) (va_Pc [.ref m0, .int a1, .int a2] (mSt G K m0 gm h1 g1 h2 g2 sz S0 (p_X12_desk S0 a1 a2))) (va_Qi (fun (r : Int32) (u : MS) => (r, u) = f_X12_desk S0 a1 a2) (mB G K m0 gm h1 g1 h2 g2 (va_A (mW K m0 gm h1 g1 h2 g2 S0) sz)) (va_A (mW K m0 gm h1 g1 h2 g2 S0) sz)) 0 0 (va_A (mW K m0 gm h1 g1 h2 g2 S0) sz) := by
  refine Met.ofW (cc := cX12_desk) (maxL := 6) (ret := (some .int)) (by decide) rfl ?_
  intro p e s m args below meth c s₁ B hml hv
  obtain ⟨rfl, ⟨hsz, hP, hK, hD0, hTE⟩, hp⟩ := hv
  have hx := B.exec
  have hb := B.bytes
  have hr := B.returns
  have hts := atoms_spec (ws := v_X12_desk) B.pre
  have t_ := t_X12_desk
  have mw : ∀ w ∈ e_X12_desk, w ∈ v_X12_desk := fun w h => List.mem_cons_of_mem _ (List.mem_append_left _ h)
  have hw := fun w (h : w ∈ e_X12_desk) => hts w (mw w h)
  have iX12 : ∀ w ∈ wsX120, w ∈ v_X12_desk := fun w h => List.mem_cons_of_mem _ (List.mem_append_right _ (List.mem_append_left _ h))
  have iX11 : ∀ w ∈ wsX110, w ∈ v_X12_desk := fun w h => List.mem_cons_of_mem _ (List.mem_append_right _ (List.mem_append_right _ (List.mem_append_left _ h)))
  have j_X12_in : ∀ w ∈ v_X12_in, w ∈ v_X12_desk := fun w h => List.mem_cons_of_mem _ (List.mem_append_right _ (List.mem_append_right _ (List.mem_append_right _ (List.mem_append_left _ h))))
  have hown : s.vm.findClass RX12 = some m.cls := findClass_of_methodNamed B.named
  have hlocks := B.notSynchronized
  subst hsz
  have hD := hD0.self (sz := s.heap.size)
  generalize hAe : va_A (mW K m0 gm h1 g1 h2 g2 S0) s.heap.size = A at hD ⊢
  have hA : ∀ q : Nat, s.heap.size ≤ q → A q := fun q h => by rw [← hAe]; exact Or.inr h
  have hS : va_S A s.heap s.heap [] := va_S.rf
  have hl := lv_entry ([.ref m0, .int a1, .int a2]) (n := 6) (Nat.le_of_ble_eq_true rfl)
  rw [lg_entry_eq]
  generalize (lg_sl ([.ref m0, .int a1, .int a2]) ++ List.replicate (6 - (lg_sl ([.ref m0, .int a1, .int a2])).length) Slot.unset).toArray = ls at hl ⊢
  have hl : lv_has ls 6 [(0, .ref m0), (1, .int a1), (2, .int a2)] := hl
  refine wGen (fun Q hQ => ?_)
  obtain ⟨X, hX⟩ : ∃ X, f_X12_desk S0 a1 a2 = X := ⟨_, rfl⟩
  have B_19 : ∀ (S : MS) (x1 x2 : Int32) (H : Heap) (locs : List Loc) (ls : Array Slot), b_X12_desk_19 S x1 x2 = X → q_X12_desk_19 S x1 x2 → va_P G vwCl (mW K m0 gm h1 g1 h2 g2 S) H → va_D A (mW K m0 gm h1 g1 h2 g2 S) → va_S A s.heap H locs → lv_has ls 6 [(0, .ref m0), (1, .int x1), (2, .int x2)] → W p l e ({ frames := 1, cells := 0, slots := 0, locals := 22 } : Room) s m #[Value.ref m0, Value.int a1, Value.int a2] below meth c H locs 0 0 Q (F0 m 19 ls []) := by
    intro S x1 x2 H locs ls hE hp hP hD hS hl
    unfold b_X12_desk_19 at hE
    unfold q_X12_desk_19 at hp
    refine lv_iconst (v := (-1)) hx hb dX12_desk_19 (by decide) ?_
    subst hQ
    exact W.iret (v := (-1)) hx hb hr (fun t ht hW => ⟨⟨(-1), S, rfl, hE.trans hX.symm, by rw [ht]; exact hP, hD⟩, hS.F ht⟩) hS.2.2 dX12_desk_20
  have B_123 : ∀ (S : MS) (x1 x2 x3 x4 x5 y0 : Int32) (H : Heap) (locs : List Loc) (ls : Array Slot), b_X12_desk_123 S x1 x2 x3 x4 x5 y0 = X → q_X12_desk_123 S x1 x2 x3 x4 x5 y0 → va_P G vwCl (mW K m0 gm h1 g1 h2 g2 S) H → va_D A (mW K m0 gm h1 g1 h2 g2 S) → va_S A s.heap H locs → lv_has ls 6 [(0, .ref m0), (1, .int x1), (2, .int x2), (3, .int x3), (4, .int x4), (5, .int x5)] → W p l e ({ frames := 1, cells := 0, slots := 0, locals := 22 } : Room) s m #[Value.ref m0, Value.int a1, Value.int a2] below meth c H locs 0 0 Q (F0 m 123 ls [.int y0]) := by
    intro S x1 x2 x3 x4 x5 y0 H locs ls hE hp hP hD hS hl
    unfold b_X12_desk_123 at hE
    unfold q_X12_desk_123 at hp
    subst hQ
    exact W.iret (v := y0) hx hb hr (fun t ht hW => ⟨⟨y0, S, rfl, hE.trans hX.symm, by rw [ht]; exact hP, hD⟩, hS.F ht⟩) hS.2.2 dX12_desk_123
  have B_143 : ∀ (S : MS) (x1 x2 x3 x4 x5 y0 : Int32) (H : Heap) (locs : List Loc) (ls : Array Slot), b_X12_desk_143 S x1 x2 x3 x4 x5 y0 = X → q_X12_desk_143 S x1 x2 x3 x4 x5 y0 → va_P G vwCl (mW K m0 gm h1 g1 h2 g2 S) H → va_D A (mW K m0 gm h1 g1 h2 g2 S) → va_S A s.heap H locs → lv_has ls 6 [(0, .ref m0), (1, .int x1), (2, .int x2), (3, .int x3), (4, .int x4), (5, .int x5)] → W p l e ({ frames := 1, cells := 0, slots := 0, locals := 22 } : Room) s m #[Value.ref m0, Value.int a1, Value.int a2] below meth c H locs 0 0 Q (F0 m 143 ls [.int y0]) := by
    intro S x1 x2 x3 x4 x5 y0 H locs ls hE hp hP hD hS hl
    unfold b_X12_desk_143 at hE
    unfold q_X12_desk_143 at hp
    subst hQ
    exact W.iret (v := y0) hx hb hr (fun t ht hW => ⟨⟨y0, S, rfl, hE.trans hX.symm, by rw [ht]; exact hP, hD⟩, hS.F ht⟩) hS.2.2 dX12_desk_143
  have B_174 : ∀ (S : MS) (x1 x2 x3 x4 x5 y0 : Int32) (H : Heap) (locs : List Loc) (ls : Array Slot), b_X12_desk_174 S x1 x2 x3 x4 x5 y0 = X → q_X12_desk_174 S x1 x2 x3 x4 x5 y0 → va_P G vwCl (mW K m0 gm h1 g1 h2 g2 S) H → va_D A (mW K m0 gm h1 g1 h2 g2 S) → va_S A s.heap H locs → lv_has ls 6 [(0, .ref m0), (1, .int x1), (2, .int x2), (3, .int x3), (4, .int x4), (5, .int x5)] → W p l e ({ frames := 1, cells := 0, slots := 0, locals := 22 } : Room) s m #[Value.ref m0, Value.int a1, Value.int a2] below meth c H locs 0 0 Q (F0 m 174 ls [.int y0]) := by
    intro S x1 x2 x3 x4 x5 y0 H locs ls hE hp hP hD hS hl
    unfold b_X12_desk_174 at hE
    unfold q_X12_desk_174 at hp
    subst hQ
    exact W.iret (v := y0) hx hb hr (fun t ht hW => ⟨⟨y0, S, rfl, hE.trans hX.symm, by rw [ht]; exact hP, hD⟩, hS.F ht⟩) hS.2.2 dX12_desk_174
  have B_194 : ∀ (S : MS) (x1 x2 x3 x4 x5 y0 : Int32) (H : Heap) (locs : List Loc) (ls : Array Slot), b_X12_desk_194 S x1 x2 x3 x4 x5 y0 = X → q_X12_desk_194 S x1 x2 x3 x4 x5 y0 → va_P G vwCl (mW K m0 gm h1 g1 h2 g2 S) H → va_D A (mW K m0 gm h1 g1 h2 g2 S) → va_S A s.heap H locs → lv_has ls 6 [(0, .ref m0), (1, .int x1), (2, .int x2), (3, .int x3), (4, .int x4), (5, .int x5)] → W p l e ({ frames := 1, cells := 0, slots := 0, locals := 22 } : Room) s m #[Value.ref m0, Value.int a1, Value.int a2] below meth c H locs 0 0 Q (F0 m 194 ls [.int y0]) := by
    intro S x1 x2 x3 x4 x5 y0 H locs ls hE hp hP hD hS hl
    unfold b_X12_desk_194 at hE
    unfold q_X12_desk_194 at hp
    subst hQ
    exact W.iret (v := y0) hx hb hr (fun t ht hW => ⟨⟨y0, S, rfl, hE.trans hX.symm, by rw [ht]; exact hP, hD⟩, hS.F ht⟩) hS.2.2 dX12_desk_194
  have B_218 : ∀ (S : MS) (x1 x2 x3 x4 x5 y0 : Int32) (H : Heap) (locs : List Loc) (ls : Array Slot), b_X12_desk_218 S x1 x2 x3 x4 x5 y0 = X → q_X12_desk_218 S x1 x2 x3 x4 x5 y0 → va_P G vwCl (mW K m0 gm h1 g1 h2 g2 S) H → va_D A (mW K m0 gm h1 g1 h2 g2 S) → va_S A s.heap H locs → lv_has ls 6 [(0, .ref m0), (1, .int x1), (2, .int x2), (3, .int x3), (4, .int x4), (5, .int x5)] → W p l e ({ frames := 1, cells := 0, slots := 0, locals := 22 } : Room) s m #[Value.ref m0, Value.int a1, Value.int a2] below meth c H locs 0 0 Q (F0 m 218 ls [.int y0]) := by
    intro S x1 x2 x3 x4 x5 y0 H locs ls hE hp hP hD hS hl
    unfold b_X12_desk_218 at hE
    unfold q_X12_desk_218 at hp
    subst hQ
    exact W.iret (v := y0) hx hb hr (fun t ht hW => ⟨⟨y0, S, rfl, hE.trans hX.symm, by rw [ht]; exact hP, hD⟩, hS.F ht⟩) hS.2.2 dX12_desk_218
  have B_217 : ∀ (S : MS) (x1 x2 x3 x4 x5 : Int32) (H : Heap) (locs : List Loc) (ls : Array Slot), b_X12_desk_217 S x1 x2 x3 x4 x5 = X → q_X12_desk_217 S x1 x2 x3 x4 x5 → va_P G vwCl (mW K m0 gm h1 g1 h2 g2 S) H → va_D A (mW K m0 gm h1 g1 h2 g2 S) → va_S A s.heap H locs → lv_has ls 6 [(0, .ref m0), (1, .int x1), (2, .int x2), (3, .int x3), (4, .int x4), (5, .int x5)] → W p l e ({ frames := 1, cells := 0, slots := 0, locals := 22 } : Room) s m #[Value.ref m0, Value.int a1, Value.int a2] below meth c H locs 0 0 Q (F0 m 217 ls []) := by
    intro S x1 x2 x3 x4 x5 H locs ls hE hp hP hD hS hl
    unfold b_X12_desk_217 at hE
    unfold q_X12_desk_217 at hp
    refine lv_iconst (v := 0) hx hb dX12_desk_217 (by decide) ?_
    exact B_218 S x1 x2 x3 x4 x5 0 _ _ _ hE hp hP hD hS (lv_sub hl [0, 1, 2, 3, 4, 5] rfl)
  have B_M : ∀ (S : MS) (x1 x2 : Int32) (H : Heap) (locs : List Loc) (ls : Array Slot), f_X12_desk S x1 x2 = X → p_X12_desk S x1 x2 → va_P G vwCl (mW K m0 gm h1 g1 h2 g2 S) H → va_D A (mW K m0 gm h1 g1 h2 g2 S) → va_S A s.heap H locs → lv_has ls 6 [(0, .ref m0), (1, .int x1), (2, .int x2)] → W p l e ({ frames := 1, cells := 0, slots := 0, locals := 22 } : Room) s m #[Value.ref m0, Value.int a1, Value.int a2] below meth c H locs 0 0 Q (F0 m 0 ls []) := by
    intro S x1 x2 H locs ls hE hp hP hD hS hl
    unfold f_X12_desk at hE
    unfold p_X12_desk at hp
    refine lv_iload_n hx hb dX12_desk_0 rfl (lv_at hl 1 rfl) ?_
    refine lv_iconst (v := 0) hx hb dX12_desk_1 (by decide) ?_
    refine lv_bipush (v := 7) hx hb dX12_desk_2 (by decide) ?_
    obtain ⟨hy1, hp⟩ := hp
    refine nGoi (va_runS (As := [.int x1, .int 0, .int 7]) (rest := []) ⟨hx, hb, hml, hown, hts⟩ (c_X12_in l G K x1 0 7 _) (va_cwS 3 hts (wGS t_ (mw (.methodLink RX12 1 yX12_in) (List.mem_of_getElem? (i := 0) rfl)) (mw (.static yX12_in) (List.mem_of_getElem? (i := 1) rfl)) (mw (.initialized RX12) (List.mem_of_getElem? (i := 2) rfl)) j_X12_in) rfl rfl rfl (by decide +kernel) ⟨Nat.le_of_ble_eq_true rfl, Nat.le_of_ble_eq_true rfl⟩) (nPS hK hTE hy1) rfl rfl hl.1 rfl (lv_room (Nat.le_of_ble_eq_true rfl)) dX12_desk_4 ⟨Nat.le_of_ble_eq_true rfl, Nat.le_of_ble_eq_true rfl⟩) hP hS hA (fun r H locs hv hP hS => ?_)
    subst hv
    refine lv_if_eq (tgt := 19) hx hb dX12_desk_7 (by decide) (fun c2 => ?_) (fun c2 => ?_)
    · rw [if_pos c2] at hE hp
      exact B_19 S x1 x2 _ _ _ hE hp hP hD hS (lv_sub hl [0, 1, 2] rfl)
    · rw [if_neg c2] at hE hp
      refine lv_iload_n hx hb dX12_desk_10 rfl (lv_at hl 2 rfl) ?_
      refine lv_iconst (v := 0) hx hb dX12_desk_11 (by decide) ?_
      refine lv_iconst (v := 5) hx hb dX12_desk_12 (by decide) ?_
      obtain ⟨hy3, hp⟩ := hp
      refine nGoi (va_runS (As := [.int x2, .int 0, .int 5]) (rest := []) ⟨hx, hb, hml, hown, hts⟩ (c_X12_in l G K x2 0 5 _) (va_cwS 3 hts (wGS t_ (mw (.methodLink RX12 1 yX12_in) (List.mem_of_getElem? (i := 0) rfl)) (mw (.static yX12_in) (List.mem_of_getElem? (i := 1) rfl)) (mw (.initialized RX12) (List.mem_of_getElem? (i := 2) rfl)) j_X12_in) rfl rfl rfl (by decide +kernel) ⟨Nat.le_of_ble_eq_true rfl, Nat.le_of_ble_eq_true rfl⟩) (nPS hK hTE hy3) rfl rfl hl.1 rfl (lv_room (Nat.le_of_ble_eq_true rfl)) dX12_desk_13 ⟨Nat.le_of_ble_eq_true rfl, Nat.le_of_ble_eq_true rfl⟩) hP hS hA (fun r H locs hv hP hS => ?_)
      subst hv
      refine lv_if_ne (tgt := 21) hx hb dX12_desk_16 (by decide) (fun c4 => ?_) (fun c4 => ?_)
      · rw [if_neg c4] at hE hp
        refine lv_aload_n hx hb dX12_desk_21 rfl (lv_at hl 0 rfl) ?_
        refine va_get (D := G) (ci := 9) (v := .ref h1) (C := RX12) (T := TX12) (N := 7) hx hb hts iX12 hown hK hP 0 rfl rfl 0 (by decide) (hw (.fieldLink RX12 16 "MotionFloorModel" "hall" "LMotionFloorModel$Hall;") (List.mem_of_getElem? (i := 3) rfl)) (fun _ h9 => h9) rfl dX12_desk_22 ?_
        refine va_get (D := G) (ci := 8) (v := .ref (g1 34)) (C := RX11) (T := TX11) (N := 42) hx hb hts iX11 hown hK hP 5 rfl rfl 34 (by decide) (hw (.fieldLink RX12 107 "MotionFloorModel$Hall" "lying" "[I") (List.mem_of_getElem? (i := 4) rfl)) (fun _ h9 => h9) rfl dX12_desk_25 ?_
        refine lv_iload_n hx hb dX12_desk_28 rfl (lv_at hl 1 rfl) ?_
        obtain ⟨hy5, hp⟩ := hp
        refine va_iald hx hb hK hP 28 0 rfl rfl hy5 dX12_desk_29 ?_
        refine lv_istore_n (lv' := [(3, .int (S.2.1.2 34 x1.toNatClampNeg)), (0, .ref m0), (1, .int x1), (2, .int x2)]) hx hb dX12_desk_30 rfl hl (by decide) rfl (fun ls hl => ?_)
        refine lv_iload_n hx hb dX12_desk_31 rfl (lv_at hl 0 rfl) ?_
        refine lv_if_ne (tgt := 37) hx hb dX12_desk_32 (by decide) (fun c6 => ?_) (fun c6 => ?_)
        · rw [if_neg c6] at hE hp
          refine lv_aload_n hx hb dX12_desk_37 rfl (lv_at hl 1 rfl) ?_
          refine va_get (D := G) (ci := 9) (v := .ref h1) (C := RX12) (T := TX12) (N := 7) hx hb hts iX12 hown hK hP 0 rfl rfl 0 (by decide) (hw (.fieldLink RX12 16 "MotionFloorModel" "hall" "LMotionFloorModel$Hall;") (List.mem_of_getElem? (i := 3) rfl)) (fun _ h9 => h9) rfl dX12_desk_38 ?_
          refine va_get (D := G) (ci := 8) (v := .ref (g1 33)) (C := RX11) (T := TX11) (N := 42) hx hb hts iX11 hown hK hP 5 rfl rfl 33 (by decide) (hw (.fieldLink RX12 110 "MotionFloorModel$Hall" "desk" "[I") (List.mem_of_getElem? (i := 5) rfl)) (fun _ h9 => h9) rfl dX12_desk_41 ?_
          refine lv_bipush (v := 9) hx hb dX12_desk_44 (by decide) ?_
          refine lv_iload_n hx hb dX12_desk_46 rfl (lv_at hl 2 rfl) ?_
          refine lv_imul hx hb dX12_desk_47 ?_
          obtain ⟨hy7, hp⟩ := hp
          refine va_iald hx hb hK hP 27 0 rfl rfl hy7 dX12_desk_48 ?_
          refine lv_istore (lv' := [(4, .int (S.2.1.2 33 (9 * x1).toNatClampNeg)), (3, .int (S.2.1.2 34 x1.toNatClampNeg)), (0, .ref m0), (1, .int x1), (2, .int x2)]) hx hb dX12_desk_49 hl (by decide) rfl (fun ls hl => ?_)
          refine lv_aload_n hx hb dX12_desk_51 rfl (lv_at hl 2 rfl) ?_
          refine va_get (D := G) (ci := 9) (v := .ref h1) (C := RX12) (T := TX12) (N := 7) hx hb hts iX12 hown hK hP 0 rfl rfl 0 (by decide) (hw (.fieldLink RX12 16 "MotionFloorModel" "hall" "LMotionFloorModel$Hall;") (List.mem_of_getElem? (i := 3) rfl)) (fun _ h9 => h9) rfl dX12_desk_52 ?_
          refine va_get (D := G) (ci := 8) (v := .ref (g1 37)) (C := RX11) (T := TX11) (N := 42) hx hb hts iX11 hown hK hP 5 rfl rfl 37 (by decide) (hw (.fieldLink RX12 113 "MotionFloorModel$Hall" "tabled" "[Z") (List.mem_of_getElem? (i := 6) rfl)) (fun _ h9 => h9) rfl dX12_desk_55 ?_
          refine lv_iload_n hx hb dX12_desk_58 rfl (lv_at hl 3 rfl) ?_
          obtain ⟨hy8, hp⟩ := hp
          refine va_zald hx hb hK hP 29 1 rfl rfl hy8 dX12_desk_59 ?_
          refine lv_istore (lv' := [(5, .int (S.2.1.2 37 x1.toNatClampNeg)), (4, .int (S.2.1.2 33 (9 * x1).toNatClampNeg)), (3, .int (S.2.1.2 34 x1.toNatClampNeg)), (0, .ref m0), (1, .int x1), (2, .int x2)]) hx hb dX12_desk_60 hl (by decide) rfl (fun ls hl => ?_)
          refine lv_iload_n hx hb dX12_desk_62 rfl (lv_at hl 5 rfl) ?_
          by_cases s0 : x2 = 0
          · rw [if_pos s0] at hE hp
            refine lv_tableIn (off := 33) (tgt := 96) hx hb dX12_desk_63 (by rw [s0]; decide) (by rw [s0]; decide) (by rw [s0]; decide) (by decide) ?_
            refine lv_iload hx hb dX12_desk_96 (lv_at hl 0 rfl) ?_
            refine lv_if_eq (tgt := 105) hx hb dX12_desk_98 (by decide) (fun c9 => ?_) (fun c9 => ?_)
            · rw [if_pos c9] at hE hp
              refine lv_aload_n hx hb dX12_desk_105 rfl (lv_at hl 3 rfl) ?_
              refine va_get (D := G) (ci := 9) (v := .ref h1) (C := RX12) (T := TX12) (N := 7) hx hb hts iX12 hown hK hP 0 rfl rfl 0 (by decide) (hw (.fieldLink RX12 16 "MotionFloorModel" "hall" "LMotionFloorModel$Hall;") (List.mem_of_getElem? (i := 3) rfl)) (fun _ h9 => h9) rfl dX12_desk_106 ?_
              refine va_get (D := G) (ci := 8) (v := .ref (g1 27)) (C := RX11) (T := TX11) (N := 42) hx hb hts iX11 hown hK hP 5 rfl rfl 27 (by decide) (hw (.fieldLink RX12 116 "MotionFloorModel$Hall" "letter" "[Z") (List.mem_of_getElem? (i := 7) rfl)) (fun _ h9 => h9) rfl dX12_desk_109 ?_
              refine lv_iload hx hb dX12_desk_112 (lv_at hl 1 rfl) ?_
              obtain ⟨hy10, hp⟩ := hp
              refine va_zald hx hb hK hP 22 1 rfl rfl hy10 dX12_desk_114 ?_
              refine lv_if_eq (tgt := 122) hx hb dX12_desk_115 (by decide) (fun c11 => ?_) (fun c11 => ?_)
              · rw [if_pos c11] at hE hp
                refine lv_iconst (v := 2) hx hb dX12_desk_122 (by decide) ?_
                exact B_123 S x1 x2 (S.2.1.2 34 x1.toNatClampNeg) (S.2.1.2 33 (9 * x1).toNatClampNeg) (S.2.1.2 37 x1.toNatClampNeg) 2 _ _ _ hE hp hP hD hS (lv_sub hl [3, 4, 5, 2, 1, 0] rfl)
              · rw [if_neg c11] at hE hp
                refine lv_iconst (v := 1) hx hb dX12_desk_118 (by decide) ?_
                refine lv_goto (tgt := 123) hx hb dX12_desk_119 (by decide) ?_
                exact B_123 S x1 x2 (S.2.1.2 34 x1.toNatClampNeg) (S.2.1.2 33 (9 * x1).toNatClampNeg) (S.2.1.2 37 x1.toNatClampNeg) 1 _ _ _ hE hp hP hD hS (lv_sub hl [3, 4, 5, 2, 1, 0] rfl)
            · rw [if_neg c9] at hE hp
              refine lv_iconst (v := 3) hx hb dX12_desk_101 (by decide) ?_
              refine lv_goto (tgt := 123) hx hb dX12_desk_102 (by decide) ?_
              exact B_123 S x1 x2 (S.2.1.2 34 x1.toNatClampNeg) (S.2.1.2 33 (9 * x1).toNatClampNeg) (S.2.1.2 37 x1.toNatClampNeg) 3 _ _ _ hE hp hP hD hS (lv_sub hl [3, 4, 5, 2, 1, 0] rfl)
          rw [if_neg s0] at hE hp
          have s0 := wNe (b := 0) rfl (by decide) s0
          by_cases s1 : x2 = 1
          · rw [if_pos s1] at hE hp
            refine lv_tableIn (off := 61) (tgt := 124) hx hb dX12_desk_63 (by rw [s1]; decide) (by rw [s1]; decide) (by rw [s1]; decide) (by decide) ?_
            refine lv_iload hx hb dX12_desk_124 (lv_at hl 0 rfl) ?_
            refine lv_if_eq (tgt := 133) hx hb dX12_desk_126 (by decide) (fun c12 => ?_) (fun c12 => ?_)
            · rw [if_pos c12] at hE hp
              refine lv_aload_n hx hb dX12_desk_133 rfl (lv_at hl 3 rfl) ?_
              refine va_get (D := G) (ci := 9) (v := .ref h1) (C := RX12) (T := TX12) (N := 7) hx hb hts iX12 hown hK hP 0 rfl rfl 0 (by decide) (hw (.fieldLink RX12 16 "MotionFloorModel" "hall" "LMotionFloorModel$Hall;") (List.mem_of_getElem? (i := 3) rfl)) (fun _ h9 => h9) rfl dX12_desk_134 ?_
              refine va_get (D := G) (ci := 8) (v := .ref (g1 14)) (C := RX11) (T := TX11) (N := 42) hx hb hts iX11 hown hK hP 5 rfl rfl 14 (by decide) (hw (.fieldLink RX12 61 "MotionFloorModel$Hall" "kind" "[I") (List.mem_of_getElem? (i := 8) rfl)) (fun _ h9 => h9) rfl dX12_desk_137 ?_
              refine lv_iload hx hb dX12_desk_140 (lv_at hl 1 rfl) ?_
              obtain ⟨hy13, hp⟩ := hp
              refine va_iald hx hb hK hP 9 0 rfl rfl hy13 dX12_desk_142 ?_
              exact B_143 S x1 x2 (S.2.1.2 34 x1.toNatClampNeg) (S.2.1.2 33 (9 * x1).toNatClampNeg) (S.2.1.2 37 x1.toNatClampNeg) (S.2.1.2 14 (S.2.1.2 33 (9 * x1).toNatClampNeg).toNatClampNeg) _ _ _ hE hp hP hD hS (lv_sub hl [3, 4, 5, 2, 1, 0] rfl)
            · rw [if_neg c12] at hE hp
              refine lv_iload_n hx hb dX12_desk_129 rfl (lv_at hl 2 rfl) ?_
              refine lv_goto (tgt := 143) hx hb dX12_desk_130 (by decide) ?_
              exact B_143 S x1 x2 (S.2.1.2 34 x1.toNatClampNeg) (S.2.1.2 33 (9 * x1).toNatClampNeg) (S.2.1.2 37 x1.toNatClampNeg) (S.2.1.2 34 x1.toNatClampNeg) _ _ _ hE hp hP hD hS (lv_sub hl [3, 4, 5, 2, 1, 0] rfl)
          rw [if_neg s1] at hE hp
          have s1 := wNe (b := 1) rfl (by decide) s1
          by_cases s2 : x2 = 2
          · rw [if_pos s2] at hE hp
            refine lv_tableIn (off := 81) (tgt := 144) hx hb dX12_desk_63 (by rw [s2]; decide) (by rw [s2]; decide) (by rw [s2]; decide) (by decide) ?_
            refine lv_aload_n hx hb dX12_desk_144 rfl (lv_at hl 3 rfl) ?_
            refine va_get (D := G) (ci := 9) (v := .ref h1) (C := RX12) (T := TX12) (N := 7) hx hb hts iX12 hown hK hP 0 rfl rfl 0 (by decide) (hw (.fieldLink RX12 16 "MotionFloorModel" "hall" "LMotionFloorModel$Hall;") (List.mem_of_getElem? (i := 3) rfl)) (fun _ h9 => h9) rfl dX12_desk_145 ?_
            refine va_get (D := G) (ci := 8) (v := .ref (g1 19)) (C := RX11) (T := TX11) (N := 42) hx hb hts iX11 hown hK hP 5 rfl rfl 19 (by decide) (hw (.fieldLink RX12 70 "MotionFloorModel$Hall" "words" "[I") (List.mem_of_getElem? (i := 9) rfl)) (fun _ h9 => h9) rfl dX12_desk_148 ?_
            refine lv_iload hx hb dX12_desk_151 (lv_at hl 1 rfl) ?_
            obtain ⟨hy14, hp⟩ := hp
            refine va_iald hx hb hK hP 14 0 rfl rfl hy14 dX12_desk_153 ?_
            subst hQ
            exact W.iret (v := (S.2.1.2 19 (S.2.1.2 33 (9 * x1).toNatClampNeg).toNatClampNeg)) hx hb hr (fun t ht hW => ⟨⟨(S.2.1.2 19 (S.2.1.2 33 (9 * x1).toNatClampNeg).toNatClampNeg), S, rfl, hE.trans hX.symm, by rw [ht]; exact hP, hD⟩, hS.F ht⟩) hS.2.2 dX12_desk_154
          rw [if_neg s2] at hE hp
          have s2 := wNe (b := 2) rfl (by decide) s2
          by_cases s3 : x2 = 3
          · rw [if_pos s3] at hE hp
            refine lv_tableIn (off := 92) (tgt := 155) hx hb dX12_desk_63 (by rw [s3]; decide) (by rw [s3]; decide) (by rw [s3]; decide) (by decide) ?_
            refine lv_iload hx hb dX12_desk_155 (lv_at hl 0 rfl) ?_
            refine lv_if_eq (tgt := 164) hx hb dX12_desk_157 (by decide) (fun c15 => ?_) (fun c15 => ?_)
            · rw [if_pos c15] at hE hp
              refine lv_aload_n hx hb dX12_desk_164 rfl (lv_at hl 3 rfl) ?_
              refine va_get (D := G) (ci := 9) (v := .ref h1) (C := RX12) (T := TX12) (N := 7) hx hb hts iX12 hown hK hP 0 rfl rfl 0 (by decide) (hw (.fieldLink RX12 16 "MotionFloorModel" "hall" "LMotionFloorModel$Hall;") (List.mem_of_getElem? (i := 3) rfl)) (fun _ h9 => h9) rfl dX12_desk_165 ?_
              refine va_get (D := G) (ci := 8) (v := .ref (g1 20)) (C := RX11) (T := TX11) (N := 42) hx hb hts iX11 hown hK hP 5 rfl rfl 20 (by decide) (hw (.fieldLink RX12 73 "MotionFloorModel$Hall" "from" "[I") (List.mem_of_getElem? (i := 10) rfl)) (fun _ h9 => h9) rfl dX12_desk_168 ?_
              refine lv_iload hx hb dX12_desk_171 (lv_at hl 1 rfl) ?_
              obtain ⟨hy16, hp⟩ := hp
              refine va_iald hx hb hK hP 15 0 rfl rfl hy16 dX12_desk_173 ?_
              exact B_174 S x1 x2 (S.2.1.2 34 x1.toNatClampNeg) (S.2.1.2 33 (9 * x1).toNatClampNeg) (S.2.1.2 37 x1.toNatClampNeg) (S.2.1.2 20 (S.2.1.2 33 (9 * x1).toNatClampNeg).toNatClampNeg) _ _ _ hE hp hP hD hS (lv_sub hl [3, 4, 5, 2, 1, 0] rfl)
            · rw [if_neg c15] at hE hp
              refine lv_iconst (v := 0) hx hb dX12_desk_160 (by decide) ?_
              refine lv_goto (tgt := 174) hx hb dX12_desk_161 (by decide) ?_
              exact B_174 S x1 x2 (S.2.1.2 34 x1.toNatClampNeg) (S.2.1.2 33 (9 * x1).toNatClampNeg) (S.2.1.2 37 x1.toNatClampNeg) 0 _ _ _ hE hp hP hD hS (lv_sub hl [3, 4, 5, 2, 1, 0] rfl)
          rw [if_neg s3] at hE hp
          have s3 := wNe (b := 3) rfl (by decide) s3
          by_cases s4 : x2 = 4
          · rw [if_pos s4] at hE hp
            refine lv_tableIn (off := 112) (tgt := 175) hx hb dX12_desk_63 (by rw [s4]; decide) (by rw [s4]; decide) (by rw [s4]; decide) (by decide) ?_
            refine lv_iload hx hb dX12_desk_175 (lv_at hl 0 rfl) ?_
            refine lv_if_eq (tgt := 184) hx hb dX12_desk_177 (by decide) (fun c17 => ?_) (fun c17 => ?_)
            · rw [if_pos c17] at hE hp
              refine lv_aload_n hx hb dX12_desk_184 rfl (lv_at hl 3 rfl) ?_
              refine va_get (D := G) (ci := 9) (v := .ref h1) (C := RX12) (T := TX12) (N := 7) hx hb hts iX12 hown hK hP 0 rfl rfl 0 (by decide) (hw (.fieldLink RX12 16 "MotionFloorModel" "hall" "LMotionFloorModel$Hall;") (List.mem_of_getElem? (i := 3) rfl)) (fun _ h9 => h9) rfl dX12_desk_185 ?_
              refine va_get (D := G) (ci := 8) (v := .ref (g1 21)) (C := RX11) (T := TX11) (N := 42) hx hb hts iX11 hown hK hP 5 rfl rfl 21 (by decide) (hw (.fieldLink RX12 76 "MotionFloorModel$Hall" "to" "[I") (List.mem_of_getElem? (i := 11) rfl)) (fun _ h9 => h9) rfl dX12_desk_188 ?_
              refine lv_iload hx hb dX12_desk_191 (lv_at hl 1 rfl) ?_
              obtain ⟨hy18, hp⟩ := hp
              refine va_iald hx hb hK hP 16 0 rfl rfl hy18 dX12_desk_193 ?_
              exact B_194 S x1 x2 (S.2.1.2 34 x1.toNatClampNeg) (S.2.1.2 33 (9 * x1).toNatClampNeg) (S.2.1.2 37 x1.toNatClampNeg) (S.2.1.2 21 (S.2.1.2 33 (9 * x1).toNatClampNeg).toNatClampNeg) _ _ _ hE hp hP hD hS (lv_sub hl [3, 4, 5, 2, 1, 0] rfl)
            · rw [if_neg c17] at hE hp
              refine lv_iconst (v := 0) hx hb dX12_desk_180 (by decide) ?_
              refine lv_goto (tgt := 194) hx hb dX12_desk_181 (by decide) ?_
              exact B_194 S x1 x2 (S.2.1.2 34 x1.toNatClampNeg) (S.2.1.2 33 (9 * x1).toNatClampNeg) (S.2.1.2 37 x1.toNatClampNeg) 0 _ _ _ hE hp hP hD hS (lv_sub hl [3, 4, 5, 2, 1, 0] rfl)
          rw [if_neg s4] at hE hp
          have s4 := wNe (b := 4) rfl (by decide) s4
          refine lv_tableOut (tgt := 195) hx hb dX12_desk_63 (by omega) (by decide) ?_
          refine lv_iload hx hb dX12_desk_195 (lv_at hl 0 rfl) ?_
          refine lv_if_ne (tgt := 217) hx hb dX12_desk_197 (by decide) (fun c19 => ?_) (fun c19 => ?_)
          · rw [if_neg c19] at hE hp
            exact B_217 S x1 x2 (S.2.1.2 34 x1.toNatClampNeg) (S.2.1.2 33 (9 * x1).toNatClampNeg) (S.2.1.2 37 x1.toNatClampNeg) _ _ _ hE hp hP hD hS (lv_sub hl [3, 4, 5, 2, 1, 0] rfl)
          · rw [if_pos c19] at hE hp
            refine lv_aload_n hx hb dX12_desk_200 rfl (lv_at hl 3 rfl) ?_
            refine va_get (D := G) (ci := 9) (v := .ref h1) (C := RX12) (T := TX12) (N := 7) hx hb hts iX12 hown hK hP 0 rfl rfl 0 (by decide) (hw (.fieldLink RX12 16 "MotionFloorModel" "hall" "LMotionFloorModel$Hall;") (List.mem_of_getElem? (i := 3) rfl)) (fun _ h9 => h9) rfl dX12_desk_201 ?_
            refine va_get (D := G) (ci := 8) (v := .ref (g1 26)) (C := RX11) (T := TX11) (N := 42) hx hb hts iX11 hown hK hP 5 rfl rfl 26 (by decide) (hw (.fieldLink RX12 119 "MotionFloorModel$Hall" "outside" "[Z") (List.mem_of_getElem? (i := 12) rfl)) (fun _ h9 => h9) rfl dX12_desk_204 ?_
            refine lv_iload hx hb dX12_desk_207 (lv_at hl 1 rfl) ?_
            obtain ⟨hy20, hp⟩ := hp
            refine va_zald hx hb hK hP 21 1 rfl rfl hy20 dX12_desk_209 ?_
            refine lv_if_eq (tgt := 217) hx hb dX12_desk_210 (by decide) (fun c21 => ?_) (fun c21 => ?_)
            · rw [if_pos c21] at hE hp
              exact B_217 S x1 x2 (S.2.1.2 34 x1.toNatClampNeg) (S.2.1.2 33 (9 * x1).toNatClampNeg) (S.2.1.2 37 x1.toNatClampNeg) _ _ _ hE hp hP hD hS (lv_sub hl [3, 4, 5, 2, 1, 0] rfl)
            · rw [if_neg c21] at hE hp
              refine lv_iconst (v := 1) hx hb dX12_desk_213 (by decide) ?_
              refine lv_goto (tgt := 218) hx hb dX12_desk_214 (by decide) ?_
              exact B_218 S x1 x2 (S.2.1.2 34 x1.toNatClampNeg) (S.2.1.2 33 (9 * x1).toNatClampNeg) (S.2.1.2 37 x1.toNatClampNeg) 1 _ _ _ hE hp hP hD hS (lv_sub hl [3, 4, 5, 2, 1, 0] rfl)
        · rw [if_pos c6] at hE hp
          refine lv_iconst (v := 0) hx hb dX12_desk_35 (by decide) ?_
          subst hQ
          exact W.iret (v := 0) hx hb hr (fun t ht hW => ⟨⟨0, S, rfl, hE.trans hX.symm, by rw [ht]; exact hP, hD⟩, hS.F ht⟩) hS.2.2 dX12_desk_36
      · rw [if_pos c4] at hE hp
        exact B_19 S x1 x2 _ _ _ hE hp hP hD hS (lv_sub hl [0, 1, 2] rfl)
  exact B_M S0 a1 a2 _ _ _ hX hp hP hD hS hl
