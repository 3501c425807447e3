theorem gdX12_quorum_0 : ckS (List.drop 0 cX12_quorum.data.toList) 0 [(0, .aload_n 0, 1), (1, .getfield 16, 3), (4, .iconst 3, 1), (5, .iload_n 1, 1), (6, .iconst 0, 1), (7, .iconst 0, 1), (8, .iconst 0, 1), (9, .invokevirtual 40, 3), (12, .ireturn, 1)] = true := by decide +kernel
theorem dX12_quorum_0 : decode cX12_quorum 0 = .ok (.aload_n 0, 1) := ckS_g gdX12_quorum_0 0 rfl
theorem dX12_quorum_1 : decode cX12_quorum 1 = .ok (.getfield 16, 3) := ckS_g gdX12_quorum_0 1 rfl
theorem dX12_quorum_4 : decode cX12_quorum 4 = .ok (.iconst 3, 1) := ckS_g gdX12_quorum_0 2 rfl
theorem dX12_quorum_5 : decode cX12_quorum 5 = .ok (.iload_n 1, 1) := ckS_g gdX12_quorum_0 3 rfl
theorem dX12_quorum_6 : decode cX12_quorum 6 = .ok (.iconst 0, 1) := ckS_g gdX12_quorum_0 4 rfl
theorem dX12_quorum_7 : decode cX12_quorum 7 = .ok (.iconst 0, 1) := ckS_g gdX12_quorum_0 5 rfl
theorem dX12_quorum_8 : decode cX12_quorum 8 = .ok (.iconst 0, 1) := ckS_g gdX12_quorum_0 6 rfl
theorem dX12_quorum_9 : decode cX12_quorum 9 = .ok (.invokevirtual 40, 3) := ckS_g gdX12_quorum_0 7 rfl
theorem dX12_quorum_12 : decode cX12_quorum 12 = .ok (.ireturn, 1) := ckS_g gdX12_quorum_0 8 rfl
set_option maxRecDepth 100000 in
theorem z226 : wZ (.code yX12_quorum cX12_quorum 2 (some .int)) := ⟨wT6 (List.mem_of_getElem? (i := 123) rfl), Or.inl rfl⟩
def b_X12_quorum_a12 (S : MS) (x1 y0 : Int32) : Int32 × MS := (y0, S)
def q_X12_quorum_a12 (S : MS) (x1 y0 : Int32) : Prop := True
def f_X12_quorum (S : MS) (x1 : Int32) : Int32 × MS := (b_X12_quorum_a12 (mH S ((f_X11_act S.2.1 3 x1 0 0 0).2)) x1 (f_X11_act S.2.1 3 x1 0 0 0).1)
def p_X12_quorum (S : MS) (x1 : Int32) : Prop := (p_X11_act S.2.1 3 x1 0 0 0) ∧ (q_X12_quorum_a12 (mH S ((f_X11_act S.2.1 3 x1 0 0 0).2)) x1 (f_X11_act S.2.1 3 x1 0 0 0).1)
def e_X12_quorum : List Cond := [.fieldLink RX12 16 "MotionFloorModel" "hall" "LMotionFloorModel$Hall;", .methodLink RX12 40 yX11_act, .instanceMethod yX11_act, .selects RX11 yX11_act yX11_act, .initialized RX11]
def v_X12_quorum : List Cond := .code yX12_quorum cX12_quorum 2 (some .int) :: (e_X12_quorum ++ (wsX120 ++ (v_X11_act ++ [])))
theorem te_X12_quorum : GoodIn lw_tbl e_X12_quorum := wGc z219 (wGc z223 (wGc z222 (wGc z221 (wGc z51 (wG0)))))
theorem t_X12_quorum : GoodIn lw_tbl v_X12_quorum := wGc z226 (wGa te_X12_quorum (wGa zcX12 (wGa t_X11_act (wG0))))
set_option maxHeartbeats 4000000 in
set_option maxRecDepth 100000 in
theorem c_X12_quorum (l : Launch) (G : va_G) (K : Nat → ClassId) (m0 : Nat) (gm : Nat → Nat) (h1 : Nat) (g1 : Nat → Nat) (h2 : Nat) (g2 : Nat → Nat) (S0 : MS) (a1 : Int32) (sz : Nat) : Met l yX12_quorum v_X12_quorum ({ frames := 6, cells := 0, slots := 0, locals := 156 }) (va_Pc [.ref m0, .int a1] (mSt G K m0 gm h1 g1 h2 g2 sz S0 (p_X12_quorum S0 a1))) (va_Qi (fun (r : Int32) (u : MS) => (r, u) = f_X12_quorum S0 a1) (mB G K m0 gm h1 g1 h2 g2 (va_A (mW K m0 gm h1 g1 h2 g2 S0) sz)) (va_A (mW K m0 gm h1 g1 h2 g2 S0) sz)) 0 0 (va_A (mW K m0 gm h1 g1 h2 g2 S0) sz) := by
  refine Met.ofW (cc := cX12_quorum) (maxL := 2) (ret := (some .int)) (by decide) rfl ?_
  intro p e s m args below meth c s₁ B hml hv
  obtain ⟨rfl, ⟨hsz, hP, hK, hD0, hTE⟩, hp⟩ := hv
  have hx := B.exec
  have hb := B.bytes
  have hr := B.returns
  have hts := atoms_spec (ws := v_X12_quorum) B.pre
  have t_ := t_X12_quorum
  have mw : ∀ w ∈ e_X12_quorum, w ∈ v_X12_quorum := fun w h => List.mem_cons_of_mem _ (List.mem_append_left _ h)
  have hw := fun w (h : w ∈ e_X12_quorum) => hts w (mw w h)
  have iX12 : ∀ w ∈ wsX120, w ∈ v_X12_quorum := fun w h => List.mem_cons_of_mem _ (List.mem_append_right _ (List.mem_append_left _ h))
  have j_X11_act : ∀ w ∈ v_X11_act, w ∈ v_X12_quorum := fun w h => List.mem_cons_of_mem _ (List.mem_append_right _ (List.mem_append_right _ (List.mem_append_left _ h)))
  have hown : s.vm.findClass RX12 = some m.cls := findClass_of_methodNamed B.named
  have hlocks := B.notSynchronized
  subst hsz
  have hD := hD0.self (sz := s.heap.size)
  generalize hAe : va_A (mW K m0 gm h1 g1 h2 g2 S0) s.heap.size = A at hD ⊢
  have hA : ∀ q : Nat, s.heap.size ≤ q → A q := fun q h => by rw [← hAe]; exact Or.inr h
  have hS : va_S A s.heap s.heap [] := va_S.rf
  have hl := lv_entry ([.ref m0, .int a1]) (n := 2) (Nat.le_of_ble_eq_true rfl)
  rw [lg_entry_eq]
  generalize (lg_sl ([.ref m0, .int a1]) ++ List.replicate (2 - (lg_sl ([.ref m0, .int a1])).length) Slot.unset).toArray = ls at hl ⊢
  have hl : lv_has ls 2 [(0, .ref m0), (1, .int a1)] := hl
  refine wGen (fun Q hQ => ?_)
  obtain ⟨X, hX⟩ : ∃ X, f_X12_quorum S0 a1 = X := ⟨_, rfl⟩
  have B_M : ∀ (S : MS) (x1 : Int32) (H : Heap) (locs : List Loc) (ls : Array Slot), f_X12_quorum S x1 = X → p_X12_quorum S x1 → va_P G vwCl (mW K m0 gm h1 g1 h2 g2 S) H → va_D A (mW K m0 gm h1 g1 h2 g2 S) → va_S A s.heap H locs → lv_has ls 2 [(0, .ref m0), (1, .int x1)] → W p l e ({ frames := 6, cells := 0, slots := 0, locals := 156 } : Room) s m #[Value.ref m0, Value.int a1] below meth c H locs 0 0 Q (F0 m 0 ls []) := by
    intro S x1 H locs ls hE hp hP hD hS hl
    unfold f_X12_quorum at hE
    unfold p_X12_quorum at hp
    refine lv_aload_n hx hb dX12_quorum_0 rfl (lv_at hl 0 rfl) ?_
    refine va_get (D := G) (ci := 9) (v := .ref h1) (C := RX12) (T := TX12) (N := 7) hx hb hts iX12 hown hK hP 0 rfl rfl 0 (by decide) (hw (.fieldLink RX12 16 "MotionFloorModel" "hall" "LMotionFloorModel$Hall;") (List.mem_of_getElem? (i := 0) rfl)) (fun _ h9 => h9) rfl dX12_quorum_1 ?_
    refine lv_iconst (v := 3) hx hb dX12_quorum_4 (by decide) ?_
    refine lv_iload_n hx hb dX12_quorum_5 rfl (lv_at hl 1 rfl) ?_
    refine lv_iconst (v := 0) hx hb dX12_quorum_6 (by decide) ?_
    refine lv_iconst (v := 0) hx hb dX12_quorum_7 (by decide) ?_
    refine lv_iconst (v := 0) hx hb dX12_quorum_8 (by decide) ?_
    obtain ⟨hy1, hp⟩ := hp
    refine mGoi_h (va_runV (As := [.int 3, .int x1, .int 0, .int 0, .int 0]) (rest := []) ⟨hx, hb, hml, hown, hts⟩ (c_X11_act l G K h1 g1 S.2.1 3 x1 0 0 0 _) (cwV 5 hts (wGV t_ (mw (.methodLink RX12 40 yX11_act) (List.mem_of_getElem? (i := 1) rfl)) (mw (.instanceMethod yX11_act) (List.mem_of_getElem? (i := 2) rfl)) (mw (.selects RX11 yX11_act yX11_act) (List.mem_of_getElem? (i := 3) rfl)) (mw (.initialized RX11) (List.mem_of_getElem? (i := 4) rfl)) j_X11_act) rfl rfl rfl (by decide +kernel) ⟨Nat.le_of_ble_eq_true rfl, Nat.le_of_ble_eq_true rfl⟩) (hPV hK hTE (mP_h hP) (mD_h hD) hy1) rfl rfl hl.1 rfl (lv_room (Nat.le_of_ble_eq_true rfl)) dX12_quorum_9 ⟨Nat.le_of_ble_eq_true rfl, Nat.le_of_ble_eq_true rfl⟩) hP hD hS hA (fun r3 u2 H locs hv hP hD hS => ?_)
    rw [← hv] at hE hp
    dsimp only at hE hp
    unfold b_X12_quorum_a12 at hE
    unfold q_X12_quorum_a12 at hp
    subst hQ
    exact W.iret (v := r3) hx hb hr (fun t ht hW => ⟨⟨r3, (mH S u2), rfl, hE.trans hX.symm, by rw [ht]; exact hP, hD⟩, hS.F ht⟩) hS.2.2 dX12_quorum_12
  exact B_M S0 a1 _ _ _ hX hp hP hD hS hl
theorem gdX12_chair_0 : ckS (List.drop 0 cX12_chair.data.toList) 0 [(0, .aload_n 0, 1), (1, .getfield 16, 3), (4, .iconst 4, 1), (5, .iload_n 1, 1), (6, .iconst 0, 1), (7, .iconst 0, 1), (8, .iconst 0, 1), (9, .invokevirtual 40, 3), (12, .ireturn, 1)] = true := by decide +kernel
theorem dX12_chair_0 : decode cX12_chair 0 = .ok (.aload_n 0, 1) := ckS_g gdX12_chair_0 0 rfl
theorem dX12_chair_1 : decode cX12_chair 1 = .ok (.getfield 16, 3) := ckS_g gdX12_chair_0 1 rfl
theorem dX12_chair_4 : decode cX12_chair 4 = .ok (.iconst 4, 1) := ckS_g gdX12_chair_0 2 rfl
theorem dX12_chair_5 : decode cX12_chair 5 = .ok (.iload_n 1, 1) := ckS_g gdX12_chair_0 3 rfl
theorem dX12_chair_6 : decode cX12_chair 6 = .ok (.iconst 0, 1) := ckS_g gdX12_chair_0 4 rfl
theorem dX12_chair_7 : decode cX12_chair 7 = .ok (.iconst 0, 1) := ckS_g gdX12_chair_0 5 rfl
theorem dX12_chair_8 : decode cX12_chair 8 = .ok (.iconst 0, 1) := ckS_g gdX12_chair_0 6 rfl
theorem dX12_chair_9 : decode cX12_chair 9 = .ok (.invokevirtual 40, 3) := ckS_g gdX12_chair_0 7 rfl
theorem dX12_chair_12 : decode cX12_chair 12 = .ok (.ireturn, 1) := ckS_g gdX12_chair_0 8 rfl
set_option maxRecDepth 100000 in
theorem z227 : wZ (.code yX12_chair cX12_chair 2 (some .int)) := ⟨wT6 (List.mem_of_getElem? (i := 127) rfl), Or.inl rfl⟩
def b_X12_chair_a12 (S : MS) (x1 y0 : Int32) : Int32 × MS := (y0, S)
def q_X12_chair_a12 (S : MS) (x1 y0 : Int32) : Prop := True
def f_X12_chair (S : MS) (x1 : Int32) : Int32 × MS := (b_X12_chair_a12 (mH S ((f_X11_act S.2.1 4 x1 0 0 0).2)) x1 (f_X11_act S.2.1 4 x1 0 0 0).1)
def p_X12_chair (S : MS) (x1 : Int32) : Prop := (p_X11_act S.2.1 4 x1 0 0 0) ∧ (q_X12_chair_a12 (mH S ((f_X11_act S.2.1 4 x1 0 0 0).2)) x1 (f_X11_act S.2.1 4 x1 0 0 0).1)
def e_X12_chair : List Cond := [.fieldLink RX12 16 "MotionFloorModel" "hall" "LMotionFloorModel$Hall;", .methodLink RX12 40 yX11_act, .instanceMethod yX11_act, .selects RX11 yX11_act yX11_act, .initialized RX11]
def v_X12_chair : List Cond := .code yX12_chair cX12_chair 2 (some .int) :: (e_X12_chair ++ (wsX120 ++ (v_X11_act ++ [])))
theorem te_X12_chair : GoodIn lw_tbl e_X12_chair := wGc z219 (wGc z223 (wGc z222 (wGc z221 (wGc z51 (wG0)))))
theorem t_X12_chair : GoodIn lw_tbl v_X12_chair := wGc z227 (wGa te_X12_chair (wGa zcX12 (wGa t_X11_act (wG0))))
set_option maxHeartbeats 4000000 in
set_option maxRecDepth 100000 in
theorem c_X12_chair (l : Launch) (G : va_G) (K : Nat → ClassId) (m0 : Nat) (gm : Nat → Nat) (h1 : Nat) (g1 : Nat → Nat) (h2 : Nat) (g2 : Nat → Nat) (S0 : MS) (a1 : Int32) (sz : Nat) : Met l yX12_chair v_X12_chair ({ frames := 6, cells := 0, slots := 0, locals := 156 }) (va_Pc [.ref m0, .int a1] (mSt G K m0 gm h1 g1 h2 g2 sz S0 (p_X12_chair S0 a1))) (va_Qi (fun (r : Int32) (u : MS) => (r, u) = f_X12_chair S0 a1) (mB G K m0 gm h1 g1 h2 g2 (va_A (mW K m0 gm h1 g1 h2 g2 S0) sz)) (va_A (mW K m0 gm h1 g1 h2 g2 S0) sz)) 0 0 (va_A (mW K m0 gm h1 g1 h2 g2 S0) sz) := by
  refine Met.ofW (cc := cX12_chair) (maxL := 2) (ret := (some .int)) (by decide) rfl ?_
  intro p e s m args below meth c s₁ B hml hv
  obtain ⟨rfl, ⟨hsz, hP, hK, hD0, hTE⟩, hp⟩ := hv
  have hx := B.exec
  have hb := B.bytes
  have hr := B.returns
  have hts := atoms_spec (ws := v_X12_chair) B.pre
  have t_ := t_X12_chair
  have mw : ∀ w ∈ e_X12_chair, w ∈ v_X12_chair := fun w h => List.mem_cons_of_mem _ (List.mem_append_left _ h)
  have hw := fun w (h : w ∈ e_X12_chair) => hts w (mw w h)
  have iX12 : ∀ w ∈ wsX120, w ∈ v_X12_chair := fun w h => List.mem_cons_of_mem _ (List.mem_append_right _ (List.mem_append_left _ h))
  have j_X11_act : ∀ w ∈ v_X11_act, w ∈ v_X12_chair := fun w h => List.mem_cons_of_mem _ (List.mem_append_right _ (List.mem_append_right _ (List.mem_append_left _ h)))
  have hown : s.vm.findClass RX12 = some m.cls := findClass_of_methodNamed B.named
  have hlocks := B.notSynchronized
  subst hsz
  have hD := hD0.self (sz := s.heap.size)
  generalize hAe : va_A (mW K m0 gm h1 g1 h2 g2 S0) s.heap.size = A at hD ⊢
  have hA : ∀ q : Nat, s.heap.size ≤ q → A q := fun q h => by rw [← hAe]; exact Or.inr h
  have hS : va_S A s.heap s.heap [] := va_S.rf
  have hl := lv_entry ([.ref m0, .int a1]) (n := 2) (Nat.le_of_ble_eq_true rfl)
  rw [lg_entry_eq]
  generalize (lg_sl ([.ref m0, .int a1]) ++ List.replicate (2 - (lg_sl ([.ref m0, .int a1])).length) Slot.unset).toArray = ls at hl ⊢
  have hl : lv_has ls 2 [(0, .ref m0), (1, .int a1)] := hl
  refine wGen (fun Q hQ => ?_)
  obtain ⟨X, hX⟩ : ∃ X, f_X12_chair S0 a1 = X := ⟨_, rfl⟩
  have B_M : ∀ (S : MS) (x1 : Int32) (H : Heap) (locs : List Loc) (ls : Array Slot), f_X12_chair S x1 = X → p_X12_chair S x1 → va_P G vwCl (mW K m0 gm h1 g1 h2 g2 S) H → va_D A (mW K m0 gm h1 g1 h2 g2 S) → va_S A s.heap H locs → lv_has ls 2 [(0, .ref m0), (1, .int x1)] → W p l e ({ frames := 6, cells := 0, slots := 0, locals := 156 } : Room) s m #[Value.ref m0, Value.int a1] below meth c H locs 0 0 Q (F0 m 0 ls []) := by
    intro S x1 H locs ls hE hp hP hD hS hl
    unfold f_X12_chair at hE
    unfold p_X12_chair at hp
    refine lv_aload_n hx hb dX12_chair_0 rfl (lv_at hl 0 rfl) ?_
    refine va_get (D := G) (ci := 9) (v := .ref h1) (C := RX12) (T := TX12) (N := 7) hx hb hts iX12 hown hK hP 0 rfl rfl 0 (by decide) (hw (.fieldLink RX12 16 "MotionFloorModel" "hall" "LMotionFloorModel$Hall;") (List.mem_of_getElem? (i := 0) rfl)) (fun _ h9 => h9) rfl dX12_chair_1 ?_
    refine lv_iconst (v := 4) hx hb dX12_chair_4 (by decide) ?_
    refine lv_iload_n hx hb dX12_chair_5 rfl (lv_at hl 1 rfl) ?_
    refine lv_iconst (v := 0) hx hb dX12_chair_6 (by decide) ?_
    refine lv_iconst (v := 0) hx hb dX12_chair_7 (by decide) ?_
    refine lv_iconst (v := 0) hx hb dX12_chair_8 (by decide) ?_
    obtain ⟨hy1, hp⟩ := hp
    refine mGoi_h (va_runV (As := [.int 4, .int x1, .int 0, .int 0, .int 0]) (rest := []) ⟨hx, hb, hml, hown, hts⟩ (c_X11_act l G K h1 g1 S.2.1 4 x1 0 0 0 _) (cwV 5 hts (wGV t_ (mw (.methodLink RX12 40 yX11_act) (List.mem_of_getElem? (i := 1) rfl)) (mw (.instanceMethod yX11_act) (List.mem_of_getElem? (i := 2) rfl)) (mw (.selects RX11 yX11_act yX11_act) (List.mem_of_getElem? (i := 3) rfl)) (mw (.initialized RX11) (List.mem_of_getElem? (i := 4) rfl)) j_X11_act) rfl rfl rfl (by decide +kernel) ⟨Nat.le_of_ble_eq_true rfl, Nat.le_of_ble_eq_true rfl⟩) (hPV hK hTE (mP_h hP) (mD_h hD) hy1) rfl rfl hl.1 rfl (lv_room (Nat.le_of_ble_eq_true rfl)) dX12_chair_9 ⟨Nat.le_of_ble_eq_true rfl, Nat.le_of_ble_eq_true rfl⟩) hP hD hS hA (fun r3 u2 H locs hv hP hD hS => ?_)
    rw [← hv] at hE hp
    dsimp only at hE hp
    unfold b_X12_chair_a12 at hE
    unfold q_X12_chair_a12 at hp
    subst hQ
    exact W.iret (v := r3) hx hb hr (fun t ht hW => ⟨⟨r3, (mH S u2), rfl, hE.trans hX.symm, by rw [ht]; exact hP, hD⟩, hS.F ht⟩) hS.2.2 dX12_chair_12
  exact B_M S0 a1 _ _ _ hX hp hP hD hS hl
theorem gdX12_majority_0 : ckS (List.drop 0 cX12_majority.data.toList) 0 [(0, .aload_n 0, 1), (1, .getfield 16, 3), (4, .iconst 5, 1), (5, .iload_n 1, 1), (6, .iload_n 2, 1), (7, .iconst 0, 1), (8, .iconst 0, 1), (9, .invokevirtual 40, 3), (12, .ireturn, 1)] = true := by decide +kernel
theorem dX12_majority_0 : decode cX12_majority 0 = .ok (.aload_n 0, 1) := ckS_g gdX12_majority_0 0 rfl
theorem dX12_majority_1 : decode cX12_majority 1 = .ok (.getfield 16, 3) := ckS_g gdX12_majority_0 1 rfl
theorem dX12_majority_4 : decode cX12_majority 4 = .ok (.iconst 5, 1) := ckS_g gdX12_majority_0 2 rfl
theorem dX12_majority_5 : decode cX12_majority 5 = .ok (.iload_n 1, 1) := ckS_g gdX12_majority_0 3 rfl
theorem dX12_majority_6 : decode cX12_majority 6 = .ok (.iload_n 2, 1) := ckS_g gdX12_majority_0 4 rfl
theorem dX12_majority_7 : decode cX12_majority 7 = .ok (.iconst 0, 1) := ckS_g gdX12_majority_0 5 rfl
theorem dX12_majority_8 : decode cX12_majority 8 = .ok (.iconst 0, 1) := ckS_g gdX12_majority_0 6 rfl
theorem dX12_majority_9 : decode cX12_majority 9 = .ok (.invokevirtual 40, 3) := ckS_g gdX12_majority_0 7 rfl
theorem dX12_majority_12 : decode cX12_majority 12 = .ok (.ireturn, 1) := ckS_g gdX12_majority_0 8 rfl
set_option maxRecDepth 100000 in
theorem z228 : wZ (.code yX12_majority cX12_majority 3 (some .int)) := ⟨wT6 (List.mem_of_getElem? (i := 131) rfl), Or.inl rfl⟩
def b_X12_majority_a12 (S : MS) (x1 x2 y0 : Int32) : Int32 × MS := (y0, S)
def q_X12_majority_a12 (S : MS) (x1 x2 y0 : Int32) : Prop := True
def f_X12_majority (S : MS) (x1 x2 : Int32) : Int32 × MS := (b_X12_majority_a12 (mH S ((f_X11_act S.2.1 5 x1 x2 0 0).2)) x1 x2 (f_X11_act S.2.1 5 x1 x2 0 0).1)
def p_X12_majority (S : MS) (x1 x2 : Int32) : Prop := (p_X11_act S.2.1 5 x1 x2 0 0) ∧ (q_X12_majority_a12 (mH S ((f_X11_act S.2.1 5 x1 x2 0 0).2)) x1 x2 (f_X11_act S.2.1 5 x1 x2 0 0).1)
def e_X12_majority : List Cond := [.fieldLink RX12 16 "MotionFloorModel" "hall" "LMotionFloorModel$Hall;", .methodLink RX12 40 yX11_act, .instanceMethod yX11_act, .selects RX11 yX11_act yX11_act, .initialized RX11]
def v_X12_majority : List Cond := .code yX12_majority cX12_majority 3 (some .int) :: (e_X12_majority ++ (wsX120 ++ (v_X11_act ++ [])))
theorem te_X12_majority : GoodIn lw_tbl e_X12_majority := wGc z219 (wGc z223 (wGc z222 (wGc z221 (wGc z51 (wG0)))))
theorem t_X12_majority : GoodIn lw_tbl v_X12_majority := wGc z228 (wGa te_X12_majority (wGa zcX12 (wGa t_X11_act (wG0))))
set_option maxHeartbeats 4000000 in
set_option maxRecDepth 100000 in
theorem c_X12_majority (l : Launch) (G : va_G) (K : Nat → ClassId) (m0 : Nat) (gm : Nat → Nat) (h1 : Nat) (g1 : Nat → Nat) (h2 : Nat) (g2 : Nat → Nat) (S0 : MS) (a1 a2 : Int32) (sz : Nat) : Met l yX12_majority v_X12_majority ({ frames := 6, cells := 0, slots := 0, locals := 156 }) (va_Pc [.ref m0, .int a1, .int a2] (mSt G K m0 gm h1 g1 h2 g2 sz S0 (p_X12_majority S0 a1 a2))) (va_Qi (fun (r : Int32) (u : MS) => (r, u) = f_X12_majority S0 a1 a2) (mB G K m0 gm h1 g1 h2 g2 (va_A (mW K m0 gm h1 g1 h2 g2 S0) sz)) (va_A (mW K m0 gm h1 g1 h2 g2 S0) sz)) 0 0 (va_A (mW K m0 gm h1 g1 h2 g2 S0) sz) := by
  refine Met.ofW (cc := cX12_majority) (maxL := 3) (ret := (some .int)) (by decide) rfl ?_
  intro p e s m args below meth c s₁ B hml hv
  obtain ⟨rfl, ⟨hsz, hP, hK, hD0, hTE⟩, hp⟩ := hv
  have hx := B.exec
  have hb := B.bytes
  have hr := B.returns
  have hts := atoms_spec (ws := v_X12_majority) B.pre
  have t_ := t_X12_majority
  have mw : ∀ w ∈ e_X12_majority, w ∈ v_X12_majority := fun w h => List.mem_cons_of_mem _ (List.mem_append_left _ h)
  have hw := fun w (h : w ∈ e_X12_majority) => hts w (mw w h)
  have iX12 : ∀ w ∈ wsX120, w ∈ v_X12_majority := fun w h => List.mem_cons_of_mem _ (List.mem_append_right _ (List.mem_append_left _ h))
  have j_X11_act : ∀ w ∈ v_X11_act, w ∈ v_X12_majority := fun w h => List.mem_cons_of_mem _ (List.mem_append_right _ (List.mem_append_right _ (List.mem_append_left _ h)))
  have hown : s.vm.findClass RX12 = some m.cls := findClass_of_methodNamed B.named
  have hlocks := B.notSynchronized
  subst hsz
  have hD := hD0.self (sz := s.heap.size)
  generalize hAe : va_A (mW K m0 gm h1 g1 h2 g2 S0) s.heap.size = A at hD ⊢
  have hA : ∀ q : Nat, s.heap.size ≤ q → A q := fun q h => by rw [← hAe]; exact Or.inr h
  have hS : va_S A s.heap s.heap [] := va_S.rf
  have hl := lv_entry ([.ref m0, .int a1, .int a2]) (n := 3) (Nat.le_of_ble_eq_true rfl)
  rw [lg_entry_eq]
  generalize (lg_sl ([.ref m0, .int a1, .int a2]) ++ List.replicate (3 - (lg_sl ([.ref m0, .int a1, .int a2])).length) Slot.unset).toArray = ls at hl ⊢
  have hl : lv_has ls 3 [(0, .ref m0), (1, .int a1), (2, .int a2)] := hl
  refine wGen (fun Q hQ => ?_)
  obtain ⟨X, hX⟩ : ∃ X, f_X12_majority S0 a1 a2 = X := ⟨_, rfl⟩
  have B_M : ∀ (S : MS) (x1 x2 : Int32) (H : Heap) (locs : List Loc) (ls : Array Slot), f_X12_majority S x1 x2 = X → p_X12_majority S x1 x2 → va_P G vwCl (mW K m0 gm h1 g1 h2 g2 S) H → va_D A (mW K m0 gm h1 g1 h2 g2 S) → va_S A s.heap H locs → lv_has ls 3 [(0, .ref m0), (1, .int x1), (2, .int x2)] → W p l e ({ frames := 6, cells := 0, slots := 0, locals := 156 } : Room) s m #[Value.ref m0, Value.int a1, Value.int a2] below meth c H locs 0 0 Q (F0 m 0 ls []) := by
    intro S x1 x2 H locs ls hE hp hP hD hS hl
    unfold f_X12_majority at hE
    unfold p_X12_majority at hp
    refine lv_aload_n hx hb dX12_majority_0 rfl (lv_at hl 0 rfl) ?_
    refine va_get (D := G) (ci := 9) (v := .ref h1) (C := RX12) (T := TX12) (N := 7) hx hb hts iX12 hown hK hP 0 rfl rfl 0 (by decide) (hw (.fieldLink RX12 16 "MotionFloorModel" "hall" "LMotionFloorModel$Hall;") (List.mem_of_getElem? (i := 0) rfl)) (fun _ h9 => h9) rfl dX12_majority_1 ?_
    refine lv_iconst (v := 5) hx hb dX12_majority_4 (by decide) ?_
    refine lv_iload_n hx hb dX12_majority_5 rfl (lv_at hl 1 rfl) ?_
    refine lv_iload_n hx hb dX12_majority_6 rfl (lv_at hl 2 rfl) ?_
    refine lv_iconst (v := 0) hx hb dX12_majority_7 (by decide) ?_
    refine lv_iconst (v := 0) hx hb dX12_majority_8 (by decide) ?_
    obtain ⟨hy1, hp⟩ := hp
    refine mGoi_h (va_runV (As := [.int 5, .int x1, .int x2, .int 0, .int 0]) (rest := []) ⟨hx, hb, hml, hown, hts⟩ (c_X11_act l G K h1 g1 S.2.1 5 x1 x2 0 0 _) (cwV 5 hts (wGV t_ (mw (.methodLink RX12 40 yX11_act) (List.mem_of_getElem? (i := 1) rfl)) (mw (.instanceMethod yX11_act) (List.mem_of_getElem? (i := 2) rfl)) (mw (.selects RX11 yX11_act yX11_act) (List.mem_of_getElem? (i := 3) rfl)) (mw (.initialized RX11) (List.mem_of_getElem? (i := 4) rfl)) j_X11_act) rfl rfl rfl (by decide +kernel) ⟨Nat.le_of_ble_eq_true rfl, Nat.le_of_ble_eq_true rfl⟩) (hPV hK hTE (mP_h hP) (mD_h hD) hy1) rfl rfl hl.1 rfl (lv_room (Nat.le_of_ble_eq_true rfl)) dX12_majority_9 ⟨Nat.le_of_ble_eq_true rfl, Nat.le_of_ble_eq_true rfl⟩) hP hD hS hA (fun r3 u2 H locs hv hP hD hS => ?_)
    rw [← hv] at hE hp
    dsimp only at hE hp
    unfold b_X12_majority_a12 at hE
    unfold q_X12_majority_a12 at hp
    subst hQ
    exact W.iret (v := r3) hx hb hr (fun t ht hW => ⟨⟨r3, (mH S u2), rfl, hE.trans hX.symm, by rw [ht]; exact hP, hD⟩, hS.F ht⟩) hS.2.2 dX12_majority_12
  exact B_M S0 a1 a2 _ _ _ hX hp hP hD hS hl
theorem gdX12_limit_0 : ckS (List.drop 0 cX12_limit.data.toList) 0 [(0, .aload_n 0, 1), (1, .getfield 16, 3), (4, .bipush 6, 2), (6, .iload_n 1, 1), (7, .iconst 0, 1), (8, .iconst 0, 1), (9, .iconst 0, 1), (10, .invokevirtual 40, 3), (13, .ireturn, 1)] = true := by decide +kernel
theorem dX12_limit_0 : decode cX12_limit 0 = .ok (.aload_n 0, 1) := ckS_g gdX12_limit_0 0 rfl
theorem dX12_limit_1 : decode cX12_limit 1 = .ok (.getfield 16, 3) := ckS_g gdX12_limit_0 1 rfl
theorem dX12_limit_4 : decode cX12_limit 4 = .ok (.bipush 6, 2) := ckS_g gdX12_limit_0 2 rfl
theorem dX12_limit_6 : decode cX12_limit 6 = .ok (.iload_n 1, 1) := ckS_g gdX12_limit_0 3 rfl
theorem dX12_limit_7 : decode cX12_limit 7 = .ok (.iconst 0, 1) := ckS_g gdX12_limit_0 4 rfl
theorem dX12_limit_8 : decode cX12_limit 8 = .ok (.iconst 0, 1) := ckS_g gdX12_limit_0 5 rfl
theorem dX12_limit_9 : decode cX12_limit 9 = .ok (.iconst 0, 1) := ckS_g gdX12_limit_0 6 rfl
theorem dX12_limit_10 : decode cX12_limit 10 = .ok (.invokevirtual 40, 3) := ckS_g gdX12_limit_0 7 rfl
theorem dX12_limit_13 : decode cX12_limit 13 = .ok (.ireturn, 1) := ckS_g gdX12_limit_0 8 rfl
set_option maxRecDepth 100000 in
theorem z229 : wZ (.code yX12_limit cX12_limit 2 (some .int)) := ⟨wT6 (List.mem_of_getElem? (i := 135) rfl), Or.inl rfl⟩
def b_X12_limit_a13 (S : MS) (x1 y0 : Int32) : Int32 × MS := (y0, S)
def q_X12_limit_a13 (S : MS) (x1 y0 : Int32) : Prop := True
def f_X12_limit (S : MS) (x1 : Int32) : Int32 × MS := (b_X12_limit_a13 (mH S ((f_X11_act S.2.1 6 x1 0 0 0).2)) x1 (f_X11_act S.2.1 6 x1 0 0 0).1)
def p_X12_limit (S : MS) (x1 : Int32) : Prop := (p_X11_act S.2.1 6 x1 0 0 0) ∧ (q_X12_limit_a13 (mH S ((f_X11_act S.2.1 6 x1 0 0 0).2)) x1 (f_X11_act S.2.1 6 x1 0 0 0).1)
def e_X12_limit : List Cond := [.fieldLink RX12 16 "MotionFloorModel" "hall" "LMotionFloorModel$Hall;", .methodLink RX12 40 yX11_act, .instanceMethod yX11_act, .selects RX11 yX11_act yX11_act, .initialized RX11]
def v_X12_limit : List Cond := .code yX12_limit cX12_limit 2 (some .int) :: (e_X12_limit ++ (wsX120 ++ (v_X11_act ++ [])))
theorem te_X12_limit : GoodIn lw_tbl e_X12_limit := wGc z219 (wGc z223 (wGc z222 (wGc z221 (wGc z51 (wG0)))))
theorem t_X12_limit : GoodIn lw_tbl v_X12_limit := wGc z229 (wGa te_X12_limit (wGa zcX12 (wGa t_X11_act (wG0))))
set_option maxHeartbeats 4000000 in
set_option maxRecDepth 100000 in
theorem c_X12_limit (l : Launch) (G : va_G) (K : Nat → ClassId) (m0 : Nat) (gm : Nat → Nat) (h1 : Nat) (g1 : Nat → Nat) (h2 : Nat) (g2 : Nat → Nat) (S0 : MS) (a1 : Int32) (sz : Nat) : Met l yX12_limit v_X12_limit ({ frames := 6, cells := 0, slots := 0, locals := 156 }) (va_Pc [.ref m0, .int a1] (mSt G K m0 gm h1 g1 h2 g2 sz S0 (p_X12_limit S0 a1))) (va_Qi (fun (r : Int32) (u : MS) => (r, u) = f_X12_limit S0 a1) (mB G K m0 gm h1 g1 h2 g2 (va_A (mW K m0 gm h1 g1 h2 g2 S0) sz)) (va_A (mW K m0 gm h1 g1 h2 g2 S0) sz)) 0 0 (va_A (mW K m0 gm h1 g1 h2 g2 S0) sz) := by
  refine Met.ofW (cc := cX12_limit) (maxL := 2) (ret := (some .int)) (by decide) rfl ?_
  intro p e s m args below meth c s₁ B hml hv
  obtain ⟨rfl, ⟨hsz, hP, hK, hD0, hTE⟩, hp⟩ := hv
  have hx := B.exec
  have hb := B.bytes
  have hr := B.returns
  have hts := atoms_spec (ws := v_X12_limit) B.pre
  have t_ := t_X12_limit
  have mw : ∀ w ∈ e_X12_limit, w ∈ v_X12_limit := fun w h => List.mem_cons_of_mem _ (List.mem_append_left _ h)
  have hw := fun w (h : w ∈ e_X12_limit) => hts w (mw w h)
  have iX12 : ∀ w ∈ wsX120, w ∈ v_X12_limit := fun w h => List.mem_cons_of_mem _ (List.mem_append_right _ (List.mem_append_left _ h))
  have j_X11_act : ∀ w ∈ v_X11_act, w ∈ v_X12_limit := fun w h => List.mem_cons_of_mem _ (List.mem_append_right _ (List.mem_append_right _ (List.mem_append_left _ h)))
  have hown : s.vm.findClass RX12 = some m.cls := findClass_of_methodNamed B.named
  have hlocks := B.notSynchronized
  subst hsz
  have hD := hD0.self (sz := s.heap.size)
  generalize hAe : va_A (mW K m0 gm h1 g1 h2 g2 S0) s.heap.size = A at hD ⊢
  have hA : ∀ q : Nat, s.heap.size ≤ q → A q := fun q h => by rw [← hAe]; exact Or.inr h
  have hS : va_S A s.heap s.heap [] := va_S.rf
  have hl := lv_entry ([.ref m0, .int a1]) (n := 2) (Nat.le_of_ble_eq_true rfl)
  rw [lg_entry_eq]
  generalize (lg_sl ([.ref m0, .int a1]) ++ List.replicate (2 - (lg_sl ([.ref m0, .int a1])).length) Slot.unset).toArray = ls at hl ⊢
  have hl : lv_has ls 2 [(0, .ref m0), (1, .int a1)] := hl
  refine wGen (fun Q hQ => ?_)
  obtain ⟨X, hX⟩ : ∃ X, f_X12_limit S0 a1 = X := ⟨_, rfl⟩
  have B_M : ∀ (S : MS) (x1 : Int32) (H : Heap) (locs : List Loc) (ls : Array Slot), f_X12_limit S x1 = X → p_X12_limit S x1 → va_P G vwCl (mW K m0 gm h1 g1 h2 g2 S) H → va_D A (mW K m0 gm h1 g1 h2 g2 S) → va_S A s.heap H locs → lv_has ls 2 [(0, .ref m0), (1, .int x1)] → W p l e ({ frames := 6, cells := 0, slots := 0, locals := 156 } : Room) s m #[Value.ref m0, Value.int a1] below meth c H locs 0 0 Q (F0 m 0 ls []) := by
    intro S x1 H locs ls hE hp hP hD hS hl
    unfold f_X12_limit at hE
    unfold p_X12_limit at hp
    refine lv_aload_n hx hb dX12_limit_0 rfl (lv_at hl 0 rfl) ?_
    refine va_get (D := G) (ci := 9) (v := .ref h1) (C := RX12) (T := TX12) (N := 7) hx hb hts iX12 hown hK hP 0 rfl rfl 0 (by decide) (hw (.fieldLink RX12 16 "MotionFloorModel" "hall" "LMotionFloorModel$Hall;") (List.mem_of_getElem? (i := 0) rfl)) (fun _ h9 => h9) rfl dX12_limit_1 ?_
    refine lv_bipush (v := 6) hx hb dX12_limit_4 (by decide) ?_
    refine lv_iload_n hx hb dX12_limit_6 rfl (lv_at hl 1 rfl) ?_
    refine lv_iconst (v := 0) hx hb dX12_limit_7 (by decide) ?_
    refine lv_iconst (v := 0) hx hb dX12_limit_8 (by decide) ?_
    refine lv_iconst (v := 0) hx hb dX12_limit_9 (by decide) ?_
    obtain ⟨hy1, hp⟩ := hp
    refine mGoi_h (va_runV (As := [.int 6, .int x1, .int 0, .int 0, .int 0]) (rest := []) ⟨hx, hb, hml, hown, hts⟩ (c_X11_act l G K h1 g1 S.2.1 6 x1 0 0 0 _) (cwV 5 hts (wGV t_ (mw (.methodLink RX12 40 yX11_act) (List.mem_of_getElem? (i := 1) rfl)) (mw (.instanceMethod yX11_act) (List.mem_of_getElem? (i := 2) rfl)) (mw (.selects RX11 yX11_act yX11_act) (List.mem_of_getElem? (i := 3) rfl)) (mw (.initialized RX11) (List.mem_of_getElem? (i := 4) rfl)) j_X11_act) rfl rfl rfl (by decide +kernel) ⟨Nat.le_of_ble_eq_true rfl, Nat.le_of_ble_eq_true rfl⟩) (hPV hK hTE (mP_h hP) (mD_h hD) hy1) rfl rfl hl.1 rfl (lv_room (Nat.le_of_ble_eq_true rfl)) dX12_limit_10 ⟨Nat.le_of_ble_eq_true rfl, Nat.le_of_ble_eq_true rfl⟩) hP hD hS hA (fun r3 u2 H locs hv hP hD hS => ?_)
    rw [← hv] at hE hp
    dsimp only at hE hp
    unfold b_X12_limit_a13 at hE
    unfold q_X12_limit_a13 at hp
    subst hQ
    exact W.iret (v := r3) hx hb hr (fun t ht hW => ⟨⟨r3, (mH S u2), rfl, hE.trans hX.symm, by rw [ht]; exact hP, hD⟩, hS.F ht⟩) hS.2.2 dX12_limit_13
  exact B_M S0 a1 _ _ _ hX hp hP hD hS hl
theorem gdX12_floor_0 : ckS (List.drop 0 cX12_floor.data.toList) 0 [(0, .aload_n 0, 1), (1, .getfield 16, 3), (4, .bipush 7, 2), (6, .iload_n 1, 1), (7, .iconst 0, 1), (8, .iconst 0, 1), (9, .iconst 0, 1), (10, .invokevirtual 40, 3), (13, .ireturn, 1)] = true := by decide +kernel
theorem dX12_floor_0 : decode cX12_floor 0 = .ok (.aload_n 0, 1) := ckS_g gdX12_floor_0 0 rfl
theorem dX12_floor_1 : decode cX12_floor 1 = .ok (.getfield 16, 3) := ckS_g gdX12_floor_0 1 rfl
theorem dX12_floor_4 : decode cX12_floor 4 = .ok (.bipush 7, 2) := ckS_g gdX12_floor_0 2 rfl
theorem dX12_floor_6 : decode cX12_floor 6 = .ok (.iload_n 1, 1) := ckS_g gdX12_floor_0 3 rfl
theorem dX12_floor_7 : decode cX12_floor 7 = .ok (.iconst 0, 1) := ckS_g gdX12_floor_0 4 rfl
theorem dX12_floor_8 : decode cX12_floor 8 = .ok (.iconst 0, 1) := ckS_g gdX12_floor_0 5 rfl
theorem dX12_floor_9 : decode cX12_floor 9 = .ok (.iconst 0, 1) := ckS_g gdX12_floor_0 6 rfl
theorem dX12_floor_10 : decode cX12_floor 10 = .ok (.invokevirtual 40, 3) := ckS_g gdX12_floor_0 7 rfl
theorem dX12_floor_13 : decode cX12_floor 13 = .ok (.ireturn, 1) := ckS_g gdX12_floor_0 8 rfl
set_option maxRecDepth 100000 in
theorem z230 : wZ (.code yX12_floor cX12_floor 2 (some .int)) := ⟨wT6 (List.mem_of_getElem? (i := 139) rfl), Or.inl rfl⟩
def b_X12_floor_a13 (S : MS) (x1 y0 : Int32) : Int32 × MS := (y0, S)
def q_X12_floor_a13 (S : MS) (x1 y0 : Int32) : Prop := True
def f_X12_floor (S : MS) (x1 : Int32) : Int32 × MS := (b_X12_floor_a13 (mH S ((f_X11_act S.2.1 7 x1 0 0 0).2)) x1 (f_X11_act S.2.1 7 x1 0 0 0).1)
def p_X12_floor (S : MS) (x1 : Int32) : Prop := (p_X11_act S.2.1 7 x1 0 0 0) ∧ (q_X12_floor_a13 (mH S ((f_X11_act S.2.1 7 x1 0 0 0).2)) x1 (f_X11_act S.2.1 7 x1 0 0 0).1)
def e_X12_floor : List Cond := [.fieldLink RX12 16 "MotionFloorModel" "hall" "LMotionFloorModel$Hall;", .methodLink RX12 40 yX11_act, .instanceMethod yX11_act, .selects RX11 yX11_act yX11_act, .initialized RX11]
def v_X12_floor : List Cond := .code yX12_floor cX12_floor 2 (some .int) :: (e_X12_floor ++ (wsX120 ++ (v_X11_act ++ [])))
theorem te_X12_floor : GoodIn lw_tbl e_X12_floor := wGc z219 (wGc z223 (wGc z222 (wGc z221 (wGc z51 (wG0)))))
theorem t_X12_floor : GoodIn lw_tbl v_X12_floor := wGc z230 (wGa te_X12_floor (wGa zcX12 (wGa t_X11_act (wG0))))
set_option maxHeartbeats 4000000 in
set_option maxRecDepth 100000 in
theorem c_X12_floor (l : Launch) (G : va_G) (K : Nat → ClassId) (m0 : Nat) (gm : Nat → Nat) (h1 : Nat) (g1 : Nat → Nat) (h2 : Nat) (g2 : Nat → Nat) (S0 : MS) (a1 : Int32) (sz : Nat) : Met l yX12_floor v_X12_floor ({ frames := 6, cells := 0, slots := 0, locals := 156 }) (va_Pc [.ref m0, .int a1] (mSt G K m0 gm h1 g1 h2 g2 sz S0 (p_X12_floor S0 a1))) (va_Qi (fun (r : Int32) (u : MS) => (r, u) = f_X12_floor S0 a1) (mB G K m0 gm h1 g1 h2 g2 (va_A (mW K m0 gm h1 g1 h2 g2 S0) sz)) (va_A (mW K m0 gm h1 g1 h2 g2 S0) sz)) 0 0 (va_A (mW K m0 gm h1 g1 h2 g2 S0) sz) := by
  refine Met.ofW (cc := cX12_floor) (maxL := 2) (ret := (some .int)) (by decide) rfl ?_
  intro p e s m args below meth c s₁ B hml hv
  obtain ⟨rfl, ⟨hsz, hP, hK, hD0, hTE⟩, hp⟩ := hv
  have hx := B.exec
  have hb := B.bytes
  have hr := B.returns
  have hts := atoms_spec (ws := v_X12_floor) B.pre
  have t_ := t_X12_floor
  have mw : ∀ w ∈ e_X12_floor, w ∈ v_X12_floor := fun w h => List.mem_cons_of_mem _ (List.mem_append_left _ h)
  have hw := fun w (h : w ∈ e_X12_floor) => hts w (mw w h)
  have iX12 : ∀ w ∈ wsX120, w ∈ v_X12_floor := fun w h => List.mem_cons_of_mem _ (List.mem_append_right _ (List.mem_append_left _ h))
  have j_X11_act : ∀ w ∈ v_X11_act, w ∈ v_X12_floor := fun w h => List.mem_cons_of_mem _ (List.mem_append_right _ (List.mem_append_right _ (List.mem_append_left _ h)))
  have hown : s.vm.findClass RX12 = some m.cls := findClass_of_methodNamed B.named
  have hlocks := B.notSynchronized
  subst hsz
  have hD := hD0.self (sz := s.heap.size)
  generalize hAe : va_A (mW K m0 gm h1 g1 h2 g2 S0) s.heap.size = A at hD ⊢
  have hA : ∀ q : Nat, s.heap.size ≤ q → A q := fun q h => by rw [← hAe]; exact Or.inr h
  have hS : va_S A s.heap s.heap [] := va_S.rf
  have hl := lv_entry ([.ref m0, .int a1]) (n := 2) (Nat.le_of_ble_eq_true rfl)
  rw [lg_entry_eq]
  generalize (lg_sl ([.ref m0, .int a1]) ++ List.replicate (2 - (lg_sl ([.ref m0, .int a1])).length) Slot.unset).toArray = ls at hl ⊢
  have hl : lv_has ls 2 [(0, .ref m0), (1, .int a1)] := hl
  refine wGen (fun Q hQ => ?_)
  obtain ⟨X, hX⟩ : ∃ X, f_X12_floor S0 a1 = X := ⟨_, rfl⟩
  have B_M : ∀ (S : MS) (x1 : Int32) (H : Heap) (locs : List Loc) (ls : Array Slot), f_X12_floor S x1 = X → p_X12_floor S x1 → va_P G vwCl (mW K m0 gm h1 g1 h2 g2 S) H → va_D A (mW K m0 gm h1 g1 h2 g2 S) → va_S A s.heap H locs → lv_has ls 2 [(0, .ref m0), (1, .int x1)] → W p l e ({ frames := 6, cells := 0, slots := 0, locals := 156 } : Room) s m #[Value.ref m0, Value.int a1] below meth c H locs 0 0 Q (F0 m 0 ls []) := by
    intro S x1 H locs ls hE hp hP hD hS hl
    unfold f_X12_floor at hE
    unfold p_X12_floor at hp
    refine lv_aload_n hx hb dX12_floor_0 rfl (lv_at hl 0 rfl) ?_
    refine va_get (D := G) (ci := 9) (v := .ref h1) (C := RX12) (T := TX12) (N := 7) hx hb hts iX12 hown hK hP 0 rfl rfl 0 (by decide) (hw (.fieldLink RX12 16 "MotionFloorModel" "hall" "LMotionFloorModel$Hall;") (List.mem_of_getElem? (i := 0) rfl)) (fun _ h9 => h9) rfl dX12_floor_1 ?_
    refine lv_bipush (v := 7) hx hb dX12_floor_4 (by decide) ?_
    refine lv_iload_n hx hb dX12_floor_6 rfl (lv_at hl 1 rfl) ?_
    refine lv_iconst (v := 0) hx hb dX12_floor_7 (by decide) ?_
    refine lv_iconst (v := 0) hx hb dX12_floor_8 (by decide) ?_
    refine lv_iconst (v := 0) hx hb dX12_floor_9 (by decide) ?_
    obtain ⟨hy1, hp⟩ := hp
    refine mGoi_h (va_runV (As := [.int 7, .int x1, .int 0, .int 0, .int 0]) (rest := []) ⟨hx, hb, hml, hown, hts⟩ (c_X11_act l G K h1 g1 S.2.1 7 x1 0 0 0 _) (cwV 5 hts (wGV t_ (mw (.methodLink RX12 40 yX11_act) (List.mem_of_getElem? (i := 1) rfl)) (mw (.instanceMethod yX11_act) (List.mem_of_getElem? (i := 2) rfl)) (mw (.selects RX11 yX11_act yX11_act) (List.mem_of_getElem? (i := 3) rfl)) (mw (.initialized RX11) (List.mem_of_getElem? (i := 4) rfl)) j_X11_act) rfl rfl rfl (by decide +kernel) ⟨Nat.le_of_ble_eq_true rfl, Nat.le_of_ble_eq_true rfl⟩) (hPV hK hTE (mP_h hP) (mD_h hD) hy1) rfl rfl hl.1 rfl (lv_room (Nat.le_of_ble_eq_true rfl)) dX12_floor_10 ⟨Nat.le_of_ble_eq_true rfl, Nat.le_of_ble_eq_true rfl⟩) hP hD hS hA (fun r3 u2 H locs hv hP hD hS => ?_)
    rw [← hv] at hE hp
    dsimp only at hE hp
    unfold b_X12_floor_a13 at hE
    unfold q_X12_floor_a13 at hp
    subst hQ
    exact W.iret (v := r3) hx hb hr (fun t ht hW => ⟨⟨r3, (mH S u2), rfl, hE.trans hX.symm, by rw [ht]; exact hP, hD⟩, hS.F ht⟩) hS.2.2 dX12_floor_13
  exact B_M S0 a1 _ _ _ hX hp hP hD hS hl
theorem gdX12_cede_0 : ckS (List.drop 0 cX12_cede.data.toList) 0 [(0, .aload_n 0, 1), (1, .getfield 16, 3), (4, .bipush 8, 2), (6, .iconst 0, 1), (7, .iconst 0, 1), (8, .iconst 0, 1), (9, .iconst 0, 1), (10, .invokevirtual 40, 3), (13, .ireturn, 1)] = true := by decide +kernel
theorem dX12_cede_0 : decode cX12_cede 0 = .ok (.aload_n 0, 1) := ckS_g gdX12_cede_0 0 rfl
theorem dX12_cede_1 : decode cX12_cede 1 = .ok (.getfield 16, 3) := ckS_g gdX12_cede_0 1 rfl
theorem dX12_cede_4 : decode cX12_cede 4 = .ok (.bipush 8, 2) := ckS_g gdX12_cede_0 2 rfl
theorem dX12_cede_6 : decode cX12_cede 6 = .ok (.iconst 0, 1) := ckS_g gdX12_cede_0 3 rfl
theorem dX12_cede_7 : decode cX12_cede 7 = .ok (.iconst 0, 1) := ckS_g gdX12_cede_0 4 rfl
theorem dX12_cede_8 : decode cX12_cede 8 = .ok (.iconst 0, 1) := ckS_g gdX12_cede_0 5 rfl
theorem dX12_cede_9 : decode cX12_cede 9 = .ok (.iconst 0, 1) := ckS_g gdX12_cede_0 6 rfl
theorem dX12_cede_10 : decode cX12_cede 10 = .ok (.invokevirtual 40, 3) := ckS_g gdX12_cede_0 7 rfl
theorem dX12_cede_13 : decode cX12_cede 13 = .ok (.ireturn, 1) := ckS_g gdX12_cede_0 8 rfl
set_option maxRecDepth 100000 in
theorem z231 : wZ (.code yX12_cede cX12_cede 1 (some .int)) := ⟨wT6 (List.mem_of_getElem? (i := 143) rfl), Or.inl rfl⟩
def b_X12_cede_a13 (S : MS) (y0 : Int32) : Int32 × MS := (y0, S)
def q_X12_cede_a13 (S : MS) (y0 : Int32) : Prop := True
def f_X12_cede (S : MS)  : Int32 × MS := (b_X12_cede_a13 (mH S ((f_X11_act S.2.1 8 0 0 0 0).2)) (f_X11_act S.2.1 8 0 0 0 0).1)
def p_X12_cede (S : MS)  : Prop := (p_X11_act S.2.1 8 0 0 0 0) ∧ (q_X12_cede_a13 (mH S ((f_X11_act S.2.1 8 0 0 0 0).2)) (f_X11_act S.2.1 8 0 0 0 0).1)
def e_X12_cede : List Cond := [.fieldLink RX12 16 "MotionFloorModel" "hall" "LMotionFloorModel$Hall;", .methodLink RX12 40 yX11_act, .instanceMethod yX11_act, .selects RX11 yX11_act yX11_act, .initialized RX11]
def v_X12_cede : List Cond := .code yX12_cede cX12_cede 1 (some .int) :: (e_X12_cede ++ (wsX120 ++ (v_X11_act ++ [])))
theorem te_X12_cede : GoodIn lw_tbl e_X12_cede := wGc z219 (wGc z223 (wGc z222 (wGc z221 (wGc z51 (wG0)))))
theorem t_X12_cede : GoodIn lw_tbl v_X12_cede := wGc z231 (wGa te_X12_cede (wGa zcX12 (wGa t_X11_act (wG0))))
set_option maxHeartbeats 4000000 in
set_option maxRecDepth 100000 in
theorem c_X12_cede (l : Launch) (G : va_G) (K : Nat → ClassId) (m0 : Nat) (gm : Nat → Nat) (h1 : Nat) (g1 : Nat → Nat) (h2 : Nat) (g2 : Nat → Nat) (S0 : MS)  (sz : Nat) : Met l yX12_cede v_X12_cede ({ frames := 6, cells := 0, slots := 0, locals := 156 }) (va_Pc [.ref m0] (mSt G K m0 gm h1 g1 h2 g2 sz S0 (p_X12_cede S0))) (va_Qi (fun (r : Int32) (u : MS) => (r, u) = f_X12_cede S0) (mB G K m0 gm h1 g1 h2 g2 (va_A (mW K m0 gm h1 g1 h2 g2 S0) sz)) (va_A (mW K m0 gm h1 g1 h2 g2 S0) sz)) 0 0 (va_A (mW K m0 gm h1 g1 h2 g2 S0) sz) := by
  refine Met.ofW (cc := cX12_cede) (maxL := 1) (ret := (some .int)) (by decide) rfl ?_
  intro p e s m args below meth c s₁ B hml hv
  obtain ⟨rfl, ⟨hsz, hP, hK, hD0, hTE⟩, hp⟩ := hv
  have hx := B.exec
  have hb := B.bytes
  have hr := B.returns
  have hts := atoms_spec (ws := v_X12_cede) B.pre
  have t_ := t_X12_cede
  have mw : ∀ w ∈ e_X12_cede, w ∈ v_X12_cede := fun w h => List.mem_cons_of_mem _ (List.mem_append_left _ h)
  have hw := fun w (h : w ∈ e_X12_cede) => hts w (mw w h)
  have iX12 : ∀ w ∈ wsX120, w ∈ v_X12_cede := fun w h => List.mem_cons_of_mem _ (List.mem_append_right _ (List.mem_append_left _ h))
  have j_X11_act : ∀ w ∈ v_X11_act, w ∈ v_X12_cede := fun w h => List.mem_cons_of_mem _ (List.mem_append_right _ (List.mem_append_right _ (List.mem_append_left _ h)))
  have hown : s.vm.findClass RX12 = some m.cls := findClass_of_methodNamed B.named
  have hlocks := B.notSynchronized
  subst hsz
  have hD := hD0.self (sz := s.heap.size)
  generalize hAe : va_A (mW K m0 gm h1 g1 h2 g2 S0) s.heap.size = A at hD ⊢
  have hA : ∀ q : Nat, s.heap.size ≤ q → A q := fun q h => by rw [← hAe]; exact Or.inr h
  have hS : va_S A s.heap s.heap [] := va_S.rf
  have hl := lv_entry ([.ref m0]) (n := 1) (Nat.le_of_ble_eq_true rfl)
  rw [lg_entry_eq]
  generalize (lg_sl ([.ref m0]) ++ List.replicate (1 - (lg_sl ([.ref m0])).length) Slot.unset).toArray = ls at hl ⊢
  have hl : lv_has ls 1 [(0, .ref m0)] := hl
  refine wGen (fun Q hQ => ?_)
  obtain ⟨X, hX⟩ : ∃ X, f_X12_cede S0 = X := ⟨_, rfl⟩
  have B_M : ∀ (S : MS) (H : Heap) (locs : List Loc) (ls : Array Slot), f_X12_cede S = X → p_X12_cede S → va_P G vwCl (mW K m0 gm h1 g1 h2 g2 S) H → va_D A (mW K m0 gm h1 g1 h2 g2 S) → va_S A s.heap H locs → lv_has ls 1 [(0, .ref m0)] → W p l e ({ frames := 6, cells := 0, slots := 0, locals := 156 } : Room) s m #[Value.ref m0] below meth c H locs 0 0 Q (F0 m 0 ls []) := by
    intro S H locs ls hE hp hP hD hS hl
    unfold f_X12_cede at hE
    unfold p_X12_cede at hp
    refine lv_aload_n hx hb dX12_cede_0 rfl (lv_at hl 0 rfl) ?_
    refine va_get (D := G) (ci := 9) (v := .ref h1) (C := RX12) (T := TX12) (N := 7) hx hb hts iX12 hown hK hP 0 rfl rfl 0 (by decide) (hw (.fieldLink RX12 16 "MotionFloorModel" "hall" "LMotionFloorModel$Hall;") (List.mem_of_getElem? (i := 0) rfl)) (fun _ h9 => h9) rfl dX12_cede_1 ?_
    refine lv_bipush (v := 8) hx hb dX12_cede_4 (by decide) ?_
    refine lv_iconst (v := 0) hx hb dX12_cede_6 (by decide) ?_
    refine lv_iconst (v := 0) hx hb dX12_cede_7 (by decide) ?_
    refine lv_iconst (v := 0) hx hb dX12_cede_8 (by decide) ?_
    refine lv_iconst (v := 0) hx hb dX12_cede_9 (by decide) ?_
    obtain ⟨hy1, hp⟩ := hp
    refine mGoi_h (va_runV (As := [.int 8, .int 0, .int 0, .int 0, .int 0]) (rest := []) ⟨hx, hb, hml, hown, hts⟩ (c_X11_act l G K h1 g1 S.2.1 8 0 0 0 0 _) (cwV 5 hts (wGV t_ (mw (.methodLink RX12 40 yX11_act) (List.mem_of_getElem? (i := 1) rfl)) (mw (.instanceMethod yX11_act) (List.mem_of_getElem? (i := 2) rfl)) (mw (.selects RX11 yX11_act yX11_act) (List.mem_of_getElem? (i := 3) rfl)) (mw (.initialized RX11) (List.mem_of_getElem? (i := 4) rfl)) j_X11_act) rfl rfl rfl (by decide +kernel) ⟨Nat.le_of_ble_eq_true rfl, Nat.le_of_ble_eq_true rfl⟩) (hPV hK hTE (mP_h hP) (mD_h hD) hy1) rfl rfl hl.1 rfl (lv_room (Nat.le_of_ble_eq_true rfl)) dX12_cede_10 ⟨Nat.le_of_ble_eq_true rfl, Nat.le_of_ble_eq_true rfl⟩) hP hD hS hA (fun r3 u2 H locs hv hP hD hS => ?_)
    rw [← hv] at hE hp
    dsimp only at hE hp
    unfold b_X12_cede_a13 at hE
    unfold q_X12_cede_a13 at hp
    subst hQ
    exact W.iret (v := r3) hx hb hr (fun t ht hW => ⟨⟨r3, (mH S u2), rfl, hE.trans hX.symm, by rw [ht]; exact hP, hD⟩, hS.F ht⟩) hS.2.2 dX12_cede_13
  exact B_M S0 _ _ _ hX hp hP hD hS hl
theorem gdX12_debate_0 : ckS (List.drop 0 cX12_debate.data.toList) 0 [(0, .aload_n 0, 1), (1, .getfield 16, 3), (4, .bipush 9, 2), (6, .iload_n 1, 1), (7, .iconst 0, 1), (8, .iconst 0, 1), (9, .iconst 0, 1), (10, .invokevirtual 40, 3), (13, .ireturn, 1)] = true := by decide +kernel
theorem dX12_debate_0 : decode cX12_debate 0 = .ok (.aload_n 0, 1) := ckS_g gdX12_debate_0 0 rfl
theorem dX12_debate_1 : decode cX12_debate 1 = .ok (.getfield 16, 3) := ckS_g gdX12_debate_0 1 rfl
theorem dX12_debate_4 : decode cX12_debate 4 = .ok (.bipush 9, 2) := ckS_g gdX12_debate_0 2 rfl
theorem dX12_debate_6 : decode cX12_debate 6 = .ok (.iload_n 1, 1) := ckS_g gdX12_debate_0 3 rfl
theorem dX12_debate_7 : decode cX12_debate 7 = .ok (.iconst 0, 1) := ckS_g gdX12_debate_0 4 rfl
theorem dX12_debate_8 : decode cX12_debate 8 = .ok (.iconst 0, 1) := ckS_g gdX12_debate_0 5 rfl
theorem dX12_debate_9 : decode cX12_debate 9 = .ok (.iconst 0, 1) := ckS_g gdX12_debate_0 6 rfl
theorem dX12_debate_10 : decode cX12_debate 10 = .ok (.invokevirtual 40, 3) := ckS_g gdX12_debate_0 7 rfl
theorem dX12_debate_13 : decode cX12_debate 13 = .ok (.ireturn, 1) := ckS_g gdX12_debate_0 8 rfl
set_option maxRecDepth 100000 in
theorem z232 : wZ (.code yX12_debate cX12_debate 2 (some .int)) := ⟨wT6 (List.mem_of_getElem? (i := 147) rfl), Or.inl rfl⟩
def b_X12_debate_a13 (S : MS) (x1 y0 : Int32) : Int32 × MS := (y0, S)
def q_X12_debate_a13 (S : MS) (x1 y0 : Int32) : Prop := True
def f_X12_debate (S : MS) (x1 : Int32) : Int32 × MS := (b_X12_debate_a13 (mH S ((f_X11_act S.2.1 9 x1 0 0 0).2)) x1 (f_X11_act S.2.1 9 x1 0 0 0).1)
def p_X12_debate (S : MS) (x1 : Int32) : Prop := (p_X11_act S.2.1 9 x1 0 0 0) ∧ (q_X12_debate_a13 (mH S ((f_X11_act S.2.1 9 x1 0 0 0).2)) x1 (f_X11_act S.2.1 9 x1 0 0 0).1)
def e_X12_debate : List Cond := [.fieldLink RX12 16 "MotionFloorModel" "hall" "LMotionFloorModel$Hall;", .methodLink RX12 40 yX11_act, .instanceMethod yX11_act, .selects RX11 yX11_act yX11_act, .initialized RX11]
def v_X12_debate : List Cond := .code yX12_debate cX12_debate 2 (some .int) :: (e_X12_debate ++ (wsX120 ++ (v_X11_act ++ [])))
theorem te_X12_debate : GoodIn lw_tbl e_X12_debate := wGc z219 (wGc z223 (wGc z222 (wGc z221 (wGc z51 (wG0)))))
theorem t_X12_debate : GoodIn lw_tbl v_X12_debate := wGc z232 (wGa te_X12_debate (wGa zcX12 (wGa t_X11_act (wG0))))
set_option maxHeartbeats 4000000 in
set_option maxRecDepth 100000 in
theorem c_X12_debate (l : Launch) (G : va_G) (K : Nat → ClassId) (m0 : Nat) (gm : Nat → Nat) (h1 : Nat) (g1 : Nat → Nat) (h2 : Nat) (g2 : Nat → Nat) (S0 : MS) (a1 : Int32) (sz : Nat) : Met l yX12_debate v_X12_debate ({ frames := 6, cells := 0, slots := 0, locals := 156 }) (va_Pc [.ref m0, .int a1] (mSt G K m0 gm h1 g1 h2 g2 sz S0 (p_X12_debate S0 a1))) (va_Qi (fun (r : Int32) (u : MS) => (r, u) = f_X12_debate S0 a1) (mB G K m0 gm h1 g1 h2 g2 (va_A (mW K m0 gm h1 g1 h2 g2 S0) sz)) (va_A (mW K m0 gm h1 g1 h2 g2 S0) sz)) 0 0 (va_A (mW K m0 gm h1 g1 h2 g2 S0) sz) := by
  refine Met.ofW (cc := cX12_debate) (maxL := 2) (ret := (some .int)) (by decide) rfl ?_
  intro p e s m args below meth c s₁ B hml hv
  obtain ⟨rfl, ⟨hsz, hP, hK, hD0, hTE⟩, hp⟩ := hv
  have hx := B.exec
  have hb := B.bytes
  have hr := B.returns
  have hts := atoms_spec (ws := v_X12_debate) B.pre
  have t_ := t_X12_debate
  have mw : ∀ w ∈ e_X12_debate, w ∈ v_X12_debate := fun w h => List.mem_cons_of_mem _ (List.mem_append_left _ h)
  have hw := fun w (h : w ∈ e_X12_debate) => hts w (mw w h)
  have iX12 : ∀ w ∈ wsX120, w ∈ v_X12_debate := fun w h => List.mem_cons_of_mem _ (List.mem_append_right _ (List.mem_append_left _ h))
  have j_X11_act : ∀ w ∈ v_X11_act, w ∈ v_X12_debate := fun w h => List.mem_cons_of_mem _ (List.mem_append_right _ (List.mem_append_right _ (List.mem_append_left _ h)))
  have hown : s.vm.findClass RX12 = some m.cls := findClass_of_methodNamed B.named
  have hlocks := B.notSynchronized
  subst hsz
  have hD := hD0.self (sz := s.heap.size)
  generalize hAe : va_A (mW K m0 gm h1 g1 h2 g2 S0) s.heap.size = A at hD ⊢
  have hA : ∀ q : Nat, s.heap.size ≤ q → A q := fun q h => by rw [← hAe]; exact Or.inr h
  have hS : va_S A s.heap s.heap [] := va_S.rf
  have hl := lv_entry ([.ref m0, .int a1]) (n := 2) (Nat.le_of_ble_eq_true rfl)
  rw [lg_entry_eq]
  generalize (lg_sl ([.ref m0, .int a1]) ++ List.replicate (2 - (lg_sl ([.ref m0, .int a1])).length) Slot.unset).toArray = ls at hl ⊢
  have hl : lv_has ls 2 [(0, .ref m0), (1, .int a1)] := hl
  refine wGen (fun Q hQ => ?_)
  obtain ⟨X, hX⟩ : ∃ X, f_X12_debate S0 a1 = X := ⟨_, rfl⟩
  have B_M : ∀ (S : MS) (x1 : Int32) (H : Heap) (locs : List Loc) (ls : Array Slot), f_X12_debate S x1 = X → p_X12_debate S x1 → va_P G vwCl (mW K m0 gm h1 g1 h2 g2 S) H → va_D A (mW K m0 gm h1 g1 h2 g2 S) → va_S A s.heap H locs → lv_has ls 2 [(0, .ref m0), (1, .int x1)] → W p l e ({ frames := 6, cells := 0, slots := 0, locals := 156 } : Room) s m #[Value.ref m0, Value.int a1] below meth c H locs 0 0 Q (F0 m 0 ls []) := by
    intro S x1 H locs ls hE hp hP hD hS hl
    unfold f_X12_debate at hE
    unfold p_X12_debate at hp
    refine lv_aload_n hx hb dX12_debate_0 rfl (lv_at hl 0 rfl) ?_
    refine va_get (D := G) (ci := 9) (v := .ref h1) (C := RX12) (T := TX12) (N := 7) hx hb hts iX12 hown hK hP 0 rfl rfl 0 (by decide) (hw (.fieldLink RX12 16 "MotionFloorModel" "hall" "LMotionFloorModel$Hall;") (List.mem_of_getElem? (i := 0) rfl)) (fun _ h9 => h9) rfl dX12_debate_1 ?_
    refine lv_bipush (v := 9) hx hb dX12_debate_4 (by decide) ?_
    refine lv_iload_n hx hb dX12_debate_6 rfl (lv_at hl 1 rfl) ?_
    refine lv_iconst (v := 0) hx hb dX12_debate_7 (by decide) ?_
    refine lv_iconst (v := 0) hx hb dX12_debate_8 (by decide) ?_
    refine lv_iconst (v := 0) hx hb dX12_debate_9 (by decide) ?_
    obtain ⟨hy1, hp⟩ := hp
    refine mGoi_h (va_runV (As := [.int 9, .int x1, .int 0, .int 0, .int 0]) (rest := []) ⟨hx, hb, hml, hown, hts⟩ (c_X11_act l G K h1 g1 S.2.1 9 x1 0 0 0 _) (cwV 5 hts (wGV t_ (mw (.methodLink RX12 40 yX11_act) (List.mem_of_getElem? (i := 1) rfl)) (mw (.instanceMethod yX11_act) (List.mem_of_getElem? (i := 2) rfl)) (mw (.selects RX11 yX11_act yX11_act) (List.mem_of_getElem? (i := 3) rfl)) (mw (.initialized RX11) (List.mem_of_getElem? (i := 4) rfl)) j_X11_act) rfl rfl rfl (by decide +kernel) ⟨Nat.le_of_ble_eq_true rfl, Nat.le_of_ble_eq_true rfl⟩) (hPV hK hTE (mP_h hP) (mD_h hD) hy1) rfl rfl hl.1 rfl (lv_room (Nat.le_of_ble_eq_true rfl)) dX12_debate_10 ⟨Nat.le_of_ble_eq_true rfl, Nat.le_of_ble_eq_true rfl⟩) hP hD hS hA (fun r3 u2 H locs hv hP hD hS => ?_)
    rw [← hv] at hE hp
    dsimp only at hE hp
    unfold b_X12_debate_a13 at hE
    unfold q_X12_debate_a13 at hp
    subst hQ
    exact W.iret (v := r3) hx hb hr (fun t ht hW => ⟨⟨r3, (mH S u2), rfl, hE.trans hX.symm, by rw [ht]; exact hP, hD⟩, hS.F ht⟩) hS.2.2 dX12_debate_13
  exact B_M S0 a1 _ _ _ hX hp hP hD hS hl
theorem gdX12_draft_0 : ckS (List.drop 0 cX12_draft.data.toList) 0 [(0, .aload_n 0, 1), (1, .getfield 16, 3), (4, .bipush 10, 2), (6, .iload_n 1, 1), (7, .iconst 0, 1), (8, .iconst 0, 1), (9, .iconst 0, 1), (10, .invokevirtual 40, 3), (13, .ireturn, 1)] = true := by decide +kernel
theorem dX12_draft_0 : decode cX12_draft 0 = .ok (.aload_n 0, 1) := ckS_g gdX12_draft_0 0 rfl
theorem dX12_draft_1 : decode cX12_draft 1 = .ok (.getfield 16, 3) := ckS_g gdX12_draft_0 1 rfl
theorem dX12_draft_4 : decode cX12_draft 4 = .ok (.bipush 10, 2) := ckS_g gdX12_draft_0 2 rfl
theorem dX12_draft_6 : decode cX12_draft 6 = .ok (.iload_n 1, 1) := ckS_g gdX12_draft_0 3 rfl
theorem dX12_draft_7 : decode cX12_draft 7 = .ok (.iconst 0, 1) := ckS_g gdX12_draft_0 4 rfl
theorem dX12_draft_8 : decode cX12_draft 8 = .ok (.iconst 0, 1) := ckS_g gdX12_draft_0 5 rfl
theorem dX12_draft_9 : decode cX12_draft 9 = .ok (.iconst 0, 1) := ckS_g gdX12_draft_0 6 rfl
theorem dX12_draft_10 : decode cX12_draft 10 = .ok (.invokevirtual 40, 3) := ckS_g gdX12_draft_0 7 rfl
theorem dX12_draft_13 : decode cX12_draft 13 = .ok (.ireturn, 1) := ckS_g gdX12_draft_0 8 rfl
set_option maxRecDepth 100000 in
theorem z233 : wZ (.code yX12_draft cX12_draft 2 (some .int)) := ⟨wT6 (List.mem_of_getElem? (i := 151) rfl), Or.inl rfl⟩
def b_X12_draft_a13 (S : MS) (x1 y0 : Int32) : Int32 × MS := (y0, S)
def q_X12_draft_a13 (S : MS) (x1 y0 : Int32) : Prop := True
def f_X12_draft (S : MS) (x1 : Int32) : Int32 × MS := (b_X12_draft_a13 (mH S ((f_X11_act S.2.1 10 x1 0 0 0).2)) x1 (f_X11_act S.2.1 10 x1 0 0 0).1)
def p_X12_draft (S : MS) (x1 : Int32) : Prop := (p_X11_act S.2.1 10 x1 0 0 0) ∧ (q_X12_draft_a13 (mH S ((f_X11_act S.2.1 10 x1 0 0 0).2)) x1 (f_X11_act S.2.1 10 x1 0 0 0).1)
def e_X12_draft : List Cond := [.fieldLink RX12 16 "MotionFloorModel" "hall" "LMotionFloorModel$Hall;", .methodLink RX12 40 yX11_act, .instanceMethod yX11_act, .selects RX11 yX11_act yX11_act, .initialized RX11]
def v_X12_draft : List Cond := .code yX12_draft cX12_draft 2 (some .int) :: (e_X12_draft ++ (wsX120 ++ (v_X11_act ++ [])))
theorem te_X12_draft : GoodIn lw_tbl e_X12_draft := wGc z219 (wGc z223 (wGc z222 (wGc z221 (wGc z51 (wG0)))))
theorem t_X12_draft : GoodIn lw_tbl v_X12_draft := wGc z233 (wGa te_X12_draft (wGa zcX12 (wGa t_X11_act (wG0))))
set_option maxHeartbeats 4000000 in
set_option maxRecDepth 100000 in
theorem c_X12_draft (l : Launch) (G : va_G) (K : Nat → ClassId) (m0 : Nat) (gm : Nat → Nat) (h1 : Nat) (g1 : Nat → Nat) (h2 : Nat) (g2 : Nat → Nat) (S0 : MS) (a1 : Int32) (sz : Nat) : Met l yX12_draft v_X12_draft ({ frames := 6, cells := 0, slots := 0, locals := 156 }) (va_Pc [.ref m0, .int a1] (mSt G K m0 gm h1 g1 h2 g2 sz S0 (p_X12_draft S0 a1))) (va_Qi (fun (r : Int32) (u : MS) => (r, u) = f_X12_draft S0 a1) (mB G K m0 gm h1 g1 h2 g2 (va_A (mW K m0 gm h1 g1 h2 g2 S0) sz)) (va_A (mW K m0 gm h1 g1 h2 g2 S0) sz)) 0 0 (va_A (mW K m0 gm h1 g1 h2 g2 S0) sz) := by
  refine Met.ofW (cc := cX12_draft) (maxL := 2) (ret := (some .int)) (by decide) rfl ?_
  intro p e s m args below meth c s₁ B hml hv
  obtain ⟨rfl, ⟨hsz, hP, hK, hD0, hTE⟩, hp⟩ := hv
  have hx := B.exec
  have hb := B.bytes
  have hr := B.returns
  have hts := atoms_spec (ws := v_X12_draft) B.pre
  have t_ := t_X12_draft
  have mw : ∀ w ∈ e_X12_draft, w ∈ v_X12_draft := fun w h => List.mem_cons_of_mem _ (List.mem_append_left _ h)
  have hw := fun w (h : w ∈ e_X12_draft) => hts w (mw w h)
  have iX12 : ∀ w ∈ wsX120, w ∈ v_X12_draft := fun w h => List.mem_cons_of_mem _ (List.mem_append_right _ (List.mem_append_left _ h))
  have j_X11_act : ∀ w ∈ v_X11_act, w ∈ v_X12_draft := fun w h => List.mem_cons_of_mem _ (List.mem_append_right _ (List.mem_append_right _ (List.mem_append_left _ h)))
  have hown : s.vm.findClass RX12 = some m.cls := findClass_of_methodNamed B.named
  have hlocks := B.notSynchronized
  subst hsz
  have hD := hD0.self (sz := s.heap.size)
  generalize hAe : va_A (mW K m0 gm h1 g1 h2 g2 S0) s.heap.size = A at hD ⊢
  have hA : ∀ q : Nat, s.heap.size ≤ q → A q := fun q h => by rw [← hAe]; exact Or.inr h
  have hS : va_S A s.heap s.heap [] := va_S.rf
  have hl := lv_entry ([.ref m0, .int a1]) (n := 2) (Nat.le_of_ble_eq_true rfl)
  rw [lg_entry_eq]
  generalize (lg_sl ([.ref m0, .int a1]) ++ List.replicate (2 - (lg_sl ([.ref m0, .int a1])).length) Slot.unset).toArray = ls at hl ⊢
  have hl : lv_has ls 2 [(0, .ref m0), (1, .int a1)] := hl
  refine wGen (fun Q hQ => ?_)
  obtain ⟨X, hX⟩ : ∃ X, f_X12_draft S0 a1 = X := ⟨_, rfl⟩
  have B_M : ∀ (S : MS) (x1 : Int32) (H : Heap) (locs : List Loc) (ls : Array Slot), f_X12_draft S x1 = X → p_X12_draft S x1 → va_P G vwCl (mW K m0 gm h1 g1 h2 g2 S) H → va_D A (mW K m0 gm h1 g1 h2 g2 S) → va_S A s.heap H locs → lv_has ls 2 [(0, .ref m0), (1, .int x1)] → W p l e ({ frames := 6, cells := 0, slots := 0, locals := 156 } : Room) s m #[Value.ref m0, Value.int a1] below meth c H locs 0 0 Q (F0 m 0 ls []) := by
    intro S x1 H locs ls hE hp hP hD hS hl
    unfold f_X12_draft at hE
    unfold p_X12_draft at hp
    refine lv_aload_n hx hb dX12_draft_0 rfl (lv_at hl 0 rfl) ?_
    refine va_get (D := G) (ci := 9) (v := .ref h1) (C := RX12) (T := TX12) (N := 7) hx hb hts iX12 hown hK hP 0 rfl rfl 0 (by decide) (hw (.fieldLink RX12 16 "MotionFloorModel" "hall" "LMotionFloorModel$Hall;") (List.mem_of_getElem? (i := 0) rfl)) (fun _ h9 => h9) rfl dX12_draft_1 ?_
    refine lv_bipush (v := 10) hx hb dX12_draft_4 (by decide) ?_
    refine lv_iload_n hx hb dX12_draft_6 rfl (lv_at hl 1 rfl) ?_
    refine lv_iconst (v := 0) hx hb dX12_draft_7 (by decide) ?_
    refine lv_iconst (v := 0) hx hb dX12_draft_8 (by decide) ?_
    refine lv_iconst (v := 0) hx hb dX12_draft_9 (by decide) ?_
    obtain ⟨hy1, hp⟩ := hp
    refine mGoi_h (va_runV (As := [.int 10, .int x1, .int 0, .int 0, .int 0]) (rest := []) ⟨hx, hb, hml, hown, hts⟩ (c_X11_act l G K h1 g1 S.2.1 10 x1 0 0 0 _) (cwV 5 hts (wGV t_ (mw (.methodLink RX12 40 yX11_act) (List.mem_of_getElem? (i := 1) rfl)) (mw (.instanceMethod yX11_act) (List.mem_of_getElem? (i := 2) rfl)) (mw (.selects RX11 yX11_act yX11_act) (List.mem_of_getElem? (i := 3) rfl)) (mw (.initialized RX11) (List.mem_of_getElem? (i := 4) rfl)) j_X11_act) rfl rfl rfl (by decide +kernel) ⟨Nat.le_of_ble_eq_true rfl, Nat.le_of_ble_eq_true rfl⟩) (hPV hK hTE (mP_h hP) (mD_h hD) hy1) rfl rfl hl.1 rfl (lv_room (Nat.le_of_ble_eq_true rfl)) dX12_draft_10 ⟨Nat.le_of_ble_eq_true rfl, Nat.le_of_ble_eq_true rfl⟩) hP hD hS hA (fun r3 u2 H locs hv hP hD hS => ?_)
    rw [← hv] at hE hp
    dsimp only at hE hp
    unfold b_X12_draft_a13 at hE
    unfold q_X12_draft_a13 at hp
    subst hQ
    exact W.iret (v := r3) hx hb hr (fun t ht hW => ⟨⟨r3, (mH S u2), rfl, hE.trans hX.symm, by rw [ht]; exact hP, hD⟩, hS.F ht⟩) hS.2.2 dX12_draft_13
  exact B_M S0 a1 _ _ _ hX hp hP hD hS hl
theorem gdX12_span_0 : ckS (List.drop 0 cX12_span.data.toList) 0 [(0, .aload_n 0, 1), (1, .getfield 16, 3), (4, .bipush 11, 2), (6, .iload_n 1, 1), (7, .iload_n 2, 1), (8, .iconst 0, 1), (9, .iconst 0, 1), (10, .invokevirtual 40, 3), (13, .ireturn, 1)] = true := by decide +kernel
theorem dX12_span_0 : decode cX12_span 0 = .ok (.aload_n 0, 1) := ckS_g gdX12_span_0 0 rfl
theorem dX12_span_1 : decode cX12_span 1 = .ok (.getfield 16, 3) := ckS_g gdX12_span_0 1 rfl
theorem dX12_span_4 : decode cX12_span 4 = .ok (.bipush 11, 2) := ckS_g gdX12_span_0 2 rfl
theorem dX12_span_6 : decode cX12_span 6 = .ok (.iload_n 1, 1) := ckS_g gdX12_span_0 3 rfl
theorem dX12_span_7 : decode cX12_span 7 = .ok (.iload_n 2, 1) := ckS_g gdX12_span_0 4 rfl
theorem dX12_span_8 : decode cX12_span 8 = .ok (.iconst 0, 1) := ckS_g gdX12_span_0 5 rfl
theorem dX12_span_9 : decode cX12_span 9 = .ok (.iconst 0, 1) := ckS_g gdX12_span_0 6 rfl
theorem dX12_span_10 : decode cX12_span 10 = .ok (.invokevirtual 40, 3) := ckS_g gdX12_span_0 7 rfl
theorem dX12_span_13 : decode cX12_span 13 = .ok (.ireturn, 1) := ckS_g gdX12_span_0 8 rfl
set_option maxRecDepth 100000 in
theorem z234 : wZ (.code yX12_span cX12_span 3 (some .int)) := ⟨wT6 (List.mem_of_getElem? (i := 155) rfl), Or.inl rfl⟩
def b_X12_span_a13 (S : MS) (x1 x2 y0 : Int32) : Int32 × MS := (y0, S)
def q_X12_span_a13 (S : MS) (x1 x2 y0 : Int32) : Prop := True
def f_X12_span (S : MS) (x1 x2 : Int32) : Int32 × MS := (b_X12_span_a13 (mH S ((f_X11_act S.2.1 11 x1 x2 0 0).2)) x1 x2 (f_X11_act S.2.1 11 x1 x2 0 0).1)
def p_X12_span (S : MS) (x1 x2 : Int32) : Prop := (p_X11_act S.2.1 11 x1 x2 0 0) ∧ (q_X12_span_a13 (mH S ((f_X11_act S.2.1 11 x1 x2 0 0).2)) x1 x2 (f_X11_act S.2.1 11 x1 x2 0 0).1)
def e_X12_span : List Cond := [.fieldLink RX12 16 "MotionFloorModel" "hall" "LMotionFloorModel$Hall;", .methodLink RX12 40 yX11_act, .instanceMethod yX11_act, .selects RX11 yX11_act yX11_act, .initialized RX11]
def v_X12_span : List Cond := .code yX12_span cX12_span 3 (some .int) :: (e_X12_span ++ (wsX120 ++ (v_X11_act ++ [])))
theorem te_X12_span : GoodIn lw_tbl e_X12_span := wGc z219 (wGc z223 (wGc z222 (wGc z221 (wGc z51 (wG0)))))
theorem t_X12_span : GoodIn lw_tbl v_X12_span := wGc z234 (wGa te_X12_span (wGa zcX12 (wGa t_X11_act (wG0))))
set_option maxHeartbeats 4000000 in
set_option maxRecDepth 100000 in
theorem c_X12_span (l : Launch) (G : va_G) (K : Nat → ClassId) (m0 : Nat) (gm : Nat → Nat) (h1 : Nat) (g1 : Nat → Nat) (h2 : Nat) (g2 : Nat → Nat) (S0 : MS) (a1 a2 : Int32) (sz : Nat) : Met l yX12_span v_X12_span ({ frames := 6, cells := 0, slots := 0, locals := 156 }) (va_Pc [.ref m0, .int a1, .int a2] (mSt G K m0 gm h1 g1 h2 g2 sz S0 (p_X12_span S0 a1 a2))) (va_Qi (fun (r : Int32) (u : MS) => (r, u) = f_X12_span S0 a1 a2) (mB G K m0 gm h1 g1 h2 g2 (va_A (mW K m0 gm h1 g1 h2 g2 S0) sz)) (va_A (mW K m0 gm h1 g1 h2 g2 S0) sz)) 0 0 (va_A (mW K m0 gm h1 g1 h2 g2 S0) sz) := by
  refine Met.ofW (cc := cX12_span) (maxL := 3) (ret := (some .int)) (by decide) rfl ?_
  intro p e s m args below meth c s₁ B hml hv
  obtain ⟨rfl, ⟨hsz, hP, hK, hD0, hTE⟩, hp⟩ := hv
  have hx := B.exec
  have hb := B.bytes
  have hr := B.returns
  have hts := atoms_spec (ws := v_X12_span) B.pre
  have t_ := t_X12_span
  have mw : ∀ w ∈ e_X12_span, w ∈ v_X12_span := fun w h => List.mem_cons_of_mem _ (List.mem_append_left _ h)
  have hw := fun w (h : w ∈ e_X12_span) => hts w (mw w h)
  have iX12 : ∀ w ∈ wsX120, w ∈ v_X12_span := fun w h => List.mem_cons_of_mem _ (List.mem_append_right _ (List.mem_append_left _ h))
  have j_X11_act : ∀ w ∈ v_X11_act, w ∈ v_X12_span := fun w h => List.mem_cons_of_mem _ (List.mem_append_right _ (List.mem_append_right _ (List.mem_append_left _ h)))
  have hown : s.vm.findClass RX12 = some m.cls := findClass_of_methodNamed B.named
  have hlocks := B.notSynchronized
  subst hsz
  have hD := hD0.self (sz := s.heap.size)
  generalize hAe : va_A (mW K m0 gm h1 g1 h2 g2 S0) s.heap.size = A at hD ⊢
  have hA : ∀ q : Nat, s.heap.size ≤ q → A q := fun q h => by rw [← hAe]; exact Or.inr h
  have hS : va_S A s.heap s.heap [] := va_S.rf
  have hl := lv_entry ([.ref m0, .int a1, .int a2]) (n := 3) (Nat.le_of_ble_eq_true rfl)
  rw [lg_entry_eq]
  generalize (lg_sl ([.ref m0, .int a1, .int a2]) ++ List.replicate (3 - (lg_sl ([.ref m0, .int a1, .int a2])).length) Slot.unset).toArray = ls at hl ⊢
  have hl : lv_has ls 3 [(0, .ref m0), (1, .int a1), (2, .int a2)] := hl
  refine wGen (fun Q hQ => ?_)
  obtain ⟨X, hX⟩ : ∃ X, f_X12_span S0 a1 a2 = X := ⟨_, rfl⟩
  have B_M : ∀ (S : MS) (x1 x2 : Int32) (H : Heap) (locs : List Loc) (ls : Array Slot), f_X12_span S x1 x2 = X → p_X12_span S x1 x2 → va_P G vwCl (mW K m0 gm h1 g1 h2 g2 S) H → va_D A (mW K m0 gm h1 g1 h2 g2 S) → va_S A s.heap H locs → lv_has ls 3 [(0, .ref m0), (1, .int x1), (2, .int x2)] → W p l e ({ frames := 6, cells := 0, slots := 0, locals := 156 } : Room) s m #[Value.ref m0, Value.int a1, Value.int a2] below meth c H locs 0 0 Q (F0 m 0 ls []) := by
    intro S x1 x2 H locs ls hE hp hP hD hS hl
    unfold f_X12_span at hE
    unfold p_X12_span at hp
    refine lv_aload_n hx hb dX12_span_0 rfl (lv_at hl 0 rfl) ?_
    refine va_get (D := G) (ci := 9) (v := .ref h1) (C := RX12) (T := TX12) (N := 7) hx hb hts iX12 hown hK hP 0 rfl rfl 0 (by decide) (hw (.fieldLink RX12 16 "MotionFloorModel" "hall" "LMotionFloorModel$Hall;") (List.mem_of_getElem? (i := 0) rfl)) (fun _ h9 => h9) rfl dX12_span_1 ?_
    refine lv_bipush (v := 11) hx hb dX12_span_4 (by decide) ?_
    refine lv_iload_n hx hb dX12_span_6 rfl (lv_at hl 1 rfl) ?_
    refine lv_iload_n hx hb dX12_span_7 rfl (lv_at hl 2 rfl) ?_
    refine lv_iconst (v := 0) hx hb dX12_span_8 (by decide) ?_
    refine lv_iconst (v := 0) hx hb dX12_span_9 (by decide) ?_
    obtain ⟨hy1, hp⟩ := hp
    refine mGoi_h (va_runV (As := [.int 11, .int x1, .int x2, .int 0, .int 0]) (rest := []) ⟨hx, hb, hml, hown, hts⟩ (c_X11_act l G K h1 g1 S.2.1 11 x1 x2 0 0 _) (cwV 5 hts (wGV t_ (mw (.methodLink RX12 40 yX11_act) (List.mem_of_getElem? (i := 1) rfl)) (mw (.instanceMethod yX11_act) (List.mem_of_getElem? (i := 2) rfl)) (mw (.selects RX11 yX11_act yX11_act) (List.mem_of_getElem? (i := 3) rfl)) (mw (.initialized RX11) (List.mem_of_getElem? (i := 4) rfl)) j_X11_act) rfl rfl rfl (by decide +kernel) ⟨Nat.le_of_ble_eq_true rfl, Nat.le_of_ble_eq_true rfl⟩) (hPV hK hTE (mP_h hP) (mD_h hD) hy1) rfl rfl hl.1 rfl (lv_room (Nat.le_of_ble_eq_true rfl)) dX12_span_10 ⟨Nat.le_of_ble_eq_true rfl, Nat.le_of_ble_eq_true rfl⟩) hP hD hS hA (fun r3 u2 H locs hv hP hD hS => ?_)
    rw [← hv] at hE hp
    dsimp only at hE hp
    unfold b_X12_span_a13 at hE
    unfold q_X12_span_a13 at hp
    subst hQ
    exact W.iret (v := r3) hx hb hr (fun t ht hW => ⟨⟨r3, (mH S u2), rfl, hE.trans hX.symm, by rw [ht]; exact hP, hD⟩, hS.F ht⟩) hS.2.2 dX12_span_13
  exact B_M S0 a1 a2 _ _ _ hX hp hP hD hS hl
theorem gdX12_word_0 : ckS (List.drop 0 cX12_word.data.toList) 0 [(0, .aload_n 0, 1), (1, .getfield 16, 3), (4, .bipush 12, 2), (6, .iload_n 1, 1), (7, .iload_n 2, 1), (8, .iload_n 3, 1), (9, .iload 4, 2), (11, .invokevirtual 40, 3), (14, .ireturn, 1)] = true := by decide +kernel
theorem dX12_word_0 : decode cX12_word 0 = .ok (.aload_n 0, 1) := ckS_g gdX12_word_0 0 rfl
theorem dX12_word_1 : decode cX12_word 1 = .ok (.getfield 16, 3) := ckS_g gdX12_word_0 1 rfl
theorem dX12_word_4 : decode cX12_word 4 = .ok (.bipush 12, 2) := ckS_g gdX12_word_0 2 rfl
theorem dX12_word_6 : decode cX12_word 6 = .ok (.iload_n 1, 1) := ckS_g gdX12_word_0 3 rfl
theorem dX12_word_7 : decode cX12_word 7 = .ok (.iload_n 2, 1) := ckS_g gdX12_word_0 4 rfl
theorem dX12_word_8 : decode cX12_word 8 = .ok (.iload_n 3, 1) := ckS_g gdX12_word_0 5 rfl
theorem dX12_word_9 : decode cX12_word 9 = .ok (.iload 4, 2) := ckS_g gdX12_word_0 6 rfl
theorem dX12_word_11 : decode cX12_word 11 = .ok (.invokevirtual 40, 3) := ckS_g gdX12_word_0 7 rfl
theorem dX12_word_14 : decode cX12_word 14 = .ok (.ireturn, 1) := ckS_g gdX12_word_0 8 rfl
set_option maxRecDepth 100000 in
theorem z235 : wZ (.code yX12_word cX12_word 5 (some .int)) := ⟨wT6 (List.mem_of_getElem? (i := 159) rfl), Or.inl rfl⟩
def b_X12_word_a14 (S : MS) (x1 x2 x3 x4 y0 : Int32) : Int32 × MS := (y0, S)
def q_X12_word_a14 (S : MS) (x1 x2 x3 x4 y0 : Int32) : Prop := True
def f_X12_word (S : MS) (x1 x2 x3 x4 : Int32) : Int32 × MS := (b_X12_word_a14 (mH S ((f_X11_act S.2.1 12 x1 x2 x3 x4).2)) x1 x2 x3 x4 (f_X11_act S.2.1 12 x1 x2 x3 x4).1)
def p_X12_word (S : MS) (x1 x2 x3 x4 : Int32) : Prop := (p_X11_act S.2.1 12 x1 x2 x3 x4) ∧ (q_X12_word_a14 (mH S ((f_X11_act S.2.1 12 x1 x2 x3 x4).2)) x1 x2 x3 x4 (f_X11_act S.2.1 12 x1 x2 x3 x4).1)
def e_X12_word : List Cond := [.fieldLink RX12 16 "MotionFloorModel" "hall" "LMotionFloorModel$Hall;", .methodLink RX12 40 yX11_act, .instanceMethod yX11_act, .selects RX11 yX11_act yX11_act, .initialized RX11]
def v_X12_word : List Cond := .code yX12_word cX12_word 5 (some .int) :: (e_X12_word ++ (wsX120 ++ (v_X11_act ++ [])))
theorem te_X12_word : GoodIn lw_tbl e_X12_word := wGc z219 (wGc z223 (wGc z222 (wGc z221 (wGc z51 (wG0)))))
theorem t_X12_word : GoodIn lw_tbl v_X12_word := wGc z235 (wGa te_X12_word (wGa zcX12 (wGa t_X11_act (wG0))))
set_option maxHeartbeats 4000000 in
set_option maxRecDepth 100000 in
theorem c_X12_word (l : Launch) (G : va_G) (K : Nat → ClassId) (m0 : Nat) (gm : Nat → Nat) (h1 : Nat) (g1 : Nat → Nat) (h2 : Nat) (g2 : Nat → Nat) (S0 : MS) (a1 a2 a3 a4 : Int32) (sz : Nat) : Met l yX12_word v_X12_word ({ frames := 6, cells := 0, slots := 0, locals := 156 }) (va_Pc [.ref m0, .int a1, .int a2, .int a3, .int a4] (mSt G K m0 gm h1 g1 h2 g2 sz S0 (p_X12_word S0 a1 a2 a3 a4))) (va_Qi (fun (r : Int32) (u : MS) => (r, u) = f_X12_word S0 a1 a2 a3 a4) (mB G K m0 gm h1 g1 h2 g2 (va_A (mW K m0 gm h1 g1 h2 g2 S0) sz)) (va_A (mW K m0 gm h1 g1 h2 g2 S0) sz)) 0 0 (va_A (mW K m0 gm h1 g1 h2 g2 S0) sz) := by
  refine Met.ofW (cc := cX12_word) (maxL := 5) (ret := (some .int)) (by decide) rfl ?_
  intro p e s m args below meth c s₁ B hml hv
  obtain ⟨rfl, ⟨hsz, hP, hK, hD0, hTE⟩, hp⟩ := hv
  have hx := B.exec
  have hb := B.bytes
  have hr := B.returns
  have hts := atoms_spec (ws := v_X12_word) B.pre
  have t_ := t_X12_word
  have mw : ∀ w ∈ e_X12_word, w ∈ v_X12_word := fun w h => List.mem_cons_of_mem _ (List.mem_append_left _ h)
  have hw := fun w (h : w ∈ e_X12_word) => hts w (mw w h)
  have iX12 : ∀ w ∈ wsX120, w ∈ v_X12_word := fun w h => List.mem_cons_of_mem _ (List.mem_append_right _ (List.mem_append_left _ h))
  have j_X11_act : ∀ w ∈ v_X11_act, w ∈ v_X12_word := fun w h => List.mem_cons_of_mem _ (List.mem_append_right _ (List.mem_append_right _ (List.mem_append_left _ h)))
  have hown : s.vm.findClass RX12 = some m.cls := findClass_of_methodNamed B.named
  have hlocks := B.notSynchronized
  subst hsz
  have hD := hD0.self (sz := s.heap.size)
  generalize hAe : va_A (mW K m0 gm h1 g1 h2 g2 S0) s.heap.size = A at hD ⊢
  have hA : ∀ q : Nat, s.heap.size ≤ q → A q := fun q h => by rw [← hAe]; exact Or.inr h
  have hS : va_S A s.heap s.heap [] := va_S.rf
  have hl := lv_entry ([.ref m0, .int a1, .int a2, .int a3, .int a4]) (n := 5) (Nat.le_of_ble_eq_true rfl)
  rw [lg_entry_eq]
  generalize (lg_sl ([.ref m0, .int a1, .int a2, .int a3, .int a4]) ++ List.replicate (5 - (lg_sl ([.ref m0, .int a1, .int a2, .int a3, .int a4])).length) Slot.unset).toArray = ls at hl ⊢
  have hl : lv_has ls 5 [(0, .ref m0), (1, .int a1), (2, .int a2), (3, .int a3), (4, .int a4)] := hl
  refine wGen (fun Q hQ => ?_)
  obtain ⟨X, hX⟩ : ∃ X, f_X12_word S0 a1 a2 a3 a4 = X := ⟨_, rfl⟩
  have B_M : ∀ (S : MS) (x1 x2 x3 x4 : Int32) (H : Heap) (locs : List Loc) (ls : Array Slot), f_X12_word S x1 x2 x3 x4 = X → p_X12_word S x1 x2 x3 x4 → va_P G vwCl (mW K m0 gm h1 g1 h2 g2 S) H → va_D A (mW K m0 gm h1 g1 h2 g2 S) → va_S A s.heap H locs → lv_has ls 5 [(0, .ref m0), (1, .int x1), (2, .int x2), (3, .int x3), (4, .int x4)] → W p l e ({ frames := 6, cells := 0, slots := 0, locals := 156 } : Room) s m #[Value.ref m0, Value.int a1, Value.int a2, Value.int a3, Value.int a4] below meth c H locs 0 0 Q (F0 m 0 ls []) := by
    intro S x1 x2 x3 x4 H locs ls hE hp hP hD hS hl
    unfold f_X12_word at hE
    unfold p_X12_word at hp
    refine lv_aload_n hx hb dX12_word_0 rfl (lv_at hl 0 rfl) ?_
    refine va_get (D := G) (ci := 9) (v := .ref h1) (C := RX12) (T := TX12) (N := 7) hx hb hts iX12 hown hK hP 0 rfl rfl 0 (by decide) (hw (.fieldLink RX12 16 "MotionFloorModel" "hall" "LMotionFloorModel$Hall;") (List.mem_of_getElem? (i := 0) rfl)) (fun _ h9 => h9) rfl dX12_word_1 ?_
    refine lv_bipush (v := 12) hx hb dX12_word_4 (by decide) ?_
    refine lv_iload_n hx hb dX12_word_6 rfl (lv_at hl 1 rfl) ?_
    refine lv_iload_n hx hb dX12_word_7 rfl (lv_at hl 2 rfl) ?_
    refine lv_iload_n hx hb dX12_word_8 rfl (lv_at hl 3 rfl) ?_
    refine lv_iload hx hb dX12_word_9 (lv_at hl 4 rfl) ?_
    obtain ⟨hy1, hp⟩ := hp
    refine mGoi_h (va_runV (As := [.int 12, .int x1, .int x2, .int x3, .int x4]) (rest := []) ⟨hx, hb, hml, hown, hts⟩ (c_X11_act l G K h1 g1 S.2.1 12 x1 x2 x3 x4 _) (cwV 5 hts (wGV t_ (mw (.methodLink RX12 40 yX11_act) (List.mem_of_getElem? (i := 1) rfl)) (mw (.instanceMethod yX11_act) (List.mem_of_getElem? (i := 2) rfl)) (mw (.selects RX11 yX11_act yX11_act) (List.mem_of_getElem? (i := 3) rfl)) (mw (.initialized RX11) (List.mem_of_getElem? (i := 4) rfl)) j_X11_act) rfl rfl rfl (by decide +kernel) ⟨Nat.le_of_ble_eq_true rfl, Nat.le_of_ble_eq_true rfl⟩) (hPV hK hTE (mP_h hP) (mD_h hD) hy1) rfl rfl hl.1 rfl (lv_room (Nat.le_of_ble_eq_true rfl)) dX12_word_11 ⟨Nat.le_of_ble_eq_true rfl, Nat.le_of_ble_eq_true rfl⟩) hP hD hS hA (fun r3 u2 H locs hv hP hD hS => ?_)
    rw [← hv] at hE hp
    dsimp only at hE hp
    unfold b_X12_word_a14 at hE
    unfold q_X12_word_a14 at hp
    subst hQ
    exact W.iret (v := r3) hx hb hr (fun t ht hW => ⟨⟨r3, (mH S u2), rfl, hE.trans hX.symm, by rw [ht]; exact hP, hD⟩, hS.F ht⟩) hS.2.2 dX12_word_14
  exact B_M S0 a1 a2 a3 a4 _ _ _ hX hp hP hD hS hl
theorem gdX12_lay_0 : ckS (List.drop 0 cX12_lay.data.toList) 0 [(0, .aload_n 0, 1), (1, .getfield 16, 3), (4, .bipush 13, 2), (6, .iload_n 1, 1), (7, .iconst 0, 1), (8, .iconst 0, 1), (9, .iconst 0, 1), (10, .invokevirtual 40, 3), (13, .ireturn, 1)] = true := by decide +kernel
theorem dX12_lay_0 : decode cX12_lay 0 = .ok (.aload_n 0, 1) := ckS_g gdX12_lay_0 0 rfl
theorem dX12_lay_1 : decode cX12_lay 1 = .ok (.getfield 16, 3) := ckS_g gdX12_lay_0 1 rfl
theorem dX12_lay_4 : decode cX12_lay 4 = .ok (.bipush 13, 2) := ckS_g gdX12_lay_0 2 rfl
theorem dX12_lay_6 : decode cX12_lay 6 = .ok (.iload_n 1, 1) := ckS_g gdX12_lay_0 3 rfl
theorem dX12_lay_7 : decode cX12_lay 7 = .ok (.iconst 0, 1) := ckS_g gdX12_lay_0 4 rfl
theorem dX12_lay_8 : decode cX12_lay 8 = .ok (.iconst 0, 1) := ckS_g gdX12_lay_0 5 rfl
theorem dX12_lay_9 : decode cX12_lay 9 = .ok (.iconst 0, 1) := ckS_g gdX12_lay_0 6 rfl
theorem dX12_lay_10 : decode cX12_lay 10 = .ok (.invokevirtual 40, 3) := ckS_g gdX12_lay_0 7 rfl
theorem dX12_lay_13 : decode cX12_lay 13 = .ok (.ireturn, 1) := ckS_g gdX12_lay_0 8 rfl
set_option maxRecDepth 100000 in
theorem z236 : wZ (.code yX12_lay cX12_lay 2 (some .int)) := ⟨wT6 (List.mem_of_getElem? (i := 163) rfl), Or.inl rfl⟩
def b_X12_lay_a13 (S : MS) (x1 y0 : Int32) : Int32 × MS := (y0, S)
def q_X12_lay_a13 (S : MS) (x1 y0 : Int32) : Prop := True
def f_X12_lay (S : MS) (x1 : Int32) : Int32 × MS := (b_X12_lay_a13 (mH S ((f_X11_act S.2.1 13 x1 0 0 0).2)) x1 (f_X11_act S.2.1 13 x1 0 0 0).1)
def p_X12_lay (S : MS) (x1 : Int32) : Prop := (p_X11_act S.2.1 13 x1 0 0 0) ∧ (q_X12_lay_a13 (mH S ((f_X11_act S.2.1 13 x1 0 0 0).2)) x1 (f_X11_act S.2.1 13 x1 0 0 0).1)
def e_X12_lay : List Cond := [.fieldLink RX12 16 "MotionFloorModel" "hall" "LMotionFloorModel$Hall;", .methodLink RX12 40 yX11_act, .instanceMethod yX11_act, .selects RX11 yX11_act yX11_act, .initialized RX11]
def v_X12_lay : List Cond := .code yX12_lay cX12_lay 2 (some .int) :: (e_X12_lay ++ (wsX120 ++ (v_X11_act ++ [])))
theorem te_X12_lay : GoodIn lw_tbl e_X12_lay := wGc z219 (wGc z223 (wGc z222 (wGc z221 (wGc z51 (wG0)))))
theorem t_X12_lay : GoodIn lw_tbl v_X12_lay := wGc z236 (wGa te_X12_lay (wGa zcX12 (wGa t_X11_act (wG0))))
set_option maxHeartbeats 4000000 in
set_option maxRecDepth 100000 in
theorem c_X12_lay (l : Launch) (G : va_G) (K : Nat → ClassId) (m0 : Nat) (gm : Nat → Nat) (h1 : Nat) (g1 : Nat → Nat) (h2 : Nat) (g2 : Nat → Nat) (S0 : MS) (a1 : Int32) (sz : Nat) : Met l yX12_lay v_X12_lay ({ frames := 6, cells := 0, slots := 0, locals := 156 }) (va_Pc [.ref m0, .int a1] (mSt G K m0 gm h1 g1 h2 g2 sz S0 (p_X12_lay S0 a1))) (va_Qi (fun (r : Int32) (u : MS) => (r, u) = f_X12_lay S0 a1) (mB G K m0 gm h1 g1 h2 g2 (va_A (mW K m0 gm h1 g1 h2 g2 S0) sz)) (va_A (mW K m0 gm h1 g1 h2 g2 S0) sz)) 0 0 (va_A (mW K m0 gm h1 g1 h2 g2 S0) sz) := by
  refine Met.ofW (cc := cX12_lay) (maxL := 2) (ret := (some .int)) (by decide) rfl ?_
  intro p e s m args below meth c s₁ B hml hv
  obtain ⟨rfl, ⟨hsz, hP, hK, hD0, hTE⟩, hp⟩ := hv
  have hx := B.exec
  have hb := B.bytes
  have hr := B.returns
  have hts := atoms_spec (ws := v_X12_lay) B.pre
  have t_ := t_X12_lay
  have mw : ∀ w ∈ e_X12_lay, w ∈ v_X12_lay := fun w h => List.mem_cons_of_mem _ (List.mem_append_left _ h)
  have hw := fun w (h : w ∈ e_X12_lay) => hts w (mw w h)
  have iX12 : ∀ w ∈ wsX120, w ∈ v_X12_lay := fun w h => List.mem_cons_of_mem _ (List.mem_append_right _ (List.mem_append_left _ h))
  have j_X11_act : ∀ w ∈ v_X11_act, w ∈ v_X12_lay := fun w h => List.mem_cons_of_mem _ (List.mem_append_right _ (List.mem_append_right _ (List.mem_append_left _ h)))
  have hown : s.vm.findClass RX12 = some m.cls := findClass_of_methodNamed B.named
  have hlocks := B.notSynchronized
  subst hsz
  have hD := hD0.self (sz := s.heap.size)
  generalize hAe : va_A (mW K m0 gm h1 g1 h2 g2 S0) s.heap.size = A at hD ⊢
  have hA : ∀ q : Nat, s.heap.size ≤ q → A q := fun q h => by rw [← hAe]; exact Or.inr h
  have hS : va_S A s.heap s.heap [] := va_S.rf
  have hl := lv_entry ([.ref m0, .int a1]) (n := 2) (Nat.le_of_ble_eq_true rfl)
  rw [lg_entry_eq]
  generalize (lg_sl ([.ref m0, .int a1]) ++ List.replicate (2 - (lg_sl ([.ref m0, .int a1])).length) Slot.unset).toArray = ls at hl ⊢
  have hl : lv_has ls 2 [(0, .ref m0), (1, .int a1)] := hl
  refine wGen (fun Q hQ => ?_)
  obtain ⟨X, hX⟩ : ∃ X, f_X12_lay S0 a1 = X := ⟨_, rfl⟩
  have B_M : ∀ (S : MS) (x1 : Int32) (H : Heap) (locs : List Loc) (ls : Array Slot), f_X12_lay S x1 = X → p_X12_lay S x1 → va_P G vwCl (mW K m0 gm h1 g1 h2 g2 S) H → va_D A (mW K m0 gm h1 g1 h2 g2 S) → va_S A s.heap H locs → lv_has ls 2 [(0, .ref m0), (1, .int x1)] → W p l e ({ frames := 6, cells := 0, slots := 0, locals := 156 } : Room) s m #[Value.ref m0, Value.int a1] below meth c H locs 0 0 Q (F0 m 0 ls []) := by
    intro S x1 H locs ls hE hp hP hD hS hl
    unfold f_X12_lay at hE
    unfold p_X12_lay at hp
    refine lv_aload_n hx hb dX12_lay_0 rfl (lv_at hl 0 rfl) ?_
    refine va_get (D := G) (ci := 9) (v := .ref h1) (C := RX12) (T := TX12) (N := 7) hx hb hts iX12 hown hK hP 0 rfl rfl 0 (by decide) (hw (.fieldLink RX12 16 "MotionFloorModel" "hall" "LMotionFloorModel$Hall;") (List.mem_of_getElem? (i := 0) rfl)) (fun _ h9 => h9) rfl dX12_lay_1 ?_
    refine lv_bipush (v := 13) hx hb dX12_lay_4 (by decide) ?_
    refine lv_iload_n hx hb dX12_lay_6 rfl (lv_at hl 1 rfl) ?_
    refine lv_iconst (v := 0) hx hb dX12_lay_7 (by decide) ?_
    refine lv_iconst (v := 0) hx hb dX12_lay_8 (by decide) ?_
    refine lv_iconst (v := 0) hx hb dX12_lay_9 (by decide) ?_
    obtain ⟨hy1, hp⟩ := hp
    refine mGoi_h (va_runV (As := [.int 13, .int x1, .int 0, .int 0, .int 0]) (rest := []) ⟨hx, hb, hml, hown, hts⟩ (c_X11_act l G K h1 g1 S.2.1 13 x1 0 0 0 _) (cwV 5 hts (wGV t_ (mw (.methodLink RX12 40 yX11_act) (List.mem_of_getElem? (i := 1) rfl)) (mw (.instanceMethod yX11_act) (List.mem_of_getElem? (i := 2) rfl)) (mw (.selects RX11 yX11_act yX11_act) (List.mem_of_getElem? (i := 3) rfl)) (mw (.initialized RX11) (List.mem_of_getElem? (i := 4) rfl)) j_X11_act) rfl rfl rfl (by decide +kernel) ⟨Nat.le_of_ble_eq_true rfl, Nat.le_of_ble_eq_true rfl⟩) (hPV hK hTE (mP_h hP) (mD_h hD) hy1) rfl rfl hl.1 rfl (lv_room (Nat.le_of_ble_eq_true rfl)) dX12_lay_10 ⟨Nat.le_of_ble_eq_true rfl, Nat.le_of_ble_eq_true rfl⟩) hP hD hS hA (fun r3 u2 H locs hv hP hD hS => ?_)
    rw [← hv] at hE hp
    dsimp only at hE hp
    unfold b_X12_lay_a13 at hE
    unfold q_X12_lay_a13 at hp
    subst hQ
    exact W.iret (v := r3) hx hb hr (fun t ht hW => ⟨⟨r3, (mH S u2), rfl, hE.trans hX.symm, by rw [ht]; exact hP, hD⟩, hS.F ht⟩) hS.2.2 dX12_lay_13
  exact B_M S0 a1 _ _ _ hX hp hP hD hS hl
theorem gdX12_take_0 : ckS (List.drop 0 cX12_take.data.toList) 0 [(0, .aload_n 0, 1), (1, .getfield 16, 3), (4, .bipush 14, 2), (6, .iload_n 1, 1), (7, .iconst 0, 1), (8, .iconst 0, 1), (9, .iconst 0, 1), (10, .invokevirtual 40, 3), (13, .ireturn, 1)] = true := by decide +kernel
theorem dX12_take_0 : decode cX12_take 0 = .ok (.aload_n 0, 1) := ckS_g gdX12_take_0 0 rfl
theorem dX12_take_1 : decode cX12_take 1 = .ok (.getfield 16, 3) := ckS_g gdX12_take_0 1 rfl
theorem dX12_take_4 : decode cX12_take 4 = .ok (.bipush 14, 2) := ckS_g gdX12_take_0 2 rfl
theorem dX12_take_6 : decode cX12_take 6 = .ok (.iload_n 1, 1) := ckS_g gdX12_take_0 3 rfl
theorem dX12_take_7 : decode cX12_take 7 = .ok (.iconst 0, 1) := ckS_g gdX12_take_0 4 rfl
theorem dX12_take_8 : decode cX12_take 8 = .ok (.iconst 0, 1) := ckS_g gdX12_take_0 5 rfl
theorem dX12_take_9 : decode cX12_take 9 = .ok (.iconst 0, 1) := ckS_g gdX12_take_0 6 rfl
theorem dX12_take_10 : decode cX12_take 10 = .ok (.invokevirtual 40, 3) := ckS_g gdX12_take_0 7 rfl
theorem dX12_take_13 : decode cX12_take 13 = .ok (.ireturn, 1) := ckS_g gdX12_take_0 8 rfl
set_option maxRecDepth 100000 in
theorem z237 : wZ (.code yX12_take cX12_take 2 (some .int)) := ⟨wT6 (List.mem_of_getElem? (i := 167) rfl), Or.inl rfl⟩
def b_X12_take_a13 (S : MS) (x1 y0 : Int32) : Int32 × MS := (y0, S)
def q_X12_take_a13 (S : MS) (x1 y0 : Int32) : Prop := True
def f_X12_take (S : MS) (x1 : Int32) : Int32 × MS := (b_X12_take_a13 (mH S ((f_X11_act S.2.1 14 x1 0 0 0).2)) x1 (f_X11_act S.2.1 14 x1 0 0 0).1)
def p_X12_take (S : MS) (x1 : Int32) : Prop := (p_X11_act S.2.1 14 x1 0 0 0) ∧ (q_X12_take_a13 (mH S ((f_X11_act S.2.1 14 x1 0 0 0).2)) x1 (f_X11_act S.2.1 14 x1 0 0 0).1)
def e_X12_take : List Cond := [.fieldLink RX12 16 "MotionFloorModel" "hall" "LMotionFloorModel$Hall;", .methodLink RX12 40 yX11_act, .instanceMethod yX11_act, .selects RX11 yX11_act yX11_act, .initialized RX11]
def v_X12_take : List Cond := .code yX12_take cX12_take 2 (some .int) :: (e_X12_take ++ (wsX120 ++ (v_X11_act ++ [])))
theorem te_X12_take : GoodIn lw_tbl e_X12_take := wGc z219 (wGc z223 (wGc z222 (wGc z221 (wGc z51 (wG0)))))
theorem t_X12_take : GoodIn lw_tbl v_X12_take := wGc z237 (wGa te_X12_take (wGa zcX12 (wGa t_X11_act (wG0))))
set_option maxHeartbeats 4000000 in
set_option maxRecDepth 100000 in
theorem c_X12_take (l : Launch) (G : va_G) (K : Nat → ClassId) (m0 : Nat) (gm : Nat → Nat) (h1 : Nat) (g1 : Nat → Nat) (h2 : Nat) (g2 : Nat → Nat) (S0 : MS) (a1 : Int32) (sz : Nat) : Met l yX12_take v_X12_take ({ frames := 6, cells := 0, slots := 0, locals := 156 }) (va_Pc [.ref m0, .int a1] (mSt G K m0 gm h1 g1 h2 g2 sz S0 (p_X12_take S0 a1))) (va_Qi (fun (r : Int32) (u : MS) => (r, u) = f_X12_take S0 a1) (mB G K m0 gm h1 g1 h2 g2 (va_A (mW K m0 gm h1 g1 h2 g2 S0) sz)) (va_A (mW K m0 gm h1 g1 h2 g2 S0) sz)) 0 0 (va_A (mW K m0 gm h1 g1 h2 g2 S0) sz) := by
  refine Met.ofW (cc := cX12_take) (maxL := 2) (ret := (some .int)) (by decide) rfl ?_
  intro p e s m args below meth c s₁ B hml hv
  obtain ⟨rfl, ⟨hsz, hP, hK, hD0, hTE⟩, hp⟩ := hv
  have hx := B.exec
  have hb := B.bytes
  have hr := B.returns
  have hts := atoms_spec (ws := v_X12_take) B.pre
  have t_ := t_X12_take
  have mw : ∀ w ∈ e_X12_take, w ∈ v_X12_take := fun w h => List.mem_cons_of_mem _ (List.mem_append_left _ h)
  have hw := fun w (h : w ∈ e_X12_take) => hts w (mw w h)
  have iX12 : ∀ w ∈ wsX120, w ∈ v_X12_take := fun w h => List.mem_cons_of_mem _ (List.mem_append_right _ (List.mem_append_left _ h))
  have j_X11_act : ∀ w ∈ v_X11_act, w ∈ v_X12_take := fun w h => List.mem_cons_of_mem _ (List.mem_append_right _ (List.mem_append_right _ (List.mem_append_left _ h)))
  have hown : s.vm.findClass RX12 = some m.cls := findClass_of_methodNamed B.named
  have hlocks := B.notSynchronized
  subst hsz
  have hD := hD0.self (sz := s.heap.size)
  generalize hAe : va_A (mW K m0 gm h1 g1 h2 g2 S0) s.heap.size = A at hD ⊢
  have hA : ∀ q : Nat, s.heap.size ≤ q → A q := fun q h => by rw [← hAe]; exact Or.inr h
  have hS : va_S A s.heap s.heap [] := va_S.rf
  have hl := lv_entry ([.ref m0, .int a1]) (n := 2) (Nat.le_of_ble_eq_true rfl)
  rw [lg_entry_eq]
  generalize (lg_sl ([.ref m0, .int a1]) ++ List.replicate (2 - (lg_sl ([.ref m0, .int a1])).length) Slot.unset).toArray = ls at hl ⊢
  have hl : lv_has ls 2 [(0, .ref m0), (1, .int a1)] := hl
  refine wGen (fun Q hQ => ?_)
  obtain ⟨X, hX⟩ : ∃ X, f_X12_take S0 a1 = X := ⟨_, rfl⟩
  have B_M : ∀ (S : MS) (x1 : Int32) (H : Heap) (locs : List Loc) (ls : Array Slot), f_X12_take S x1 = X → p_X12_take S x1 → va_P G vwCl (mW K m0 gm h1 g1 h2 g2 S) H → va_D A (mW K m0 gm h1 g1 h2 g2 S) → va_S A s.heap H locs → lv_has ls 2 [(0, .ref m0), (1, .int x1)] → W p l e ({ frames := 6, cells := 0, slots := 0, locals := 156 } : Room) s m #[Value.ref m0, Value.int a1] below meth c H locs 0 0 Q (F0 m 0 ls []) := by
    intro S x1 H locs ls hE hp hP hD hS hl
    unfold f_X12_take at hE
    unfold p_X12_take at hp
    refine lv_aload_n hx hb dX12_take_0 rfl (lv_at hl 0 rfl) ?_
    refine va_get (D := G) (ci := 9) (v := .ref h1) (C := RX12) (T := TX12) (N := 7) hx hb hts iX12 hown hK hP 0 rfl rfl 0 (by decide) (hw (.fieldLink RX12 16 "MotionFloorModel" "hall" "LMotionFloorModel$Hall;") (List.mem_of_getElem? (i := 0) rfl)) (fun _ h9 => h9) rfl dX12_take_1 ?_
    refine lv_bipush (v := 14) hx hb dX12_take_4 (by decide) ?_
    refine lv_iload_n hx hb dX12_take_6 rfl (lv_at hl 1 rfl) ?_
    refine lv_iconst (v := 0) hx hb dX12_take_7 (by decide) ?_
    refine lv_iconst (v := 0) hx hb dX12_take_8 (by decide) ?_
    refine lv_iconst (v := 0) hx hb dX12_take_9 (by decide) ?_
    obtain ⟨hy1, hp⟩ := hp
    refine mGoi_h (va_runV (As := [.int 14, .int x1, .int 0, .int 0, .int 0]) (rest := []) ⟨hx, hb, hml, hown, hts⟩ (c_X11_act l G K h1 g1 S.2.1 14 x1 0 0 0 _) (cwV 5 hts (wGV t_ (mw (.methodLink RX12 40 yX11_act) (List.mem_of_getElem? (i := 1) rfl)) (mw (.instanceMethod yX11_act) (List.mem_of_getElem? (i := 2) rfl)) (mw (.selects RX11 yX11_act yX11_act) (List.mem_of_getElem? (i := 3) rfl)) (mw (.initialized RX11) (List.mem_of_getElem? (i := 4) rfl)) j_X11_act) rfl rfl rfl (by decide +kernel) ⟨Nat.le_of_ble_eq_true rfl, Nat.le_of_ble_eq_true rfl⟩) (hPV hK hTE (mP_h hP) (mD_h hD) hy1) rfl rfl hl.1 rfl (lv_room (Nat.le_of_ble_eq_true rfl)) dX12_take_10 ⟨Nat.le_of_ble_eq_true rfl, Nat.le_of_ble_eq_true rfl⟩) hP hD hS hA (fun r3 u2 H locs hv hP hD hS => ?_)
    rw [← hv] at hE hp
    dsimp only at hE hp
    unfold b_X12_take_a13 at hE
    unfold q_X12_take_a13 at hp
    subst hQ
    exact W.iret (v := r3) hx hb hr (fun t ht hW => ⟨⟨r3, (mH S u2), rfl, hE.trans hX.symm, by rw [ht]; exact hP, hD⟩, hS.F ht⟩) hS.2.2 dX12_take_13
  exact B_M S0 a1 _ _ _ hX hp hP hD hS hl
theorem gdX12_move_0 : ckS (List.drop 0 cX12_move.data.toList) 0 [(0, .aload_n 0, 1), (1, .getfield 16, 3), (4, .bipush 15, 2), (6, .iload_n 1, 1), (7, .iconst 0, 1), (8, .iconst 0, 1), (9, .iconst 0, 1), (10, .invokevirtual 40, 3), (13, .ireturn, 1)] = true := by decide +kernel
theorem dX12_move_0 : decode cX12_move 0 = .ok (.aload_n 0, 1) := ckS_g gdX12_move_0 0 rfl
theorem dX12_move_1 : decode cX12_move 1 = .ok (.getfield 16, 3) := ckS_g gdX12_move_0 1 rfl
theorem dX12_move_4 : decode cX12_move 4 = .ok (.bipush 15, 2) := ckS_g gdX12_move_0 2 rfl
theorem dX12_move_6 : decode cX12_move 6 = .ok (.iload_n 1, 1) := ckS_g gdX12_move_0 3 rfl
theorem dX12_move_7 : decode cX12_move 7 = .ok (.iconst 0, 1) := ckS_g gdX12_move_0 4 rfl
theorem dX12_move_8 : decode cX12_move 8 = .ok (.iconst 0, 1) := ckS_g gdX12_move_0 5 rfl
theorem dX12_move_9 : decode cX12_move 9 = .ok (.iconst 0, 1) := ckS_g gdX12_move_0 6 rfl
theorem dX12_move_10 : decode cX12_move 10 = .ok (.invokevirtual 40, 3) := ckS_g gdX12_move_0 7 rfl
theorem dX12_move_13 : decode cX12_move 13 = .ok (.ireturn, 1) := ckS_g gdX12_move_0 8 rfl
set_option maxRecDepth 100000 in
theorem z238 : wZ (.code yX12_move cX12_move 2 (some .int)) := ⟨wT6 (List.mem_of_getElem? (i := 171) rfl), Or.inl rfl⟩
def b_X12_move_a13 (S : MS) (x1 y0 : Int32) : Int32 × MS := (y0, S)
def q_X12_move_a13 (S : MS) (x1 y0 : Int32) : Prop := True
def f_X12_move (S : MS) (x1 : Int32) : Int32 × MS := (b_X12_move_a13 (mH S ((f_X11_act S.2.1 15 x1 0 0 0).2)) x1 (f_X11_act S.2.1 15 x1 0 0 0).1)
def p_X12_move (S : MS) (x1 : Int32) : Prop := (p_X11_act S.2.1 15 x1 0 0 0) ∧ (q_X12_move_a13 (mH S ((f_X11_act S.2.1 15 x1 0 0 0).2)) x1 (f_X11_act S.2.1 15 x1 0 0 0).1)
def e_X12_move : List Cond := [.fieldLink RX12 16 "MotionFloorModel" "hall" "LMotionFloorModel$Hall;", .methodLink RX12 40 yX11_act, .instanceMethod yX11_act, .selects RX11 yX11_act yX11_act, .initialized RX11]
def v_X12_move : List Cond := .code yX12_move cX12_move 2 (some .int) :: (e_X12_move ++ (wsX120 ++ (v_X11_act ++ [])))
theorem te_X12_move : GoodIn lw_tbl e_X12_move := wGc z219 (wGc z223 (wGc z222 (wGc z221 (wGc z51 (wG0)))))
theorem t_X12_move : GoodIn lw_tbl v_X12_move := wGc z238 (wGa te_X12_move (wGa zcX12 (wGa t_X11_act (wG0))))
set_option maxHeartbeats 4000000 in
set_option maxRecDepth 100000 in
theorem c_X12_move (l : Launch) (G : va_G) (K : Nat → ClassId) (m0 : Nat) (gm : Nat → Nat) (h1 : Nat) (g1 : Nat → Nat) (h2 : Nat) (g2 : Nat → Nat) (S0 : MS) (a1 : Int32) (sz : Nat) : Met l yX12_move v_X12_move ({ frames := 6, cells := 0, slots := 0, locals := 156 }) (va_Pc [.ref m0, .int a1] (mSt G K m0 gm h1 g1 h2 g2 sz S0 (p_X12_move S0 a1))) (va_Qi (fun (r : Int32) (u : MS) => (r, u) = f_X12_move S0 a1) (mB G K m0 gm h1 g1 h2 g2 (va_A (mW K m0 gm h1 g1 h2 g2 S0) sz)) (va_A (mW K m0 gm h1 g1 h2 g2 S0) sz)) 0 0 (va_A (mW K m0 gm h1 g1 h2 g2 S0) sz) := by
  refine Met.ofW (cc := cX12_move) (maxL := 2) (ret := (some .int)) (by decide) rfl ?_
  intro p e s m args below meth c s₁ B hml hv
  obtain ⟨rfl, ⟨hsz, hP, hK, hD0, hTE⟩, hp⟩ := hv
  have hx := B.exec
  have hb := B.bytes
  have hr := B.returns
  have hts := atoms_spec (ws := v_X12_move) B.pre
  have t_ := t_X12_move
  have mw : ∀ w ∈ e_X12_move, w ∈ v_X12_move := fun w h => List.mem_cons_of_mem _ (List.mem_append_left _ h)
  have hw := fun w (h : w ∈ e_X12_move) => hts w (mw w h)
  have iX12 : ∀ w ∈ wsX120, w ∈ v_X12_move := fun w h => List.mem_cons_of_mem _ (List.mem_append_right _ (List.mem_append_left _ h))
  have j_X11_act : ∀ w ∈ v_X11_act, w ∈ v_X12_move := fun w h => List.mem_cons_of_mem _ (List.mem_append_right _ (List.mem_append_right _ (List.mem_append_left _ h)))
  have hown : s.vm.findClass RX12 = some m.cls := findClass_of_methodNamed B.named
  have hlocks := B.notSynchronized
  subst hsz
  have hD := hD0.self (sz := s.heap.size)
  generalize hAe : va_A (mW K m0 gm h1 g1 h2 g2 S0) s.heap.size = A at hD ⊢
  have hA : ∀ q : Nat, s.heap.size ≤ q → A q := fun q h => by rw [← hAe]; exact Or.inr h
  have hS : va_S A s.heap s.heap [] := va_S.rf
  have hl := lv_entry ([.ref m0, .int a1]) (n := 2) (Nat.le_of_ble_eq_true rfl)
  rw [lg_entry_eq]
  generalize (lg_sl ([.ref m0, .int a1]) ++ List.replicate (2 - (lg_sl ([.ref m0, .int a1])).length) Slot.unset).toArray = ls at hl ⊢
  have hl : lv_has ls 2 [(0, .ref m0), (1, .int a1)] := hl
  refine wGen (fun Q hQ => ?_)
  obtain ⟨X, hX⟩ : ∃ X, f_X12_move S0 a1 = X := ⟨_, rfl⟩
  have B_M : ∀ (S : MS) (x1 : Int32) (H : Heap) (locs : List Loc) (ls : Array Slot), f_X12_move S x1 = X → p_X12_move S x1 → va_P G vwCl (mW K m0 gm h1 g1 h2 g2 S) H → va_D A (mW K m0 gm h1 g1 h2 g2 S) → va_S A s.heap H locs → lv_has ls 2 [(0, .ref m0), (1, .int x1)] → W p l e ({ frames := 6, cells := 0, slots := 0, locals := 156 } : Room) s m #[Value.ref m0, Value.int a1] below meth c H locs 0 0 Q (F0 m 0 ls []) := by
    intro S x1 H locs ls hE hp hP hD hS hl
    unfold f_X12_move at hE
    unfold p_X12_move at hp
    refine lv_aload_n hx hb dX12_move_0 rfl (lv_at hl 0 rfl) ?_
    refine va_get (D := G) (ci := 9) (v := .ref h1) (C := RX12) (T := TX12) (N := 7) hx hb hts iX12 hown hK hP 0 rfl rfl 0 (by decide) (hw (.fieldLink RX12 16 "MotionFloorModel" "hall" "LMotionFloorModel$Hall;") (List.mem_of_getElem? (i := 0) rfl)) (fun _ h9 => h9) rfl dX12_move_1 ?_
    refine lv_bipush (v := 15) hx hb dX12_move_4 (by decide) ?_
    refine lv_iload_n hx hb dX12_move_6 rfl (lv_at hl 1 rfl) ?_
    refine lv_iconst (v := 0) hx hb dX12_move_7 (by decide) ?_
    refine lv_iconst (v := 0) hx hb dX12_move_8 (by decide) ?_
    refine lv_iconst (v := 0) hx hb dX12_move_9 (by decide) ?_
    obtain ⟨hy1, hp⟩ := hp
    refine mGoi_h (va_runV (As := [.int 15, .int x1, .int 0, .int 0, .int 0]) (rest := []) ⟨hx, hb, hml, hown, hts⟩ (c_X11_act l G K h1 g1 S.2.1 15 x1 0 0 0 _) (cwV 5 hts (wGV t_ (mw (.methodLink RX12 40 yX11_act) (List.mem_of_getElem? (i := 1) rfl)) (mw (.instanceMethod yX11_act) (List.mem_of_getElem? (i := 2) rfl)) (mw (.selects RX11 yX11_act yX11_act) (List.mem_of_getElem? (i := 3) rfl)) (mw (.initialized RX11) (List.mem_of_getElem? (i := 4) rfl)) j_X11_act) rfl rfl rfl (by decide +kernel) ⟨Nat.le_of_ble_eq_true rfl, Nat.le_of_ble_eq_true rfl⟩) (hPV hK hTE (mP_h hP) (mD_h hD) hy1) rfl rfl hl.1 rfl (lv_room (Nat.le_of_ble_eq_true rfl)) dX12_move_10 ⟨Nat.le_of_ble_eq_true rfl, Nat.le_of_ble_eq_true rfl⟩) hP hD hS hA (fun r3 u2 H locs hv hP hD hS => ?_)
    rw [← hv] at hE hp
    dsimp only at hE hp
    unfold b_X12_move_a13 at hE
    unfold q_X12_move_a13 at hp
    subst hQ
    exact W.iret (v := r3) hx hb hr (fun t ht hW => ⟨⟨r3, (mH S u2), rfl, hE.trans hX.symm, by rw [ht]; exact hP, hD⟩, hS.F ht⟩) hS.2.2 dX12_move_13
  exact B_M S0 a1 _ _ _ hX hp hP hD hS hl
theorem gdX12_second_0 : ckS (List.drop 0 cX12_second.data.toList) 0 [(0, .aload_n 0, 1), (1, .getfield 16, 3), (4, .bipush 16, 2), (6, .iload_n 1, 1), (7, .iconst 0, 1), (8, .iconst 0, 1), (9, .iconst 0, 1), (10, .invokevirtual 40, 3), (13, .ireturn, 1)] = true := by decide +kernel
theorem dX12_second_0 : decode cX12_second 0 = .ok (.aload_n 0, 1) := ckS_g gdX12_second_0 0 rfl
theorem dX12_second_1 : decode cX12_second 1 = .ok (.getfield 16, 3) := ckS_g gdX12_second_0 1 rfl
theorem dX12_second_4 : decode cX12_second 4 = .ok (.bipush 16, 2) := ckS_g gdX12_second_0 2 rfl
theorem dX12_second_6 : decode cX12_second 6 = .ok (.iload_n 1, 1) := ckS_g gdX12_second_0 3 rfl
theorem dX12_second_7 : decode cX12_second 7 = .ok (.iconst 0, 1) := ckS_g gdX12_second_0 4 rfl
theorem dX12_second_8 : decode cX12_second 8 = .ok (.iconst 0, 1) := ckS_g gdX12_second_0 5 rfl
theorem dX12_second_9 : decode cX12_second 9 = .ok (.iconst 0, 1) := ckS_g gdX12_second_0 6 rfl
theorem dX12_second_10 : decode cX12_second 10 = .ok (.invokevirtual 40, 3) := ckS_g gdX12_second_0 7 rfl
theorem dX12_second_13 : decode cX12_second 13 = .ok (.ireturn, 1) := ckS_g gdX12_second_0 8 rfl
set_option maxRecDepth 100000 in
theorem z239 : wZ (.code yX12_second cX12_second 2 (some .int)) := ⟨wT6 (List.mem_of_getElem? (i := 175) rfl), Or.inl rfl⟩
def b_X12_second_a13 (S : MS) (x1 y0 : Int32) : Int32 × MS := (y0, S)
def q_X12_second_a13 (S : MS) (x1 y0 : Int32) : Prop := True
def f_X12_second (S : MS) (x1 : Int32) : Int32 × MS := (b_X12_second_a13 (mH S ((f_X11_act S.2.1 16 x1 0 0 0).2)) x1 (f_X11_act S.2.1 16 x1 0 0 0).1)
def p_X12_second (S : MS) (x1 : Int32) : Prop := (p_X11_act S.2.1 16 x1 0 0 0) ∧ (q_X12_second_a13 (mH S ((f_X11_act S.2.1 16 x1 0 0 0).2)) x1 (f_X11_act S.2.1 16 x1 0 0 0).1)
def e_X12_second : List Cond := [.fieldLink RX12 16 "MotionFloorModel" "hall" "LMotionFloorModel$Hall;", .methodLink RX12 40 yX11_act, .instanceMethod yX11_act, .selects RX11 yX11_act yX11_act, .initialized RX11]
def v_X12_second : List Cond := .code yX12_second cX12_second 2 (some .int) :: (e_X12_second ++ (wsX120 ++ (v_X11_act ++ [])))
theorem te_X12_second : GoodIn lw_tbl e_X12_second := wGc z219 (wGc z223 (wGc z222 (wGc z221 (wGc z51 (wG0)))))
theorem t_X12_second : GoodIn lw_tbl v_X12_second := wGc z239 (wGa te_X12_second (wGa zcX12 (wGa t_X11_act (wG0))))
set_option maxHeartbeats 4000000 in
set_option maxRecDepth 100000 in
theorem c_X12_second (l : Launch) (G : va_G) (K : Nat → ClassId) (m0 : Nat) (gm : Nat → Nat) (h1 : Nat) (g1 : Nat → Nat) (h2 : Nat) (g2 : Nat → Nat) (S0 : MS) (a1 : Int32) (sz : Nat) : Met l yX12_second v_X12_second ({ frames := 6, cells := 0, slots := 0, locals := 156 }) (va_Pc [.ref m0, .int a1] (mSt G K m0 gm h1 g1 h2 g2 sz S0 (p_X12_second S0 a1))) (va_Qi (fun (r : Int32) (u : MS) => (r, u) = f_X12_second S0 a1) (mB G K m0 gm h1 g1 h2 g2 (va_A (mW K m0 gm h1 g1 h2 g2 S0) sz)) (va_A (mW K m0 gm h1 g1 h2 g2 S0) sz)) 0 0 (va_A (mW K m0 gm h1 g1 h2 g2 S0) sz) := by
  refine Met.ofW (cc := cX12_second) (maxL := 2) (ret := (some .int)) (by decide) rfl ?_
  intro p e s m args below meth c s₁ B hml hv
  obtain ⟨rfl, ⟨hsz, hP, hK, hD0, hTE⟩, hp⟩ := hv
  have hx := B.exec
  have hb := B.bytes
  have hr := B.returns
  have hts := atoms_spec (ws := v_X12_second) B.pre
  have t_ := t_X12_second
  have mw : ∀ w ∈ e_X12_second, w ∈ v_X12_second := fun w h => List.mem_cons_of_mem _ (List.mem_append_left _ h)
  have hw := fun w (h : w ∈ e_X12_second) => hts w (mw w h)
  have iX12 : ∀ w ∈ wsX120, w ∈ v_X12_second := fun w h => List.mem_cons_of_mem _ (List.mem_append_right _ (List.mem_append_left _ h))
  have j_X11_act : ∀ w ∈ v_X11_act, w ∈ v_X12_second := fun w h => List.mem_cons_of_mem _ (List.mem_append_right _ (List.mem_append_right _ (List.mem_append_left _ h)))
  have hown : s.vm.findClass RX12 = some m.cls := findClass_of_methodNamed B.named
  have hlocks := B.notSynchronized
  subst hsz
  have hD := hD0.self (sz := s.heap.size)
  generalize hAe : va_A (mW K m0 gm h1 g1 h2 g2 S0) s.heap.size = A at hD ⊢
  have hA : ∀ q : Nat, s.heap.size ≤ q → A q := fun q h => by rw [← hAe]; exact Or.inr h
  have hS : va_S A s.heap s.heap [] := va_S.rf
  have hl := lv_entry ([.ref m0, .int a1]) (n := 2) (Nat.le_of_ble_eq_true rfl)
  rw [lg_entry_eq]
  generalize (lg_sl ([.ref m0, .int a1]) ++ List.replicate (2 - (lg_sl ([.ref m0, .int a1])).length) Slot.unset).toArray = ls at hl ⊢
  have hl : lv_has ls 2 [(0, .ref m0), (1, .int a1)] := hl
  refine wGen (fun Q hQ => ?_)
  obtain ⟨X, hX⟩ : ∃ X, f_X12_second S0 a1 = X := ⟨_, rfl⟩
  have B_M : ∀ (S : MS) (x1 : Int32) (H : Heap) (locs : List Loc) (ls : Array Slot), f_X12_second S x1 = X → p_X12_second S x1 → va_P G vwCl (mW K m0 gm h1 g1 h2 g2 S) H → va_D A (mW K m0 gm h1 g1 h2 g2 S) → va_S A s.heap H locs → lv_has ls 2 [(0, .ref m0), (1, .int x1)] → W p l e ({ frames := 6, cells := 0, slots := 0, locals := 156 } : Room) s m #[Value.ref m0, Value.int a1] below meth c H locs 0 0 Q (F0 m 0 ls []) := by
    intro S x1 H locs ls hE hp hP hD hS hl
    unfold f_X12_second at hE
    unfold p_X12_second at hp
    refine lv_aload_n hx hb dX12_second_0 rfl (lv_at hl 0 rfl) ?_
    refine va_get (D := G) (ci := 9) (v := .ref h1) (C := RX12) (T := TX12) (N := 7) hx hb hts iX12 hown hK hP 0 rfl rfl 0 (by decide) (hw (.fieldLink RX12 16 "MotionFloorModel" "hall" "LMotionFloorModel$Hall;") (List.mem_of_getElem? (i := 0) rfl)) (fun _ h9 => h9) rfl dX12_second_1 ?_
    refine lv_bipush (v := 16) hx hb dX12_second_4 (by decide) ?_
    refine lv_iload_n hx hb dX12_second_6 rfl (lv_at hl 1 rfl) ?_
    refine lv_iconst (v := 0) hx hb dX12_second_7 (by decide) ?_
    refine lv_iconst (v := 0) hx hb dX12_second_8 (by decide) ?_
    refine lv_iconst (v := 0) hx hb dX12_second_9 (by decide) ?_
    obtain ⟨hy1, hp⟩ := hp
    refine mGoi_h (va_runV (As := [.int 16, .int x1, .int 0, .int 0, .int 0]) (rest := []) ⟨hx, hb, hml, hown, hts⟩ (c_X11_act l G K h1 g1 S.2.1 16 x1 0 0 0 _) (cwV 5 hts (wGV t_ (mw (.methodLink RX12 40 yX11_act) (List.mem_of_getElem? (i := 1) rfl)) (mw (.instanceMethod yX11_act) (List.mem_of_getElem? (i := 2) rfl)) (mw (.selects RX11 yX11_act yX11_act) (List.mem_of_getElem? (i := 3) rfl)) (mw (.initialized RX11) (List.mem_of_getElem? (i := 4) rfl)) j_X11_act) rfl rfl rfl (by decide +kernel) ⟨Nat.le_of_ble_eq_true rfl, Nat.le_of_ble_eq_true rfl⟩) (hPV hK hTE (mP_h hP) (mD_h hD) hy1) rfl rfl hl.1 rfl (lv_room (Nat.le_of_ble_eq_true rfl)) dX12_second_10 ⟨Nat.le_of_ble_eq_true rfl, Nat.le_of_ble_eq_true rfl⟩) hP hD hS hA (fun r3 u2 H locs hv hP hD hS => ?_)
    rw [← hv] at hE hp
    dsimp only at hE hp
    unfold b_X12_second_a13 at hE
    unfold q_X12_second_a13 at hp
    subst hQ
    exact W.iret (v := r3) hx hb hr (fun t ht hW => ⟨⟨r3, (mH S u2), rfl, hE.trans hX.symm, by rw [ht]; exact hP, hD⟩, hS.F ht⟩) hS.2.2 dX12_second_13
  exact B_M S0 a1 _ _ _ hX hp hP hD hS hl
theorem gdX12_vote_0 : ckS (List.drop 0 cX12_vote.data.toList) 0 [(0, .aload_n 0, 1), (1, .getfield 16, 3), (4, .bipush 17, 2), (6, .iload_n 1, 1), (7, .iload_n 2, 1), (8, .iconst 0, 1), (9, .iconst 0, 1), (10, .invokevirtual 40, 3), (13, .ireturn, 1)] = true := by decide +kernel
theorem dX12_vote_0 : decode cX12_vote 0 = .ok (.aload_n 0, 1) := ckS_g gdX12_vote_0 0 rfl
theorem dX12_vote_1 : decode cX12_vote 1 = .ok (.getfield 16, 3) := ckS_g gdX12_vote_0 1 rfl
theorem dX12_vote_4 : decode cX12_vote 4 = .ok (.bipush 17, 2) := ckS_g gdX12_vote_0 2 rfl
theorem dX12_vote_6 : decode cX12_vote 6 = .ok (.iload_n 1, 1) := ckS_g gdX12_vote_0 3 rfl
theorem dX12_vote_7 : decode cX12_vote 7 = .ok (.iload_n 2, 1) := ckS_g gdX12_vote_0 4 rfl
theorem dX12_vote_8 : decode cX12_vote 8 = .ok (.iconst 0, 1) := ckS_g gdX12_vote_0 5 rfl
theorem dX12_vote_9 : decode cX12_vote 9 = .ok (.iconst 0, 1) := ckS_g gdX12_vote_0 6 rfl
theorem dX12_vote_10 : decode cX12_vote 10 = .ok (.invokevirtual 40, 3) := ckS_g gdX12_vote_0 7 rfl
theorem dX12_vote_13 : decode cX12_vote 13 = .ok (.ireturn, 1) := ckS_g gdX12_vote_0 8 rfl
set_option maxRecDepth 100000 in
theorem z240 : wZ (.code yX12_vote cX12_vote 3 (some .int)) := ⟨wT6 (List.mem_of_getElem? (i := 179) rfl), Or.inl rfl⟩
def b_X12_vote_a13 (S : MS) (x1 x2 y0 : Int32) : Int32 × MS := (y0, S)
def q_X12_vote_a13 (S : MS) (x1 x2 y0 : Int32) : Prop := True
def f_X12_vote (S : MS) (x1 x2 : Int32) : Int32 × MS := (b_X12_vote_a13 (mH S ((f_X11_act S.2.1 17 x1 x2 0 0).2)) x1 x2 (f_X11_act S.2.1 17 x1 x2 0 0).1)
def p_X12_vote (S : MS) (x1 x2 : Int32) : Prop := (p_X11_act S.2.1 17 x1 x2 0 0) ∧ (q_X12_vote_a13 (mH S ((f_X11_act S.2.1 17 x1 x2 0 0).2)) x1 x2 (f_X11_act S.2.1 17 x1 x2 0 0).1)
def e_X12_vote : List Cond := [.fieldLink RX12 16 "MotionFloorModel" "hall" "LMotionFloorModel$Hall;", .methodLink RX12 40 yX11_act, .instanceMethod yX11_act, .selects RX11 yX11_act yX11_act, .initialized RX11]
def v_X12_vote : List Cond := .code yX12_vote cX12_vote 3 (some .int) :: (e_X12_vote ++ (wsX120 ++ (v_X11_act ++ [])))
theorem te_X12_vote : GoodIn lw_tbl e_X12_vote := wGc z219 (wGc z223 (wGc z222 (wGc z221 (wGc z51 (wG0)))))
theorem t_X12_vote : GoodIn lw_tbl v_X12_vote := wGc z240 (wGa te_X12_vote (wGa zcX12 (wGa t_X11_act (wG0))))
set_option maxHeartbeats 4000000 in
set_option maxRecDepth 100000 in
theorem c_X12_vote (l : Launch) (G : va_G) (K : Nat → ClassId) (m0 : Nat) (gm : Nat → Nat) (h1 : Nat) (g1 : Nat → Nat) (h2 : Nat) (g2 : Nat → Nat) (S0 : MS) (a1 a2 : Int32) (sz : Nat) : Met l yX12_vote v_X12_vote ({ frames := 6, cells := 0, slots := 0, locals := 156 }) (va_Pc [.ref m0, .int a1, .int a2] (mSt G K m0 gm h1 g1 h2 g2 sz S0 (p_X12_vote S0 a1 a2))) (va_Qi (fun (r : Int32) (u : MS) => (r, u) = f_X12_vote S0 a1 a2) (mB G K m0 gm h1 g1 h2 g2 (va_A (mW K m0 gm h1 g1 h2 g2 S0) sz)) (va_A (mW K m0 gm h1 g1 h2 g2 S0) sz)) 0 0 (va_A (mW K m0 gm h1 g1 h2 g2 S0) sz) := by
  refine Met.ofW (cc := cX12_vote) (maxL := 3) (ret := (some .int)) (by decide) rfl ?_
  intro p e s m args below meth c s₁ B hml hv
  obtain ⟨rfl, ⟨hsz, hP, hK, hD0, hTE⟩, hp⟩ := hv
  have hx := B.exec
  have hb := B.bytes
  have hr := B.returns
  have hts := atoms_spec (ws := v_X12_vote) B.pre
  have t_ := t_X12_vote
  have mw : ∀ w ∈ e_X12_vote, w ∈ v_X12_vote := fun w h => List.mem_cons_of_mem _ (List.mem_append_left _ h)
  have hw := fun w (h : w ∈ e_X12_vote) => hts w (mw w h)
  have iX12 : ∀ w ∈ wsX120, w ∈ v_X12_vote := fun w h => List.mem_cons_of_mem _ (List.mem_append_right _ (List.mem_append_left _ h))
  have j_X11_act : ∀ w ∈ v_X11_act, w ∈ v_X12_vote := fun w h => List.mem_cons_of_mem _ (List.mem_append_right _ (List.mem_append_right _ (List.mem_append_left _ h)))
  have hown : s.vm.findClass RX12 = some m.cls := findClass_of_methodNamed B.named
  have hlocks := B.notSynchronized
  subst hsz
  have hD := hD0.self (sz := s.heap.size)
  generalize hAe : va_A (mW K m0 gm h1 g1 h2 g2 S0) s.heap.size = A at hD ⊢
  have hA : ∀ q : Nat, s.heap.size ≤ q → A q := fun q h => by rw [← hAe]; exact Or.inr h
  have hS : va_S A s.heap s.heap [] := va_S.rf
  have hl := lv_entry ([.ref m0, .int a1, .int a2]) (n := 3) (Nat.le_of_ble_eq_true rfl)
  rw [lg_entry_eq]
  generalize (lg_sl ([.ref m0, .int a1, .int a2]) ++ List.replicate (3 - (lg_sl ([.ref m0, .int a1, .int a2])).length) Slot.unset).toArray = ls at hl ⊢
  have hl : lv_has ls 3 [(0, .ref m0), (1, .int a1), (2, .int a2)] := hl
  refine wGen (fun Q hQ => ?_)
  obtain ⟨X, hX⟩ : ∃ X, f_X12_vote S0 a1 a2 = X := ⟨_, rfl⟩
  have B_M : ∀ (S : MS) (x1 x2 : Int32) (H : Heap) (locs : List Loc) (ls : Array Slot), f_X12_vote S x1 x2 = X → p_X12_vote S x1 x2 → va_P G vwCl (mW K m0 gm h1 g1 h2 g2 S) H → va_D A (mW K m0 gm h1 g1 h2 g2 S) → va_S A s.heap H locs → lv_has ls 3 [(0, .ref m0), (1, .int x1), (2, .int x2)] → W p l e ({ frames := 6, cells := 0, slots := 0, locals := 156 } : Room) s m #[Value.ref m0, Value.int a1, Value.int a2] below meth c H locs 0 0 Q (F0 m 0 ls []) := by
    intro S x1 x2 H locs ls hE hp hP hD hS hl
    unfold f_X12_vote at hE
    unfold p_X12_vote at hp
    refine lv_aload_n hx hb dX12_vote_0 rfl (lv_at hl 0 rfl) ?_
    refine va_get (D := G) (ci := 9) (v := .ref h1) (C := RX12) (T := TX12) (N := 7) hx hb hts iX12 hown hK hP 0 rfl rfl 0 (by decide) (hw (.fieldLink RX12 16 "MotionFloorModel" "hall" "LMotionFloorModel$Hall;") (List.mem_of_getElem? (i := 0) rfl)) (fun _ h9 => h9) rfl dX12_vote_1 ?_
    refine lv_bipush (v := 17) hx hb dX12_vote_4 (by decide) ?_
    refine lv_iload_n hx hb dX12_vote_6 rfl (lv_at hl 1 rfl) ?_
    refine lv_iload_n hx hb dX12_vote_7 rfl (lv_at hl 2 rfl) ?_
    refine lv_iconst (v := 0) hx hb dX12_vote_8 (by decide) ?_
    refine lv_iconst (v := 0) hx hb dX12_vote_9 (by decide) ?_
    obtain ⟨hy1, hp⟩ := hp
    refine mGoi_h (va_runV (As := [.int 17, .int x1, .int x2, .int 0, .int 0]) (rest := []) ⟨hx, hb, hml, hown, hts⟩ (c_X11_act l G K h1 g1 S.2.1 17 x1 x2 0 0 _) (cwV 5 hts (wGV t_ (mw (.methodLink RX12 40 yX11_act) (List.mem_of_getElem? (i := 1) rfl)) (mw (.instanceMethod yX11_act) (List.mem_of_getElem? (i := 2) rfl)) (mw (.selects RX11 yX11_act yX11_act) (List.mem_of_getElem? (i := 3) rfl)) (mw (.initialized RX11) (List.mem_of_getElem? (i := 4) rfl)) j_X11_act) rfl rfl rfl (by decide +kernel) ⟨Nat.le_of_ble_eq_true rfl, Nat.le_of_ble_eq_true rfl⟩) (hPV hK hTE (mP_h hP) (mD_h hD) hy1) rfl rfl hl.1 rfl (lv_room (Nat.le_of_ble_eq_true rfl)) dX12_vote_10 ⟨Nat.le_of_ble_eq_true rfl, Nat.le_of_ble_eq_true rfl⟩) hP hD hS hA (fun r3 u2 H locs hv hP hD hS => ?_)
    rw [← hv] at hE hp
    dsimp only at hE hp
    unfold b_X12_vote_a13 at hE
    unfold q_X12_vote_a13 at hp
    subst hQ
    exact W.iret (v := r3) hx hb hr (fun t ht hW => ⟨⟨r3, (mH S u2), rfl, hE.trans hX.symm, by rw [ht]; exact hP, hD⟩, hS.F ht⟩) hS.2.2 dX12_vote_13
  exact B_M S0 a1 a2 _ _ _ hX hp hP hD hS hl
theorem gdX12_withdraw_0 : ckS (List.drop 0 cX12_withdraw.data.toList) 0 [(0, .aload_n 0, 1), (1, .getfield 16, 3), (4, .bipush 18, 2), (6, .iload_n 1, 1), (7, .iconst 0, 1), (8, .iconst 0, 1), (9, .iconst 0, 1), (10, .invokevirtual 40, 3), (13, .ireturn, 1)] = true := by decide +kernel
theorem dX12_withdraw_0 : decode cX12_withdraw 0 = .ok (.aload_n 0, 1) := ckS_g gdX12_withdraw_0 0 rfl
theorem dX12_withdraw_1 : decode cX12_withdraw 1 = .ok (.getfield 16, 3) := ckS_g gdX12_withdraw_0 1 rfl
theorem dX12_withdraw_4 : decode cX12_withdraw 4 = .ok (.bipush 18, 2) := ckS_g gdX12_withdraw_0 2 rfl
theorem dX12_withdraw_6 : decode cX12_withdraw 6 = .ok (.iload_n 1, 1) := ckS_g gdX12_withdraw_0 3 rfl
theorem dX12_withdraw_7 : decode cX12_withdraw 7 = .ok (.iconst 0, 1) := ckS_g gdX12_withdraw_0 4 rfl
theorem dX12_withdraw_8 : decode cX12_withdraw 8 = .ok (.iconst 0, 1) := ckS_g gdX12_withdraw_0 5 rfl
theorem dX12_withdraw_9 : decode cX12_withdraw 9 = .ok (.iconst 0, 1) := ckS_g gdX12_withdraw_0 6 rfl
theorem dX12_withdraw_10 : decode cX12_withdraw 10 = .ok (.invokevirtual 40, 3) := ckS_g gdX12_withdraw_0 7 rfl
theorem dX12_withdraw_13 : decode cX12_withdraw 13 = .ok (.ireturn, 1) := ckS_g gdX12_withdraw_0 8 rfl
set_option maxRecDepth 100000 in
theorem z241 : wZ (.code yX12_withdraw cX12_withdraw 2 (some .int)) := ⟨wT6 (List.mem_of_getElem? (i := 183) rfl), Or.inl rfl⟩
def b_X12_withdraw_a13 (S : MS) (x1 y0 : Int32) : Int32 × MS := (y0, S)
def q_X12_withdraw_a13 (S : MS) (x1 y0 : Int32) : Prop := True
def f_X12_withdraw (S : MS) (x1 : Int32) : Int32 × MS := (b_X12_withdraw_a13 (mH S ((f_X11_act S.2.1 18 x1 0 0 0).2)) x1 (f_X11_act S.2.1 18 x1 0 0 0).1)
def p_X12_withdraw (S : MS) (x1 : Int32) : Prop := (p_X11_act S.2.1 18 x1 0 0 0) ∧ (q_X12_withdraw_a13 (mH S ((f_X11_act S.2.1 18 x1 0 0 0).2)) x1 (f_X11_act S.2.1 18 x1 0 0 0).1)
def e_X12_withdraw : List Cond := [.fieldLink RX12 16 "MotionFloorModel" "hall" "LMotionFloorModel$Hall;", .methodLink RX12 40 yX11_act, .instanceMethod yX11_act, .selects RX11 yX11_act yX11_act, .initialized RX11]
def v_X12_withdraw : List Cond := .code yX12_withdraw cX12_withdraw 2 (some .int) :: (e_X12_withdraw ++ (wsX120 ++ (v_X11_act ++ [])))
theorem te_X12_withdraw : GoodIn lw_tbl e_X12_withdraw := wGc z219 (wGc z223 (wGc z222 (wGc z221 (wGc z51 (wG0)))))
theorem t_X12_withdraw : GoodIn lw_tbl v_X12_withdraw := wGc z241 (wGa te_X12_withdraw (wGa zcX12 (wGa t_X11_act (wG0))))
set_option maxHeartbeats 4000000 in
set_option maxRecDepth 100000 in
theorem c_X12_withdraw (l : Launch) (G : va_G) (K : Nat → ClassId) (m0 : Nat) (gm : Nat → Nat) (h1 : Nat) (g1 : Nat → Nat) (h2 : Nat) (g2 : Nat → Nat) (S0 : MS) (a1 : Int32) (sz : Nat) : Met l yX12_withdraw v_X12_withdraw ({ frames := 6, cells := 0, slots := 0, locals := 156 }) (va_Pc [.ref m0, .int a1] (mSt G K m0 gm h1 g1 h2 g2 sz S0 (p_X12_withdraw S0 a1))) (va_Qi (fun (r : Int32) (u : MS) => (r, u) = f_X12_withdraw S0 a1) (mB G K m0 gm h1 g1 h2 g2 (va_A (mW K m0 gm h1 g1 h2 g2 S0) sz)) (va_A (mW K m0 gm h1 g1 h2 g2 S0) sz)) 0 0 (va_A (mW K m0 gm h1 g1 h2 g2 S0) sz) := by
  refine Met.ofW (cc := cX12_withdraw) (maxL := 2) (ret := (some .int)) (by decide) rfl ?_
  intro p e s m args below meth c s₁ B hml hv
  obtain ⟨rfl, ⟨hsz, hP, hK, hD0, hTE⟩, hp⟩ := hv
  have hx := B.exec
  have hb := B.bytes
  have hr := B.returns
  have hts := atoms_spec (ws := v_X12_withdraw) B.pre
  have t_ := t_X12_withdraw
  have mw : ∀ w ∈ e_X12_withdraw, w ∈ v_X12_withdraw := fun w h => List.mem_cons_of_mem _ (List.mem_append_left _ h)
  have hw := fun w (h : w ∈ e_X12_withdraw) => hts w (mw w h)
  have iX12 : ∀ w ∈ wsX120, w ∈ v_X12_withdraw := fun w h => List.mem_cons_of_mem _ (List.mem_append_right _ (List.mem_append_left _ h))
  have j_X11_act : ∀ w ∈ v_X11_act, w ∈ v_X12_withdraw := fun w h => List.mem_cons_of_mem _ (List.mem_append_right _ (List.mem_append_right _ (List.mem_append_left _ h)))
  have hown : s.vm.findClass RX12 = some m.cls := findClass_of_methodNamed B.named
  have hlocks := B.notSynchronized
  subst hsz
  have hD := hD0.self (sz := s.heap.size)
  generalize hAe : va_A (mW K m0 gm h1 g1 h2 g2 S0) s.heap.size = A at hD ⊢
  have hA : ∀ q : Nat, s.heap.size ≤ q → A q := fun q h => by rw [← hAe]; exact Or.inr h
  have hS : va_S A s.heap s.heap [] := va_S.rf
  have hl := lv_entry ([.ref m0, .int a1]) (n := 2) (Nat.le_of_ble_eq_true rfl)
  rw [lg_entry_eq]
  generalize (lg_sl ([.ref m0, .int a1]) ++ List.replicate (2 - (lg_sl ([.ref m0, .int a1])).length) Slot.unset).toArray = ls at hl ⊢
  have hl : lv_has ls 2 [(0, .ref m0), (1, .int a1)] := hl
  refine wGen (fun Q hQ => ?_)
  obtain ⟨X, hX⟩ : ∃ X, f_X12_withdraw S0 a1 = X := ⟨_, rfl⟩
  have B_M : ∀ (S : MS) (x1 : Int32) (H : Heap) (locs : List Loc) (ls : Array Slot), f_X12_withdraw S x1 = X → p_X12_withdraw S x1 → va_P G vwCl (mW K m0 gm h1 g1 h2 g2 S) H → va_D A (mW K m0 gm h1 g1 h2 g2 S) → va_S A s.heap H locs → lv_has ls 2 [(0, .ref m0), (1, .int x1)] → W p l e ({ frames := 6, cells := 0, slots := 0, locals := 156 } : Room) s m #[Value.ref m0, Value.int a1] below meth c H locs 0 0 Q (F0 m 0 ls []) := by
    intro S x1 H locs ls hE hp hP hD hS hl
    unfold f_X12_withdraw at hE
    unfold p_X12_withdraw at hp
    refine lv_aload_n hx hb dX12_withdraw_0 rfl (lv_at hl 0 rfl) ?_
    refine va_get (D := G) (ci := 9) (v := .ref h1) (C := RX12) (T := TX12) (N := 7) hx hb hts iX12 hown hK hP 0 rfl rfl 0 (by decide) (hw (.fieldLink RX12 16 "MotionFloorModel" "hall" "LMotionFloorModel$Hall;") (List.mem_of_getElem? (i := 0) rfl)) (fun _ h9 => h9) rfl dX12_withdraw_1 ?_
    refine lv_bipush (v := 18) hx hb dX12_withdraw_4 (by decide) ?_
    refine lv_iload_n hx hb dX12_withdraw_6 rfl (lv_at hl 1 rfl) ?_
    refine lv_iconst (v := 0) hx hb dX12_withdraw_7 (by decide) ?_
    refine lv_iconst (v := 0) hx hb dX12_withdraw_8 (by decide) ?_
    refine lv_iconst (v := 0) hx hb dX12_withdraw_9 (by decide) ?_
    obtain ⟨hy1, hp⟩ := hp
    refine mGoi_h (va_runV (As := [.int 18, .int x1, .int 0, .int 0, .int 0]) (rest := []) ⟨hx, hb, hml, hown, hts⟩ (c_X11_act l G K h1 g1 S.2.1 18 x1 0 0 0 _) (cwV 5 hts (wGV t_ (mw (.methodLink RX12 40 yX11_act) (List.mem_of_getElem? (i := 1) rfl)) (mw (.instanceMethod yX11_act) (List.mem_of_getElem? (i := 2) rfl)) (mw (.selects RX11 yX11_act yX11_act) (List.mem_of_getElem? (i := 3) rfl)) (mw (.initialized RX11) (List.mem_of_getElem? (i := 4) rfl)) j_X11_act) rfl rfl rfl (by decide +kernel) ⟨Nat.le_of_ble_eq_true rfl, Nat.le_of_ble_eq_true rfl⟩) (hPV hK hTE (mP_h hP) (mD_h hD) hy1) rfl rfl hl.1 rfl (lv_room (Nat.le_of_ble_eq_true rfl)) dX12_withdraw_10 ⟨Nat.le_of_ble_eq_true rfl, Nat.le_of_ble_eq_true rfl⟩) hP hD hS hA (fun r3 u2 H locs hv hP hD hS => ?_)
    rw [← hv] at hE hp
    dsimp only at hE hp
    unfold b_X12_withdraw_a13 at hE
    unfold q_X12_withdraw_a13 at hp
    subst hQ
    exact W.iret (v := r3) hx hb hr (fun t ht hW => ⟨⟨r3, (mH S u2), rfl, hE.trans hX.symm, by rw [ht]; exact hP, hD⟩, hS.F ht⟩) hS.2.2 dX12_withdraw_13
  exact B_M S0 a1 _ _ _ hX hp hP hD hS hl
theorem gdX12_rule_0 : ckS (List.drop 0 cX12_rule.data.toList) 0 [(0, .aload_n 0, 1), (1, .getfield 16, 3), (4, .bipush 19, 2), (6, .iconst 0, 1), (7, .iconst 0, 1), (8, .iconst 0, 1), (9, .iconst 0, 1), (10, .invokevirtual 40, 3), (13, .ireturn, 1)] = true := by decide +kernel
theorem dX12_rule_0 : decode cX12_rule 0 = .ok (.aload_n 0, 1) := ckS_g gdX12_rule_0 0 rfl
theorem dX12_rule_1 : decode cX12_rule 1 = .ok (.getfield 16, 3) := ckS_g gdX12_rule_0 1 rfl
theorem dX12_rule_4 : decode cX12_rule 4 = .ok (.bipush 19, 2) := ckS_g gdX12_rule_0 2 rfl
theorem dX12_rule_6 : decode cX12_rule 6 = .ok (.iconst 0, 1) := ckS_g gdX12_rule_0 3 rfl
theorem dX12_rule_7 : decode cX12_rule 7 = .ok (.iconst 0, 1) := ckS_g gdX12_rule_0 4 rfl
theorem dX12_rule_8 : decode cX12_rule 8 = .ok (.iconst 0, 1) := ckS_g gdX12_rule_0 5 rfl
theorem dX12_rule_9 : decode cX12_rule 9 = .ok (.iconst 0, 1) := ckS_g gdX12_rule_0 6 rfl
theorem dX12_rule_10 : decode cX12_rule 10 = .ok (.invokevirtual 40, 3) := ckS_g gdX12_rule_0 7 rfl
theorem dX12_rule_13 : decode cX12_rule 13 = .ok (.ireturn, 1) := ckS_g gdX12_rule_0 8 rfl
set_option maxRecDepth 100000 in
theorem z242 : wZ (.code yX12_rule cX12_rule 1 (some .int)) := ⟨wT6 (List.mem_of_getElem? (i := 187) rfl), Or.inl rfl⟩
def b_X12_rule_a13 (S : MS) (y0 : Int32) : Int32 × MS := (y0, S)
def q_X12_rule_a13 (S : MS) (y0 : Int32) : Prop := True
def f_X12_rule (S : MS)  : Int32 × MS := (b_X12_rule_a13 (mH S ((f_X11_act S.2.1 19 0 0 0 0).2)) (f_X11_act S.2.1 19 0 0 0 0).1)
def p_X12_rule (S : MS)  : Prop := (p_X11_act S.2.1 19 0 0 0 0) ∧ (q_X12_rule_a13 (mH S ((f_X11_act S.2.1 19 0 0 0 0).2)) (f_X11_act S.2.1 19 0 0 0 0).1)
def e_X12_rule : List Cond := [.fieldLink RX12 16 "MotionFloorModel" "hall" "LMotionFloorModel$Hall;", .methodLink RX12 40 yX11_act, .instanceMethod yX11_act, .selects RX11 yX11_act yX11_act, .initialized RX11]
def v_X12_rule : List Cond := .code yX12_rule cX12_rule 1 (some .int) :: (e_X12_rule ++ (wsX120 ++ (v_X11_act ++ [])))
theorem te_X12_rule : GoodIn lw_tbl e_X12_rule := wGc z219 (wGc z223 (wGc z222 (wGc z221 (wGc z51 (wG0)))))
theorem t_X12_rule : GoodIn lw_tbl v_X12_rule := wGc z242 (wGa te_X12_rule (wGa zcX12 (wGa t_X11_act (wG0))))
set_option maxHeartbeats 4000000 in
set_option maxRecDepth 100000 in
theorem c_X12_rule (l : Launch) (G : va_G) (K : Nat → ClassId) (m0 : Nat) (gm : Nat → Nat) (h1 : Nat) (g1 : Nat → Nat) (h2 : Nat) (g2 : Nat → Nat) (S0 : MS)  (sz : Nat) : Met l yX12_rule v_X12_rule ({ frames := 6, cells := 0, slots := 0, locals := 156 }) (va_Pc [.ref m0] (mSt G K m0 gm h1 g1 h2 g2 sz S0 (p_X12_rule S0))) (va_Qi (fun (r : Int32) (u : MS) => (r, u) = f_X12_rule S0) (mB G K m0 gm h1 g1 h2 g2 (va_A (mW K m0 gm h1 g1 h2 g2 S0) sz)) (va_A (mW K m0 gm h1 g1 h2 g2 S0) sz)) 0 0 (va_A (mW K m0 gm h1 g1 h2 g2 S0) sz) := by
  refine Met.ofW (cc := cX12_rule) (maxL := 1) (ret := (some .int)) (by decide) rfl ?_
  intro p e s m args below meth c s₁ B hml hv
  obtain ⟨rfl, ⟨hsz, hP, hK, hD0, hTE⟩, hp⟩ := hv
  have hx := B.exec
  have hb := B.bytes
  have hr := B.returns
  have hts := atoms_spec (ws := v_X12_rule) B.pre
  have t_ := t_X12_rule
  have mw : ∀ w ∈ e_X12_rule, w ∈ v_X12_rule := fun w h => List.mem_cons_of_mem _ (List.mem_append_left _ h)
  have hw := fun w (h : w ∈ e_X12_rule) => hts w (mw w h)
  have iX12 : ∀ w ∈ wsX120, w ∈ v_X12_rule := fun w h => List.mem_cons_of_mem _ (List.mem_append_right _ (List.mem_append_left _ h))
  have j_X11_act : ∀ w ∈ v_X11_act, w ∈ v_X12_rule := fun w h => List.mem_cons_of_mem _ (List.mem_append_right _ (List.mem_append_right _ (List.mem_append_left _ h)))
  have hown : s.vm.findClass RX12 = some m.cls := findClass_of_methodNamed B.named
  have hlocks := B.notSynchronized
  subst hsz
  have hD := hD0.self (sz := s.heap.size)
  generalize hAe : va_A (mW K m0 gm h1 g1 h2 g2 S0) s.heap.size = A at hD ⊢
  have hA : ∀ q : Nat, s.heap.size ≤ q → A q := fun q h => by rw [← hAe]; exact Or.inr h
  have hS : va_S A s.heap s.heap [] := va_S.rf
  have hl := lv_entry ([.ref m0]) (n := 1) (Nat.le_of_ble_eq_true rfl)
  rw [lg_entry_eq]
  generalize (lg_sl ([.ref m0]) ++ List.replicate (1 - (lg_sl ([.ref m0])).length) Slot.unset).toArray = ls at hl ⊢
  have hl : lv_has ls 1 [(0, .ref m0)] := hl
  refine wGen (fun Q hQ => ?_)
  obtain ⟨X, hX⟩ : ∃ X, f_X12_rule S0 = X := ⟨_, rfl⟩
  have B_M : ∀ (S : MS) (H : Heap) (locs : List Loc) (ls : Array Slot), f_X12_rule S = X → p_X12_rule S → va_P G vwCl (mW K m0 gm h1 g1 h2 g2 S) H → va_D A (mW K m0 gm h1 g1 h2 g2 S) → va_S A s.heap H locs → lv_has ls 1 [(0, .ref m0)] → W p l e ({ frames := 6, cells := 0, slots := 0, locals := 156 } : Room) s m #[Value.ref m0] below meth c H locs 0 0 Q (F0 m 0 ls []) := by
    intro S H locs ls hE hp hP hD hS hl
    unfold f_X12_rule at hE
    unfold p_X12_rule at hp
    refine lv_aload_n hx hb dX12_rule_0 rfl (lv_at hl 0 rfl) ?_
    refine va_get (D := G) (ci := 9) (v := .ref h1) (C := RX12) (T := TX12) (N := 7) hx hb hts iX12 hown hK hP 0 rfl rfl 0 (by decide) (hw (.fieldLink RX12 16 "MotionFloorModel" "hall" "LMotionFloorModel$Hall;") (List.mem_of_getElem? (i := 0) rfl)) (fun _ h9 => h9) rfl dX12_rule_1 ?_
    refine lv_bipush (v := 19) hx hb dX12_rule_4 (by decide) ?_
    refine lv_iconst (v := 0) hx hb dX12_rule_6 (by decide) ?_
    refine lv_iconst (v := 0) hx hb dX12_rule_7 (by decide) ?_
    refine lv_iconst (v := 0) hx hb dX12_rule_8 (by decide) ?_
    refine lv_iconst (v := 0) hx hb dX12_rule_9 (by decide) ?_
    obtain ⟨hy1, hp⟩ := hp
    refine mGoi_h (va_runV (As := [.int 19, .int 0, .int 0, .int 0, .int 0]) (rest := []) ⟨hx, hb, hml, hown, hts⟩ (c_X11_act l G K h1 g1 S.2.1 19 0 0 0 0 _) (cwV 5 hts (wGV t_ (mw (.methodLink RX12 40 yX11_act) (List.mem_of_getElem? (i := 1) rfl)) (mw (.instanceMethod yX11_act) (List.mem_of_getElem? (i := 2) rfl)) (mw (.selects RX11 yX11_act yX11_act) (List.mem_of_getElem? (i := 3) rfl)) (mw (.initialized RX11) (List.mem_of_getElem? (i := 4) rfl)) j_X11_act) rfl rfl rfl (by decide +kernel) ⟨Nat.le_of_ble_eq_true rfl, Nat.le_of_ble_eq_true rfl⟩) (hPV hK hTE (mP_h hP) (mD_h hD) hy1) rfl rfl hl.1 rfl (lv_room (Nat.le_of_ble_eq_true rfl)) dX12_rule_10 ⟨Nat.le_of_ble_eq_true rfl, Nat.le_of_ble_eq_true rfl⟩) hP hD hS hA (fun r3 u2 H locs hv hP hD hS => ?_)
    rw [← hv] at hE hp
    dsimp only at hE hp
    unfold b_X12_rule_a13 at hE
    unfold q_X12_rule_a13 at hp
    subst hQ
    exact W.iret (v := r3) hx hb hr (fun t ht hW => ⟨⟨r3, (mH S u2), rfl, hE.trans hX.symm, by rw [ht]; exact hP, hD⟩, hS.F ht⟩) hS.2.2 dX12_rule_13
  exact B_M S0 _ _ _ hX hp hP hD hS hl
theorem gdX12_appeal_0 : ckS (List.drop 0 cX12_appeal.data.toList) 0 [(0, .aload_n 0, 1), (1, .getfield 16, 3), (4, .bipush 20, 2), (6, .iload_n 1, 1), (7, .iconst 0, 1), (8, .iconst 0, 1), (9, .iconst 0, 1), (10, .invokevirtual 40, 3), (13, .ireturn, 1)] = true := by decide +kernel
theorem dX12_appeal_0 : decode cX12_appeal 0 = .ok (.aload_n 0, 1) := ckS_g gdX12_appeal_0 0 rfl
theorem dX12_appeal_1 : decode cX12_appeal 1 = .ok (.getfield 16, 3) := ckS_g gdX12_appeal_0 1 rfl
theorem dX12_appeal_4 : decode cX12_appeal 4 = .ok (.bipush 20, 2) := ckS_g gdX12_appeal_0 2 rfl
theorem dX12_appeal_6 : decode cX12_appeal 6 = .ok (.iload_n 1, 1) := ckS_g gdX12_appeal_0 3 rfl
theorem dX12_appeal_7 : decode cX12_appeal 7 = .ok (.iconst 0, 1) := ckS_g gdX12_appeal_0 4 rfl
theorem dX12_appeal_8 : decode cX12_appeal 8 = .ok (.iconst 0, 1) := ckS_g gdX12_appeal_0 5 rfl
theorem dX12_appeal_9 : decode cX12_appeal 9 = .ok (.iconst 0, 1) := ckS_g gdX12_appeal_0 6 rfl
theorem dX12_appeal_10 : decode cX12_appeal 10 = .ok (.invokevirtual 40, 3) := ckS_g gdX12_appeal_0 7 rfl
theorem dX12_appeal_13 : decode cX12_appeal 13 = .ok (.ireturn, 1) := ckS_g gdX12_appeal_0 8 rfl
set_option maxRecDepth 100000 in
theorem z243 : wZ (.code yX12_appeal cX12_appeal 2 (some .int)) := ⟨wT6 (List.mem_of_getElem? (i := 191) rfl), Or.inl rfl⟩
def b_X12_appeal_a13 (S : MS) (x1 y0 : Int32) : Int32 × MS := (y0, S)
def q_X12_appeal_a13 (S : MS) (x1 y0 : Int32) : Prop := True
def f_X12_appeal (S : MS) (x1 : Int32) : Int32 × MS := (b_X12_appeal_a13 (mH S ((f_X11_act S.2.1 20 x1 0 0 0).2)) x1 (f_X11_act S.2.1 20 x1 0 0 0).1)
def p_X12_appeal (S : MS) (x1 : Int32) : Prop := (p_X11_act S.2.1 20 x1 0 0 0) ∧ (q_X12_appeal_a13 (mH S ((f_X11_act S.2.1 20 x1 0 0 0).2)) x1 (f_X11_act S.2.1 20 x1 0 0 0).1)
def e_X12_appeal : List Cond := [.fieldLink RX12 16 "MotionFloorModel" "hall" "LMotionFloorModel$Hall;", .methodLink RX12 40 yX11_act, .instanceMethod yX11_act, .selects RX11 yX11_act yX11_act, .initialized RX11]
def v_X12_appeal : List Cond := .code yX12_appeal cX12_appeal 2 (some .int) :: (e_X12_appeal ++ (wsX120 ++ (v_X11_act ++ [])))
theorem te_X12_appeal : GoodIn lw_tbl e_X12_appeal := wGc z219 (wGc z223 (wGc z222 (wGc z221 (wGc z51 (wG0)))))
theorem t_X12_appeal : GoodIn lw_tbl v_X12_appeal := wGc z243 (wGa te_X12_appeal (wGa zcX12 (wGa t_X11_act (wG0))))
set_option maxHeartbeats 4000000 in
set_option maxRecDepth 100000 in
theorem c_X12_appeal (l : Launch) (G : va_G) (K : Nat → ClassId) (m0 : Nat) (gm : Nat → Nat) (h1 : Nat) (g1 : Nat → Nat) (h2 : Nat) (g2 : Nat → Nat) (S0 : MS) (a1 : Int32) (sz : Nat) : Met l yX12_appeal v_X12_appeal ({ frames := 6, cells := 0, slots := 0, locals := 156 }) (va_Pc [.ref m0, .int a1] (mSt G K m0 gm h1 g1 h2 g2 sz S0 (p_X12_appeal S0 a1))) (va_Qi (fun (r : Int32) (u : MS) => (r, u) = f_X12_appeal S0 a1) (mB G K m0 gm h1 g1 h2 g2 (va_A (mW K m0 gm h1 g1 h2 g2 S0) sz)) (va_A (mW K m0 gm h1 g1 h2 g2 S0) sz)) 0 0 (va_A (mW K m0 gm h1 g1 h2 g2 S0) sz) := by
  refine Met.ofW (cc := cX12_appeal) (maxL := 2) (ret := (some .int)) (by decide) rfl ?_
  intro p e s m args below meth c s₁ B hml hv
  obtain ⟨rfl, ⟨hsz, hP, hK, hD0, hTE⟩, hp⟩ := hv
  have hx := B.exec
  have hb := B.bytes
  have hr := B.returns
  have hts := atoms_spec (ws := v_X12_appeal) B.pre
  have t_ := t_X12_appeal
  have mw : ∀ w ∈ e_X12_appeal, w ∈ v_X12_appeal := fun w h => List.mem_cons_of_mem _ (List.mem_append_left _ h)
  have hw := fun w (h : w ∈ e_X12_appeal) => hts w (mw w h)
  have iX12 : ∀ w ∈ wsX120, w ∈ v_X12_appeal := fun w h => List.mem_cons_of_mem _ (List.mem_append_right _ (List.mem_append_left _ h))
  have j_X11_act : ∀ w ∈ v_X11_act, w ∈ v_X12_appeal := fun w h => List.mem_cons_of_mem _ (List.mem_append_right _ (List.mem_append_right _ (List.mem_append_left _ h)))
  have hown : s.vm.findClass RX12 = some m.cls := findClass_of_methodNamed B.named
  have hlocks := B.notSynchronized
  subst hsz
  have hD := hD0.self (sz := s.heap.size)
  generalize hAe : va_A (mW K m0 gm h1 g1 h2 g2 S0) s.heap.size = A at hD ⊢
  have hA : ∀ q : Nat, s.heap.size ≤ q → A q := fun q h => by rw [← hAe]; exact Or.inr h
  have hS : va_S A s.heap s.heap [] := va_S.rf
  have hl := lv_entry ([.ref m0, .int a1]) (n := 2) (Nat.le_of_ble_eq_true rfl)
  rw [lg_entry_eq]
  generalize (lg_sl ([.ref m0, .int a1]) ++ List.replicate (2 - (lg_sl ([.ref m0, .int a1])).length) Slot.unset).toArray = ls at hl ⊢
  have hl : lv_has ls 2 [(0, .ref m0), (1, .int a1)] := hl
  refine wGen (fun Q hQ => ?_)
  obtain ⟨X, hX⟩ : ∃ X, f_X12_appeal S0 a1 = X := ⟨_, rfl⟩
  have B_M : ∀ (S : MS) (x1 : Int32) (H : Heap) (locs : List Loc) (ls : Array Slot), f_X12_appeal S x1 = X → p_X12_appeal S x1 → va_P G vwCl (mW K m0 gm h1 g1 h2 g2 S) H → va_D A (mW K m0 gm h1 g1 h2 g2 S) → va_S A s.heap H locs → lv_has ls 2 [(0, .ref m0), (1, .int x1)] → W p l e ({ frames := 6, cells := 0, slots := 0, locals := 156 } : Room) s m #[Value.ref m0, Value.int a1] below meth c H locs 0 0 Q (F0 m 0 ls []) := by
    intro S x1 H locs ls hE hp hP hD hS hl
    unfold f_X12_appeal at hE
    unfold p_X12_appeal at hp
    refine lv_aload_n hx hb dX12_appeal_0 rfl (lv_at hl 0 rfl) ?_
    refine va_get (D := G) (ci := 9) (v := .ref h1) (C := RX12) (T := TX12) (N := 7) hx hb hts iX12 hown hK hP 0 rfl rfl 0 (by decide) (hw (.fieldLink RX12 16 "MotionFloorModel" "hall" "LMotionFloorModel$Hall;") (List.mem_of_getElem? (i := 0) rfl)) (fun _ h9 => h9) rfl dX12_appeal_1 ?_
    refine lv_bipush (v := 20) hx hb dX12_appeal_4 (by decide) ?_
    refine lv_iload_n hx hb dX12_appeal_6 rfl (lv_at hl 1 rfl) ?_
    refine lv_iconst (v := 0) hx hb dX12_appeal_7 (by decide) ?_
    refine lv_iconst (v := 0) hx hb dX12_appeal_8 (by decide) ?_
    refine lv_iconst (v := 0) hx hb dX12_appeal_9 (by decide) ?_
    obtain ⟨hy1, hp⟩ := hp
    refine mGoi_h (va_runV (As := [.int 20, .int x1, .int 0, .int 0, .int 0]) (rest := []) ⟨hx, hb, hml, hown, hts⟩ (c_X11_act l G K h1 g1 S.2.1 20 x1 0 0 0 _) (cwV 5 hts (wGV t_ (mw (.methodLink RX12 40 yX11_act) (List.mem_of_getElem? (i := 1) rfl)) (mw (.instanceMethod yX11_act) (List.mem_of_getElem? (i := 2) rfl)) (mw (.selects RX11 yX11_act yX11_act) (List.mem_of_getElem? (i := 3) rfl)) (mw (.initialized RX11) (List.mem_of_getElem? (i := 4) rfl)) j_X11_act) rfl rfl rfl (by decide +kernel) ⟨Nat.le_of_ble_eq_true rfl, Nat.le_of_ble_eq_true rfl⟩) (hPV hK hTE (mP_h hP) (mD_h hD) hy1) rfl rfl hl.1 rfl (lv_room (Nat.le_of_ble_eq_true rfl)) dX12_appeal_10 ⟨Nat.le_of_ble_eq_true rfl, Nat.le_of_ble_eq_true rfl⟩) hP hD hS hA (fun r3 u2 H locs hv hP hD hS => ?_)
    rw [← hv] at hE hp
    dsimp only at hE hp
    unfold b_X12_appeal_a13 at hE
    unfold q_X12_appeal_a13 at hp
    subst hQ
    exact W.iret (v := r3) hx hb hr (fun t ht hW => ⟨⟨r3, (mH S u2), rfl, hE.trans hX.symm, by rw [ht]; exact hP, hD⟩, hS.F ht⟩) hS.2.2 dX12_appeal_13
  exact B_M S0 a1 _ _ _ hX hp hP hD hS hl
theorem gdX12_told_0 : ckS (List.drop 0 cX12_told.data.toList) 0 [(0, .aload_n 0, 1), (1, .getfield 16, 3), (4, .bipush 21, 2), (6, .iconst 0, 1), (7, .iconst 0, 1), (8, .iconst 0, 1), (9, .iconst 0, 1), (10, .invokevirtual 40, 3), (13, .ireturn, 1)] = true := by decide +kernel
theorem dX12_told_0 : decode cX12_told 0 = .ok (.aload_n 0, 1) := ckS_g gdX12_told_0 0 rfl
theorem dX12_told_1 : decode cX12_told 1 = .ok (.getfield 16, 3) := ckS_g gdX12_told_0 1 rfl
theorem dX12_told_4 : decode cX12_told 4 = .ok (.bipush 21, 2) := ckS_g gdX12_told_0 2 rfl
theorem dX12_told_6 : decode cX12_told 6 = .ok (.iconst 0, 1) := ckS_g gdX12_told_0 3 rfl
theorem dX12_told_7 : decode cX12_told 7 = .ok (.iconst 0, 1) := ckS_g gdX12_told_0 4 rfl
theorem dX12_told_8 : decode cX12_told 8 = .ok (.iconst 0, 1) := ckS_g gdX12_told_0 5 rfl
theorem dX12_told_9 : decode cX12_told 9 = .ok (.iconst 0, 1) := ckS_g gdX12_told_0 6 rfl
theorem dX12_told_10 : decode cX12_told 10 = .ok (.invokevirtual 40, 3) := ckS_g gdX12_told_0 7 rfl
theorem dX12_told_13 : decode cX12_told 13 = .ok (.ireturn, 1) := ckS_g gdX12_told_0 8 rfl
set_option maxRecDepth 100000 in
theorem z244 : wZ (.code yX12_told cX12_told 1 (some .int)) := ⟨wT6 (List.mem_of_getElem? (i := 195) rfl), Or.inl rfl⟩
def b_X12_told_a13 (S : MS) (y0 : Int32) : Int32 × MS := (y0, S)
def q_X12_told_a13 (S : MS) (y0 : Int32) : Prop := True
def f_X12_told (S : MS)  : Int32 × MS := (b_X12_told_a13 (mH S ((f_X11_act S.2.1 21 0 0 0 0).2)) (f_X11_act S.2.1 21 0 0 0 0).1)
def p_X12_told (S : MS)  : Prop := (p_X11_act S.2.1 21 0 0 0 0) ∧ (q_X12_told_a13 (mH S ((f_X11_act S.2.1 21 0 0 0 0).2)) (f_X11_act S.2.1 21 0 0 0 0).1)
def e_X12_told : List Cond := [.fieldLink RX12 16 "MotionFloorModel" "hall" "LMotionFloorModel$Hall;", .methodLink RX12 40 yX11_act, .instanceMethod yX11_act, .selects RX11 yX11_act yX11_act, .initialized RX11]
def v_X12_told : List Cond := .code yX12_told cX12_told 1 (some .int) :: (e_X12_told ++ (wsX120 ++ (v_X11_act ++ [])))
theorem te_X12_told : GoodIn lw_tbl e_X12_told := wGc z219 (wGc z223 (wGc z222 (wGc z221 (wGc z51 (wG0)))))
theorem t_X12_told : GoodIn lw_tbl v_X12_told := wGc z244 (wGa te_X12_told (wGa zcX12 (wGa t_X11_act (wG0))))
set_option maxHeartbeats 4000000 in
set_option maxRecDepth 100000 in
theorem c_X12_told (l : Launch) (G : va_G) (K : Nat → ClassId) (m0 : Nat) (gm : Nat → Nat) (h1 : Nat) (g1 : Nat → Nat) (h2 : Nat) (g2 : Nat → Nat) (S0 : MS)  (sz : Nat) : Met l yX12_told v_X12_told ({ frames := 6, cells := 0, slots := 0, locals := 156 }) (va_Pc [.ref m0] (mSt G K m0 gm h1 g1 h2 g2 sz S0 (p_X12_told S0))) (va_Qi (fun (r : Int32) (u : MS) => (r, u) = f_X12_told S0) (mB G K m0 gm h1 g1 h2 g2 (va_A (mW K m0 gm h1 g1 h2 g2 S0) sz)) (va_A (mW K m0 gm h1 g1 h2 g2 S0) sz)) 0 0 (va_A (mW K m0 gm h1 g1 h2 g2 S0) sz) := by
  refine Met.ofW (cc := cX12_told) (maxL := 1) (ret := (some .int)) (by decide) rfl ?_
  intro p e s m args below meth c s₁ B hml hv
  obtain ⟨rfl, ⟨hsz, hP, hK, hD0, hTE⟩, hp⟩ := hv
  have hx := B.exec
  have hb := B.bytes
  have hr := B.returns
  have hts := atoms_spec (ws := v_X12_told) B.pre
  have t_ := t_X12_told
  have mw : ∀ w ∈ e_X12_told, w ∈ v_X12_told := fun w h => List.mem_cons_of_mem _ (List.mem_append_left _ h)
  have hw := fun w (h : w ∈ e_X12_told) => hts w (mw w h)
  have iX12 : ∀ w ∈ wsX120, w ∈ v_X12_told := fun w h => List.mem_cons_of_mem _ (List.mem_append_right _ (List.mem_append_left _ h))
  have j_X11_act : ∀ w ∈ v_X11_act, w ∈ v_X12_told := fun w h => List.mem_cons_of_mem _ (List.mem_append_right _ (List.mem_append_right _ (List.mem_append_left _ h)))
  have hown : s.vm.findClass RX12 = some m.cls := findClass_of_methodNamed B.named
  have hlocks := B.notSynchronized
  subst hsz
  have hD := hD0.self (sz := s.heap.size)
  generalize hAe : va_A (mW K m0 gm h1 g1 h2 g2 S0) s.heap.size = A at hD ⊢
  have hA : ∀ q : Nat, s.heap.size ≤ q → A q := fun q h => by rw [← hAe]; exact Or.inr h
  have hS : va_S A s.heap s.heap [] := va_S.rf
  have hl := lv_entry ([.ref m0]) (n := 1) (Nat.le_of_ble_eq_true rfl)
  rw [lg_entry_eq]
  generalize (lg_sl ([.ref m0]) ++ List.replicate (1 - (lg_sl ([.ref m0])).length) Slot.unset).toArray = ls at hl ⊢
  have hl : lv_has ls 1 [(0, .ref m0)] := hl
  refine wGen (fun Q hQ => ?_)
  obtain ⟨X, hX⟩ : ∃ X, f_X12_told S0 = X := ⟨_, rfl⟩
  have B_M : ∀ (S : MS) (H : Heap) (locs : List Loc) (ls : Array Slot), f_X12_told S = X → p_X12_told S → va_P G vwCl (mW K m0 gm h1 g1 h2 g2 S) H → va_D A (mW K m0 gm h1 g1 h2 g2 S) → va_S A s.heap H locs → lv_has ls 1 [(0, .ref m0)] → W p l e ({ frames := 6, cells := 0, slots := 0, locals := 156 } : Room) s m #[Value.ref m0] below meth c H locs 0 0 Q (F0 m 0 ls []) := by
    intro S H locs ls hE hp hP hD hS hl
    unfold f_X12_told at hE
    unfold p_X12_told at hp
    refine lv_aload_n hx hb dX12_told_0 rfl (lv_at hl 0 rfl) ?_
    refine va_get (D := G) (ci := 9) (v := .ref h1) (C := RX12) (T := TX12) (N := 7) hx hb hts iX12 hown hK hP 0 rfl rfl 0 (by decide) (hw (.fieldLink RX12 16 "MotionFloorModel" "hall" "LMotionFloorModel$Hall;") (List.mem_of_getElem? (i := 0) rfl)) (fun _ h9 => h9) rfl dX12_told_1 ?_
    refine lv_bipush (v := 21) hx hb dX12_told_4 (by decide) ?_
    refine lv_iconst (v := 0) hx hb dX12_told_6 (by decide) ?_
    refine lv_iconst (v := 0) hx hb dX12_told_7 (by decide) ?_
    refine lv_iconst (v := 0) hx hb dX12_told_8 (by decide) ?_
    refine lv_iconst (v := 0) hx hb dX12_told_9 (by decide) ?_
    obtain ⟨hy1, hp⟩ := hp
    refine mGoi_h (va_runV (As := [.int 21, .int 0, .int 0, .int 0, .int 0]) (rest := []) ⟨hx, hb, hml, hown, hts⟩ (c_X11_act l G K h1 g1 S.2.1 21 0 0 0 0 _) (cwV 5 hts (wGV t_ (mw (.methodLink RX12 40 yX11_act) (List.mem_of_getElem? (i := 1) rfl)) (mw (.instanceMethod yX11_act) (List.mem_of_getElem? (i := 2) rfl)) (mw (.selects RX11 yX11_act yX11_act) (List.mem_of_getElem? (i := 3) rfl)) (mw (.initialized RX11) (List.mem_of_getElem? (i := 4) rfl)) j_X11_act) rfl rfl rfl (by decide +kernel) ⟨Nat.le_of_ble_eq_true rfl, Nat.le_of_ble_eq_true rfl⟩) (hPV hK hTE (mP_h hP) (mD_h hD) hy1) rfl rfl hl.1 rfl (lv_room (Nat.le_of_ble_eq_true rfl)) dX12_told_10 ⟨Nat.le_of_ble_eq_true rfl, Nat.le_of_ble_eq_true rfl⟩) hP hD hS hA (fun r3 u2 H locs hv hP hD hS => ?_)
    rw [← hv] at hE hp
    dsimp only at hE hp
    unfold b_X12_told_a13 at hE
    unfold q_X12_told_a13 at hp
    subst hQ
    exact W.iret (v := r3) hx hb hr (fun t ht hW => ⟨⟨r3, (mH S u2), rfl, hE.trans hX.symm, by rw [ht]; exact hP, hD⟩, hS.F ht⟩) hS.2.2 dX12_told_13
  exact B_M S0 _ _ _ hX hp hP hD hS hl
