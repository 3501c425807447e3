def e_X11_act_3 : List Cond := [.methodLink RX11 196 yX11_reason, .instanceMethod yX11_reason, .selects RX11 yX11_reason yX11_reason, .initialized RX11, .fieldLink RX11 127 "MotionFloorModel$Hall" "why" "I"]
def v_X11_act_3 : List Cond := .code yX11_act cX11_act 10 (some .int) :: (e_X11_act_3 ++ (wsX110 ++ (v_X11_reason_3 ++ [])))
theorem te_X11_act_3 : GoodIn lw_tbl e_X11_act_3 := wGc z364 (wGc z363 (wGc z362 (wGc z227 (wGc z198 (wG0)))))
theorem t_X11_act_3 : GoodIn lw_tbl v_X11_act_3 := wGc z365 (wGa te_X11_act_3 (wGa zcX11 (wGa t_X11_reason_3 (wG0))))
set_option maxHeartbeats 4000000 in
set_option maxRecDepth 100000 in
theorem m_X11_act_3 (l : Launch) (G : va_G) (K : Nat → ClassId) (h0 h1 h2 h3 h4 h5 h6 h7 h8 h9 h10 h11 h12 h13 h14 h15 h16 h17 h18 h19 h20 h21 h22 h23 h24 h25 h26 h27 : Nat) (sz : Nat) : Met l yX11_act v_X11_act_3 ({ frames := 3, cells := 0, slots := 0, locals := 68 }) (va_Pc [.ref h0, .int 2, .int 0, .int 0, .int 0, .int 0] (wS G K sz [(h0, .inr (8, [.int 1, .int 0, .int (-1), .int 0, .int 0, .int (-1), .int 0, .int 0, .int 0, .int 0, .int 0, .ref h1, .ref h2, .ref h3, .ref h4, .ref h5, .ref h6, .ref h7, .ref h8, .ref h9, .ref h10, .ref h11, .ref h12, .ref h13, .ref h14, .ref h15, .ref h16, .ref h17, .ref h18, .ref h19, .int 0, .ref h20, .ref h21, .ref h22, .ref h23, .int 0, .int 0, .ref h24, .ref h25, .int (-1), .ref h26, .ref h27])), (h1, .inl (K 1, 200, .inl (fun _ => 0)))])) (va_Qi (fun (r : Int32) (u : va_W) => ((-8) = r ∧ u = [(h0, .inr (8, [.int 1, .int 0, .int (-1), .int 0, .int 0, .int (-1), .int 0, .int 0, .int 0, .int 0, .int 8, .ref h1, .ref h2, .ref h3, .ref h4, .ref h5, .ref h6, .ref h7, .ref h8, .ref h9, .ref h10, .ref h11, .ref h12, .ref h13, .ref h14, .ref h15, .ref h16, .ref h17, .ref h18, .ref h19, .int 0, .ref h20, .ref h21, .ref h22, .ref h23, .int 0, .int 0, .ref h24, .ref h25, .int (-1), .ref h26, .ref h27])), (h1, .inl (K 1, 200, .inl (fun _ => 0)))])) (wB G (va_A [(h0, .inr (8, [.int 1, .int 0, .int (-1), .int 0, .int 0, .int (-1), .int 0, .int 0, .int 0, .int 0, .int 0, .ref h1, .ref h2, .ref h3, .ref h4, .ref h5, .ref h6, .ref h7, .ref h8, .ref h9, .ref h10, .ref h11, .ref h12, .ref h13, .ref h14, .ref h15, .ref h16, .ref h17, .ref h18, .ref h19, .int 0, .ref h20, .ref h21, .ref h22, .ref h23, .int 0, .int 0, .ref h24, .ref h25, .int (-1), .ref h26, .ref h27])), (h1, .inl (K 1, 200, .inl (fun _ => 0)))] sz)) (va_A [(h0, .inr (8, [.int 1, .int 0, .int (-1), .int 0, .int 0, .int (-1), .int 0, .int 0, .int 0, .int 0, .int 0, .ref h1, .ref h2, .ref h3, .ref h4, .ref h5, .ref h6, .ref h7, .ref h8, .ref h9, .ref h10, .ref h11, .ref h12, .ref h13, .ref h14, .ref h15, .ref h16, .ref h17, .ref h18, .ref h19, .int 0, .ref h20, .ref h21, .ref h22, .ref h23, .int 0, .int 0, .ref h24, .ref h25, .int (-1), .ref h26, .ref h27])), (h1, .inl (K 1, 200, .inl (fun _ => 0)))] sz)) 0 0 (va_A [(h0, .inr (8, [.int 1, .int 0, .int (-1), .int 0, .int 0, .int (-1), .int 0, .int 0, .int 0, .int 0, .int 0, .ref h1, .ref h2, .ref h3, .ref h4, .ref h5, .ref h6, .ref h7, .ref h8, .ref h9, .ref h10, .ref h11, .ref h12, .ref h13, .ref h14, .ref h15, .ref h16, .ref h17, .ref h18, .ref h19, .int 0, .ref h20, .ref h21, .ref h22, .ref h23, .int 0, .int 0, .ref h24, .ref h25, .int (-1), .ref h26, .ref h27])), (h1, .inl (K 1, 200, .inl (fun _ => 0)))] sz) := by
  refine Met.ofW (cc := cX11_act) (maxL := 10) (ret := (some .int)) (by decide) rfl ?_
  intro p e s m args below meth c s₁ B hml hv
  obtain ⟨rfl, hsz, hP, hK, hD0, hE⟩ := hv
  have hx := B.exec
  have hb := B.bytes
  have hr := B.returns
  have hts := atoms_spec (ws := v_X11_act_3) B.pre
  have t_ := t_X11_act_3
  have mw : ∀ w ∈ e_X11_act_3, w ∈ v_X11_act_3 := fun w h => List.mem_cons_of_mem _ (List.mem_append_left _ h)
  have hw := fun w (h : w ∈ e_X11_act_3) => hts w (mw w h)
  have iX11 : ∀ w ∈ wsX110, w ∈ v_X11_act_3 := fun w h => List.mem_cons_of_mem _ (List.mem_append_right _ (List.mem_append_left _ h))
  have j_X11_reason_3 : ∀ w ∈ v_X11_reason_3, w ∈ v_X11_act_3 := fun w h => List.mem_cons_of_mem _ (List.mem_append_right _ (List.mem_append_right _ (List.mem_append_left _ h)))
  have hown : s.vm.findClass RX11 = some m.cls := findClass_of_methodNamed B.named
  have hlocks := B.notSynchronized
  subst hsz
  have hD := hD0.self (sz := s.heap.size)
  generalize hAe : va_A [(h0, .inr (8, [.int 1, .int 0, .int (-1), .int 0, .int 0, .int (-1), .int 0, .int 0, .int 0, .int 0, .int 0, .ref h1, .ref h2, .ref h3, .ref h4, .ref h5, .ref h6, .ref h7, .ref h8, .ref h9, .ref h10, .ref h11, .ref h12, .ref h13, .ref h14, .ref h15, .ref h16, .ref h17, .ref h18, .ref h19, .int 0, .ref h20, .ref h21, .ref h22, .ref h23, .int 0, .int 0, .ref h24, .ref h25, .int (-1), .ref h26, .ref h27])), (h1, .inl (K 1, 200, .inl (fun _ => 0)))] s.heap.size = A at hD ⊢
  have hA : ∀ q : Nat, s.heap.size ≤ q → A q := fun q h => by rw [← hAe]; exact Or.inr h
  have hS : va_S A s.heap s.heap [] := va_S.rf
  have hP : va_P G vwCl [(h0, .inr (8, [.int 1, .int 0, .int (-1), .int 0, .int 0, .int (-1), .int 0, .int 0, .int 0, .int 0, .int 0, .ref h1, .ref h2, .ref h3, .ref h4, .ref h5, .ref h6, .ref h7, .ref h8, .ref h9, .ref h10, .ref h11, .ref h12, .ref h13, .ref h14, .ref h15, .ref h16, .ref h17, .ref h18, .ref h19, .int 0, .ref h20, .ref h21, .ref h22, .ref h23, .int 0, .int 0, .ref h24, .ref h25, .int (-1), .ref h26, .ref h27])), (h1, .inl (K 1, 200, .inl (fun _ => 0)))] s.heap := hP
  have hl := lv_entry ([.ref h0, .int 2, .int 0, .int 0, .int 0, .int 0]) (n := 10) (Nat.le_of_ble_eq_true rfl)
  rw [lg_entry_eq]
  generalize (lg_sl ([.ref h0, .int 2, .int 0, .int 0, .int 0, .int 0]) ++ List.replicate (10 - (lg_sl ([.ref h0, .int 2, .int 0, .int 0, .int 0, .int 0])).length) Slot.unset).toArray = ls at hl ⊢
  have hl : lv_has ls 10 [(0, .ref h0), (1, .int 2), (2, .int 0), (3, .int 0), (4, .int 0), (5, .int 0)] := hl
  refine lv_aload_n hx hb dX11_act_0 rfl (lv_at hl 0 rfl) ?_
  refine lv_iload_n hx hb dX11_act_1 rfl (lv_at hl 1 rfl) ?_
  refine lv_iload_n hx hb dX11_act_2 rfl (lv_at hl 2 rfl) ?_
  refine lv_iload_n hx hb dX11_act_3 rfl (lv_at hl 3 rfl) ?_
  refine lv_iload hx hb dX11_act_4 (lv_at hl 4 rfl) ?_
  refine lv_iload hx hb dX11_act_6 (lv_at hl 5 rfl) ?_
  have hPc := hP.sub (ws' := [(h0, .inr (8, [.int 1, .int 0, .int (-1), .int 0, .int 0, .int (-1), .int 0, .int 0, .int 0, .int 0, .int 0, .ref h1, .ref h2, .ref h3, .ref h4, .ref h5, .ref h6, .ref h7, .ref h8, .ref h9, .ref h10, .ref h11, .ref h12, .ref h13, .ref h14, .ref h15, .ref h16, .ref h17, .ref h18, .ref h19, .int 0, .ref h20, .ref h21, .ref h22, .ref h23, .int 0, .int 0, .ref h24, .ref h25, .int (-1), .ref h26, .ref h27])), (h1, .inl (K 1, 200, .inl (fun _ => 0)))]) [0, 1] rfl
  have hDc := hD.sub (ws' := [(h0, .inr (8, [.int 1, .int 0, .int (-1), .int 0, .int 0, .int (-1), .int 0, .int 0, .int 0, .int 0, .int 0, .ref h1, .ref h2, .ref h3, .ref h4, .ref h5, .ref h6, .ref h7, .ref h8, .ref h9, .ref h10, .ref h11, .ref h12, .ref h13, .ref h14, .ref h15, .ref h16, .ref h17, .ref h18, .ref h19, .int 0, .ref h20, .ref h21, .ref h22, .ref h23, .int 0, .int 0, .ref h24, .ref h25, .int (-1), .ref h26, .ref h27])), (h1, .inl (K 1, 200, .inl (fun _ => 0)))]) [0, 1] (by decide) rfl
  refine wGoi (wc := [(h0, .inr (8, [.int 1, .int 0, .int (-1), .int 0, .int 0, .int (-1), .int 0, .int 0, .int 0, .int 0, .int 0, .ref h1, .ref h2, .ref h3, .ref h4, .ref h5, .ref h6, .ref h7, .ref h8, .ref h9, .ref h10, .ref h11, .ref h12, .ref h13, .ref h14, .ref h15, .ref h16, .ref h17, .ref h18, .ref h19, .int 0, .ref h20, .ref h21, .ref h22, .ref h23, .int 0, .int 0, .ref h24, .ref h25, .int (-1), .ref h26, .ref h27])), (h1, .inl (K 1, 200, .inl (fun _ => 0)))]) (wr := []) (va_runV (As := [.int 2, .int 0, .int 0, .int 0, .int 0]) (rest := []) ⟨hx, hb, hml, hown, hts⟩ (m_X11_reason_3 l G K h0 h1 h2 h3 h4 h5 h6 h7 h8 h9 h10 h11 h12 h13 h14 h15 h16 h17 h18 h19 h20 h21 h22 h23 h24 h25 h26 h27 _) (cwV 5 hts (wGV t_ (mw (.methodLink RX11 196 yX11_reason) (List.mem_of_getElem? (i := 0) rfl)) (mw (.instanceMethod yX11_reason) (List.mem_of_getElem? (i := 1) rfl)) (mw (.selects RX11 yX11_reason yX11_reason) (List.mem_of_getElem? (i := 2) rfl)) (mw (.initialized RX11) (List.mem_of_getElem? (i := 3) rfl)) j_X11_reason_3) rfl rfl rfl (by decide +kernel) ⟨Nat.le_of_ble_eq_true rfl, Nat.le_of_ble_eq_true rfl⟩) (wPV hK hE hPc hDc 8 0 rfl rfl) rfl rfl hl.1 rfl (lv_room (Nat.le_of_ble_eq_true rfl)) dX11_act_8 ⟨Nat.le_of_ble_eq_true rfl, Nat.le_of_ble_eq_true rfl⟩) hP hD hS hA [0, 1] [] rfl rfl rfl (by decide) (fun r u H locs hw hP hD hS => ?_)
  rcases hw with ⟨rfl, rfl⟩
  have hP : va_P G vwCl [(h0, .inr (8, [.int 1, .int 0, .int (-1), .int 0, .int 0, .int (-1), .int 0, .int 0, .int 0, .int 0, .int 0, .ref h1, .ref h2, .ref h3, .ref h4, .ref h5, .ref h6, .ref h7, .ref h8, .ref h9, .ref h10, .ref h11, .ref h12, .ref h13, .ref h14, .ref h15, .ref h16, .ref h17, .ref h18, .ref h19, .int 0, .ref h20, .ref h21, .ref h22, .ref h23, .int 0, .int 0, .ref h24, .ref h25, .int (-1), .ref h26, .ref h27])), (h1, .inl (K 1, 200, .inl (fun _ => 0)))] _ := hP
  have hD : va_D A [(h0, .inr (8, [.int 1, .int 0, .int (-1), .int 0, .int 0, .int (-1), .int 0, .int 0, .int 0, .int 0, .int 0, .ref h1, .ref h2, .ref h3, .ref h4, .ref h5, .ref h6, .ref h7, .ref h8, .ref h9, .ref h10, .ref h11, .ref h12, .ref h13, .ref h14, .ref h15, .ref h16, .ref h17, .ref h18, .ref h19, .int 0, .ref h20, .ref h21, .ref h22, .ref h23, .int 0, .int 0, .ref h24, .ref h25, .int (-1), .ref h26, .ref h27])), (h1, .inl (K 1, 200, .inl (fun _ => 0)))] := hD
  refine lv_istore (lv' := [(6, .int 8), (0, .ref h0), (1, .int 2), (2, .int 0), (3, .int 0), (4, .int 0), (5, .int 0)]) hx hb dX11_act_11 hl (by decide) rfl (fun ls hl => ?_)
  refine lv_iload hx hb dX11_act_13 (lv_at hl 0 rfl) ?_
  refine lv_if_ne (tgt := 32) hx hb dX11_act_15 (by decide) (fun _ => ?_) (fun c_ => absurd c_ (by decide))
  refine lv_aload_n hx hb dX11_act_32 rfl (lv_at hl 1 rfl) ?_
  refine lv_iload hx hb dX11_act_33 (lv_at hl 0 rfl) ?_
  refine va_put (D := G) (ci := 8) (v := .int 8) (ty := .int) (C := RX11) (T := TX11) (N := 42) hx hb hts iX11 tyX11 tyX11_ok nmX11 hown hK hP hD hS 0 rfl rfl 10 (by decide) (hw (.fieldLink RX11 127 "MotionFloorModel$Hall" "why" "I") (List.mem_of_getElem? (i := 4) rfl)) (fun _ h9 => h9) rfl (by decide +kernel) rfl rfl (Nat.le_of_ble_eq_true rfl) dX11_act_35 (fun H locs hP hD hS => ?_)
  have hP : va_P G vwCl [(h0, .inr (8, [.int 1, .int 0, .int (-1), .int 0, .int 0, .int (-1), .int 0, .int 0, .int 0, .int 0, .int 8, .ref h1, .ref h2, .ref h3, .ref h4, .ref h5, .ref h6, .ref h7, .ref h8, .ref h9, .ref h10, .ref h11, .ref h12, .ref h13, .ref h14, .ref h15, .ref h16, .ref h17, .ref h18, .ref h19, .int 0, .ref h20, .ref h21, .ref h22, .ref h23, .int 0, .int 0, .ref h24, .ref h25, .int (-1), .ref h26, .ref h27])), (h1, .inl (K 1, 200, .inl (fun _ => 0)))] _ := hP
  have hD : va_D A [(h0, .inr (8, [.int 1, .int 0, .int (-1), .int 0, .int 0, .int (-1), .int 0, .int 0, .int 0, .int 0, .int 8, .ref h1, .ref h2, .ref h3, .ref h4, .ref h5, .ref h6, .ref h7, .ref h8, .ref h9, .ref h10, .ref h11, .ref h12, .ref h13, .ref h14, .ref h15, .ref h16, .ref h17, .ref h18, .ref h19, .int 0, .ref h20, .ref h21, .ref h22, .ref h23, .int 0, .int 0, .ref h24, .ref h25, .int (-1), .ref h26, .ref h27])), (h1, .inl (K 1, 200, .inl (fun _ => 0)))] := hD
  refine lv_iload hx hb dX11_act_38 (lv_at hl 0 rfl) ?_
  refine lv_if_le (tgt := 47) hx hb dX11_act_40 (by decide) (fun c_ => absurd c_ (by decide)) (fun _ => ?_)
  refine lv_iload hx hb dX11_act_43 (lv_at hl 0 rfl) ?_
  refine lv_ineg hx hb dX11_act_45 ?_
  refine wTop (v1 := .int (-8)) (congrArg Value.int (by decide)) ?_
  have hP9 : va_P G vwCl [(h0, .inr (8, [.int 1, .int 0, .int (-1), .int 0, .int 0, .int (-1), .int 0, .int 0, .int 0, .int 0, .int 8, .ref h1, .ref h2, .ref h3, .ref h4, .ref h5, .ref h6, .ref h7, .ref h8, .ref h9, .ref h10, .ref h11, .ref h12, .ref h13, .ref h14, .ref h15, .ref h16, .ref h17, .ref h18, .ref h19, .int 0, .ref h20, .ref h21, .ref h22, .ref h23, .int 0, .int 0, .ref h24, .ref h25, .int (-1), .ref h26, .ref h27])), (h1, .inl (K 1, 200, .inl (fun _ => 0)))] _ := hP
  have hD9 : va_D A [(h0, .inr (8, [.int 1, .int 0, .int (-1), .int 0, .int 0, .int (-1), .int 0, .int 0, .int 0, .int 0, .int 8, .ref h1, .ref h2, .ref h3, .ref h4, .ref h5, .ref h6, .ref h7, .ref h8, .ref h9, .ref h10, .ref h11, .ref h12, .ref h13, .ref h14, .ref h15, .ref h16, .ref h17, .ref h18, .ref h19, .int 0, .ref h20, .ref h21, .ref h22, .ref h23, .int 0, .int 0, .ref h24, .ref h25, .int (-1), .ref h26, .ref h27])), (h1, .inl (K 1, 200, .inl (fun _ => 0)))] := hD
  exact W.iret (v := (-8)) hx hb hr (fun t ht hW => ⟨⟨(-8), _, rfl, ⟨rfl, rfl⟩, by rw [ht]; exact hP9, hD9⟩, hS.F ht⟩) hS.2.2 dX11_act_46
def e_X12_gone_1 : List Cond := [.fieldLink RX12 16 "MotionFloorModel" "hall" "LMotionFloorModel$Hall;", .methodLink RX12 40 yX11_act, .instanceMethod yX11_act, .selects RX11 yX11_act yX11_act, .initialized RX11]
def v_X12_gone_1 : List Cond := .code yX12_gone cX12_gone 2 (some .int) :: (e_X12_gone_1 ++ (wsX120 ++ (v_X11_act_3 ++ [])))
theorem te_X12_gone_1 : GoodIn lw_tbl e_X12_gone_1 := wGc z225 (wGc z368 (wGc z367 (wGc z366 (wGc z227 (wG0)))))
theorem t_X12_gone_1 : GoodIn lw_tbl v_X12_gone_1 := wGc z380 (wGa te_X12_gone_1 (wGa zcX12 (wGa t_X11_act_3 (wG0))))
set_option maxHeartbeats 4000000 in
set_option maxRecDepth 100000 in
theorem m_X12_gone_1 (l : Launch) (G : va_G) (K : Nat → ClassId) (h0 h1 h2 h3 h4 h5 h6 h7 h8 h9 h10 h11 h12 h13 h14 h15 h16 h17 h18 h19 h20 h21 h22 h23 h24 h25 h26 h27 h28 h29 h30 h31 h32 h33 : Nat) (sz : Nat) : Met l yX12_gone v_X12_gone_1 ({ frames := 4, cells := 0, slots := 0, locals := 97 }) (va_Pc [.ref h0, .int 0] (wS G K sz [(h0, .inr (9, [.ref h1, .ref h3, .ref h4, .ref h5, .ref h6, .ref h7, .int 0])), (h1, .inr (8, [.int 1, .int 0, .int (-1), .int 0, .int 0, .int (-1), .int 0, .int 0, .int 0, .int 0, .int 0, .ref h2, .ref h8, .ref h9, .ref h10, .ref h11, .ref h12, .ref h13, .ref h14, .ref h15, .ref h16, .ref h17, .ref h18, .ref h19, .ref h20, .ref h21, .ref h22, .ref h23, .ref h24, .ref h25, .int 0, .ref h26, .ref h27, .ref h28, .ref h29, .int 0, .int 0, .ref h30, .ref h31, .int (-1), .ref h32, .ref h33])), (h2, .inl (K 1, 200, .inl (fun _ => 0)))])) (va_Qi (fun (r : Int32) (u : va_W) => ((-8) = r ∧ u = [(h0, .inr (9, [.ref h1, .ref h3, .ref h4, .ref h5, .ref h6, .ref h7, .int 0])), (h1, .inr (8, [.int 1, .int 0, .int (-1), .int 0, .int 0, .int (-1), .int 0, .int 0, .int 0, .int 0, .int 8, .ref h2, .ref h8, .ref h9, .ref h10, .ref h11, .ref h12, .ref h13, .ref h14, .ref h15, .ref h16, .ref h17, .ref h18, .ref h19, .ref h20, .ref h21, .ref h22, .ref h23, .ref h24, .ref h25, .int 0, .ref h26, .ref h27, .ref h28, .ref h29, .int 0, .int 0, .ref h30, .ref h31, .int (-1), .ref h32, .ref h33])), (h2, .inl (K 1, 200, .inl (fun _ => 0)))])) (wB G (va_A [(h0, .inr (9, [.ref h1, .ref h3, .ref h4, .ref h5, .ref h6, .ref h7, .int 0])), (h1, .inr (8, [.int 1, .int 0, .int (-1), .int 0, .int 0, .int (-1), .int 0, .int 0, .int 0, .int 0, .int 0, .ref h2, .ref h8, .ref h9, .ref h10, .ref h11, .ref h12, .ref h13, .ref h14, .ref h15, .ref h16, .ref h17, .ref h18, .ref h19, .ref h20, .ref h21, .ref h22, .ref h23, .ref h24, .ref h25, .int 0, .ref h26, .ref h27, .ref h28, .ref h29, .int 0, .int 0, .ref h30, .ref h31, .int (-1), .ref h32, .ref h33])), (h2, .inl (K 1, 200, .inl (fun _ => 0)))] sz)) (va_A [(h0, .inr (9, [.ref h1, .ref h3, .ref h4, .ref h5, .ref h6, .ref h7, .int 0])), (h1, .inr (8, [.int 1, .int 0, .int (-1), .int 0, .int 0, .int (-1), .int 0, .int 0, .int 0, .int 0, .int 0, .ref h2, .ref h8, .ref h9, .ref h10, .ref h11, .ref h12, .ref h13, .ref h14, .ref h15, .ref h16, .ref h17, .ref h18, .ref h19, .ref h20, .ref h21, .ref h22, .ref h23, .ref h24, .ref h25, .int 0, .ref h26, .ref h27, .ref h28, .ref h29, .int 0, .int 0, .ref h30, .ref h31, .int (-1), .ref h32, .ref h33])), (h2, .inl (K 1, 200, .inl (fun _ => 0)))] sz)) 0 0 (va_A [(h0, .inr (9, [.ref h1, .ref h3, .ref h4, .ref h5, .ref h6, .ref h7, .int 0])), (h1, .inr (8, [.int 1, .int 0, .int (-1), .int 0, .int 0, .int (-1), .int 0, .int 0, .int 0, .int 0, .int 0, .ref h2, .ref h8, .ref h9, .ref h10, .ref h11, .ref h12, .ref h13, .ref h14, .ref h15, .ref h16, .ref h17, .ref h18, .ref h19, .ref h20, .ref h21, .ref h22, .ref h23, .ref h24, .ref h25, .int 0, .ref h26, .ref h27, .ref h28, .ref h29, .int 0, .int 0, .ref h30, .ref h31, .int (-1), .ref h32, .ref h33])), (h2, .inl (K 1, 200, .inl (fun _ => 0)))] sz) := by
  refine Met.ofW (cc := cX12_gone) (maxL := 2) (ret := (some .int)) (by decide) rfl ?_
  intro p e s m args below meth c s₁ B hml hv
  obtain ⟨rfl, hsz, hP, hK, hD0, hE⟩ := hv
  have hx := B.exec
  have hb := B.bytes
  have hr := B.returns
  have hts := atoms_spec (ws := v_X12_gone_1) B.pre
  have t_ := t_X12_gone_1
  have mw : ∀ w ∈ e_X12_gone_1, w ∈ v_X12_gone_1 := fun w h => List.mem_cons_of_mem _ (List.mem_append_left _ h)
  have hw := fun w (h : w ∈ e_X12_gone_1) => hts w (mw w h)
  have iX12 : ∀ w ∈ wsX120, w ∈ v_X12_gone_1 := fun w h => List.mem_cons_of_mem _ (List.mem_append_right _ (List.mem_append_left _ h))
  have j_X11_act_3 : ∀ w ∈ v_X11_act_3, w ∈ v_X12_gone_1 := fun w h => List.mem_cons_of_mem _ (List.mem_append_right _ (List.mem_append_right _ (List.mem_append_left _ h)))
  have hown : s.vm.findClass RX12 = some m.cls := findClass_of_methodNamed B.named
  have hlocks := B.notSynchronized
  subst hsz
  have hD := hD0.self (sz := s.heap.size)
  generalize hAe : va_A [(h0, .inr (9, [.ref h1, .ref h3, .ref h4, .ref h5, .ref h6, .ref h7, .int 0])), (h1, .inr (8, [.int 1, .int 0, .int (-1), .int 0, .int 0, .int (-1), .int 0, .int 0, .int 0, .int 0, .int 0, .ref h2, .ref h8, .ref h9, .ref h10, .ref h11, .ref h12, .ref h13, .ref h14, .ref h15, .ref h16, .ref h17, .ref h18, .ref h19, .ref h20, .ref h21, .ref h22, .ref h23, .ref h24, .ref h25, .int 0, .ref h26, .ref h27, .ref h28, .ref h29, .int 0, .int 0, .ref h30, .ref h31, .int (-1), .ref h32, .ref h33])), (h2, .inl (K 1, 200, .inl (fun _ => 0)))] s.heap.size = A at hD ⊢
  have hA : ∀ q : Nat, s.heap.size ≤ q → A q := fun q h => by rw [← hAe]; exact Or.inr h
  have hS : va_S A s.heap s.heap [] := va_S.rf
  have hP : va_P G vwCl [(h0, .inr (9, [.ref h1, .ref h3, .ref h4, .ref h5, .ref h6, .ref h7, .int 0])), (h1, .inr (8, [.int 1, .int 0, .int (-1), .int 0, .int 0, .int (-1), .int 0, .int 0, .int 0, .int 0, .int 0, .ref h2, .ref h8, .ref h9, .ref h10, .ref h11, .ref h12, .ref h13, .ref h14, .ref h15, .ref h16, .ref h17, .ref h18, .ref h19, .ref h20, .ref h21, .ref h22, .ref h23, .ref h24, .ref h25, .int 0, .ref h26, .ref h27, .ref h28, .ref h29, .int 0, .int 0, .ref h30, .ref h31, .int (-1), .ref h32, .ref h33])), (h2, .inl (K 1, 200, .inl (fun _ => 0)))] s.heap := hP
  have hl := lv_entry ([.ref h0, .int 0]) (n := 2) (Nat.le_of_ble_eq_true rfl)
  rw [lg_entry_eq]
  generalize (lg_sl ([.ref h0, .int 0]) ++ List.replicate (2 - (lg_sl ([.ref h0, .int 0])).length) Slot.unset).toArray = ls at hl ⊢
  have hl : lv_has ls 2 [(0, .ref h0), (1, .int 0)] := hl
  refine lv_aload_n hx hb dX12_gone_0 rfl (lv_at hl 0 rfl) ?_
  refine va_get (D := G) (ci := 9) (v := .ref h1) (C := RX12) (T := TX12) (N := 7) hx hb hts iX12 hown hK hP 0 rfl rfl 0 (by decide) (hw (.fieldLink RX12 16 "MotionFloorModel" "hall" "LMotionFloorModel$Hall;") (List.mem_of_getElem? (i := 0) rfl)) (fun _ h9 => h9) rfl dX12_gone_1 ?_
  refine lv_iconst (v := 2) hx hb dX12_gone_4 (by decide) ?_
  refine lv_iload_n hx hb dX12_gone_5 rfl (lv_at hl 1 rfl) ?_
  refine lv_iconst (v := 0) hx hb dX12_gone_6 (by decide) ?_
  refine lv_iconst (v := 0) hx hb dX12_gone_7 (by decide) ?_
  refine lv_iconst (v := 0) hx hb dX12_gone_8 (by decide) ?_
  have hPc := hP.sub (ws' := [(h1, .inr (8, [.int 1, .int 0, .int (-1), .int 0, .int 0, .int (-1), .int 0, .int 0, .int 0, .int 0, .int 0, .ref h2, .ref h8, .ref h9, .ref h10, .ref h11, .ref h12, .ref h13, .ref h14, .ref h15, .ref h16, .ref h17, .ref h18, .ref h19, .ref h20, .ref h21, .ref h22, .ref h23, .ref h24, .ref h25, .int 0, .ref h26, .ref h27, .ref h28, .ref h29, .int 0, .int 0, .ref h30, .ref h31, .int (-1), .ref h32, .ref h33])), (h2, .inl (K 1, 200, .inl (fun _ => 0)))]) [1, 2] rfl
  have hDc := hD.sub (ws' := [(h1, .inr (8, [.int 1, .int 0, .int (-1), .int 0, .int 0, .int (-1), .int 0, .int 0, .int 0, .int 0, .int 0, .ref h2, .ref h8, .ref h9, .ref h10, .ref h11, .ref h12, .ref h13, .ref h14, .ref h15, .ref h16, .ref h17, .ref h18, .ref h19, .ref h20, .ref h21, .ref h22, .ref h23, .ref h24, .ref h25, .int 0, .ref h26, .ref h27, .ref h28, .ref h29, .int 0, .int 0, .ref h30, .ref h31, .int (-1), .ref h32, .ref h33])), (h2, .inl (K 1, 200, .inl (fun _ => 0)))]) [1, 2] (by decide) rfl
  refine wGoi (wc := [(h1, .inr (8, [.int 1, .int 0, .int (-1), .int 0, .int 0, .int (-1), .int 0, .int 0, .int 0, .int 0, .int 0, .ref h2, .ref h8, .ref h9, .ref h10, .ref h11, .ref h12, .ref h13, .ref h14, .ref h15, .ref h16, .ref h17, .ref h18, .ref h19, .ref h20, .ref h21, .ref h22, .ref h23, .ref h24, .ref h25, .int 0, .ref h26, .ref h27, .ref h28, .ref h29, .int 0, .int 0, .ref h30, .ref h31, .int (-1), .ref h32, .ref h33])), (h2, .inl (K 1, 200, .inl (fun _ => 0)))]) (wr := [(h0, .inr (9, [.ref h1, .ref h3, .ref h4, .ref h5, .ref h6, .ref h7, .int 0]))]) (va_runV (As := [.int 2, .int 0, .int 0, .int 0, .int 0]) (rest := []) ⟨hx, hb, hml, hown, hts⟩ (m_X11_act_3 l G K h1 h2 h8 h9 h10 h11 h12 h13 h14 h15 h16 h17 h18 h19 h20 h21 h22 h23 h24 h25 h26 h27 h28 h29 h30 h31 h32 h33 _) (cwV 5 hts (wGV t_ (mw (.methodLink RX12 40 yX11_act) (List.mem_of_getElem? (i := 1) rfl)) (mw (.instanceMethod yX11_act) (List.mem_of_getElem? (i := 2) rfl)) (mw (.selects RX11 yX11_act yX11_act) (List.mem_of_getElem? (i := 3) rfl)) (mw (.initialized RX11) (List.mem_of_getElem? (i := 4) rfl)) j_X11_act_3) rfl rfl rfl (by decide +kernel) ⟨Nat.le_of_ble_eq_true rfl, Nat.le_of_ble_eq_true rfl⟩) (wPV hK hE hPc hDc 8 0 rfl rfl) rfl rfl hl.1 rfl (lv_room (Nat.le_of_ble_eq_true rfl)) dX12_gone_9 ⟨Nat.le_of_ble_eq_true rfl, Nat.le_of_ble_eq_true rfl⟩) hP hD hS hA [1, 2] [0] rfl rfl rfl (by decide) (fun r u H locs hw hP hD hS => ?_)
  rcases hw with ⟨rfl, rfl⟩
  have hP : va_P G vwCl [(h0, .inr (9, [.ref h1, .ref h3, .ref h4, .ref h5, .ref h6, .ref h7, .int 0])), (h1, .inr (8, [.int 1, .int 0, .int (-1), .int 0, .int 0, .int (-1), .int 0, .int 0, .int 0, .int 0, .int 8, .ref h2, .ref h8, .ref h9, .ref h10, .ref h11, .ref h12, .ref h13, .ref h14, .ref h15, .ref h16, .ref h17, .ref h18, .ref h19, .ref h20, .ref h21, .ref h22, .ref h23, .ref h24, .ref h25, .int 0, .ref h26, .ref h27, .ref h28, .ref h29, .int 0, .int 0, .ref h30, .ref h31, .int (-1), .ref h32, .ref h33])), (h2, .inl (K 1, 200, .inl (fun _ => 0)))] _ := hP
  have hD : va_D A [(h0, .inr (9, [.ref h1, .ref h3, .ref h4, .ref h5, .ref h6, .ref h7, .int 0])), (h1, .inr (8, [.int 1, .int 0, .int (-1), .int 0, .int 0, .int (-1), .int 0, .int 0, .int 0, .int 0, .int 8, .ref h2, .ref h8, .ref h9, .ref h10, .ref h11, .ref h12, .ref h13, .ref h14, .ref h15, .ref h16, .ref h17, .ref h18, .ref h19, .ref h20, .ref h21, .ref h22, .ref h23, .ref h24, .ref h25, .int 0, .ref h26, .ref h27, .ref h28, .ref h29, .int 0, .int 0, .ref h30, .ref h31, .int (-1), .ref h32, .ref h33])), (h2, .inl (K 1, 200, .inl (fun _ => 0)))] := hD
  have hP9 : va_P G vwCl [(h0, .inr (9, [.ref h1, .ref h3, .ref h4, .ref h5, .ref h6, .ref h7, .int 0])), (h1, .inr (8, [.int 1, .int 0, .int (-1), .int 0, .int 0, .int (-1), .int 0, .int 0, .int 0, .int 0, .int 8, .ref h2, .ref h8, .ref h9, .ref h10, .ref h11, .ref h12, .ref h13, .ref h14, .ref h15, .ref h16, .ref h17, .ref h18, .ref h19, .ref h20, .ref h21, .ref h22, .ref h23, .ref h24, .ref h25, .int 0, .ref h26, .ref h27, .ref h28, .ref h29, .int 0, .int 0, .ref h30, .ref h31, .int (-1), .ref h32, .ref h33])), (h2, .inl (K 1, 200, .inl (fun _ => 0)))] _ := hP
  have hD9 : va_D A [(h0, .inr (9, [.ref h1, .ref h3, .ref h4, .ref h5, .ref h6, .ref h7, .int 0])), (h1, .inr (8, [.int 1, .int 0, .int (-1), .int 0, .int 0, .int (-1), .int 0, .int 0, .int 0, .int 0, .int 8, .ref h2, .ref h8, .ref h9, .ref h10, .ref h11, .ref h12, .ref h13, .ref h14, .ref h15, .ref h16, .ref h17, .ref h18, .ref h19, .ref h20, .ref h21, .ref h22, .ref h23, .ref h24, .ref h25, .int 0, .ref h26, .ref h27, .ref h28, .ref h29, .int 0, .int 0, .ref h30, .ref h31, .int (-1), .ref h32, .ref h33])), (h2, .inl (K 1, 200, .inl (fun _ => 0)))] := hD
  exact W.iret (v := (-8)) hx hb hr (fun t ht hW => ⟨⟨(-8), _, rfl, ⟨rfl, rfl⟩, by rw [ht]; exact hP9, hD9⟩, hS.F ht⟩) hS.2.2 dX12_gone_12
def e_X8_againstSetting_0 : List Cond := []
def v_X8_againstSetting_0 : List Cond := .code yX8_againstSetting cX8_againstSetting 2 (some .int) :: (e_X8_againstSetting_0 ++ [])
theorem te_X8_againstSetting_0 : GoodIn lw_tbl e_X8_againstSetting_0 := wG0
theorem t_X8_againstSetting_0 : GoodIn lw_tbl v_X8_againstSetting_0 := wGc z387 (wGa te_X8_againstSetting_0 (wG0))
set_option maxHeartbeats 4000000 in
set_option maxRecDepth 100000 in
theorem m_X8_againstSetting_0 (l : Launch) (G : va_G) (K : Nat → ClassId) (h0 : Nat) (sz : Nat) : Met l yX8_againstSetting v_X8_againstSetting_0 ({ frames := 0, cells := 0, slots := 0, locals := 0 }) (va_Pc [.ref h0, .int 0] (wS G K sz [])) (va_Qi (fun (r : Int32) (u : va_W) => (9 = r ∧ u = [])) (wB G (va_A [] sz)) (va_A [] sz)) 0 0 (va_A [] sz) := by
  refine Met.ofW (cc := cX8_againstSetting) (maxL := 2) (ret := (some .int)) (by decide) rfl ?_
  intro p e s m args below meth c s₁ B hml hv
  obtain ⟨rfl, hsz, hP, hK, hD0, hE⟩ := hv
  have hx := B.exec
  have hb := B.bytes
  have hr := B.returns
  have hts := atoms_spec (ws := v_X8_againstSetting_0) B.pre
  have t_ := t_X8_againstSetting_0
  have mw : ∀ w ∈ e_X8_againstSetting_0, w ∈ v_X8_againstSetting_0 := fun w h => List.mem_cons_of_mem _ (List.mem_append_left _ h)
  have hw := fun w (h : w ∈ e_X8_againstSetting_0) => hts w (mw w h)
  have hown : s.vm.findClass RX8 = some m.cls := findClass_of_methodNamed B.named
  have hlocks := B.notSynchronized
  subst hsz
  have hD := hD0.self (sz := s.heap.size)
  generalize hAe : va_A [] s.heap.size = A at hD ⊢
  have hA : ∀ q : Nat, s.heap.size ≤ q → A q := fun q h => by rw [← hAe]; exact Or.inr h
  have hS : va_S A s.heap s.heap [] := va_S.rf
  have hP : va_P G vwCl [] s.heap := hP
  have hl := lv_entry ([.ref h0, .int 0]) (n := 2) (Nat.le_of_ble_eq_true rfl)
  rw [lg_entry_eq]
  generalize (lg_sl ([.ref h0, .int 0]) ++ List.replicate (2 - (lg_sl ([.ref h0, .int 0])).length) Slot.unset).toArray = ls at hl ⊢
  have hl : lv_has ls 2 [(0, .ref h0), (1, .int 0)] := hl
  refine lv_iload_n hx hb dX8_againstSetting_0 rfl (lv_at hl 1 rfl) ?_
  refine lv_if_ne (tgt := 7) hx hb dX8_againstSetting_1 (by decide) (fun c_ => absurd c_ (by decide)) (fun _ => ?_)
  refine lv_bipush (v := 9) hx hb dX8_againstSetting_4 (by decide) ?_
  have hP9 : va_P G vwCl [] _ := hP
  have hD9 : va_D A [] := hD
  exact W.iret (v := 9) hx hb hr (fun t ht hW => ⟨⟨9, _, rfl, ⟨rfl, rfl⟩, by rw [ht]; exact hP9, hD9⟩, hS.F ht⟩) hS.2.2 dX8_againstSetting_6
def e_X8_againstSetting_1 : List Cond := [.fieldLink RX8 86 "MotionFloor$Assembly" "pending" "LMotionFloor$Pile;", .fieldLink RX8 117 "MotionFloor$Pile" "size" "I"]
def v_X8_againstSetting_1 : List Cond := .code yX8_againstSetting cX8_againstSetting 2 (some .int) :: (e_X8_againstSetting_1 ++ (wsX00 ++ (wsX50 ++ [])))
theorem te_X8_againstSetting_1 : GoodIn lw_tbl e_X8_againstSetting_1 := wGc z389 (wGc z388 (wG0))
theorem t_X8_againstSetting_1 : GoodIn lw_tbl v_X8_againstSetting_1 := wGc z387 (wGa te_X8_againstSetting_1 (wGa zcX0 (wGa zcX5 (wG0))))
set_option maxHeartbeats 4000000 in
set_option maxRecDepth 100000 in
theorem m_X8_againstSetting_1 (l : Launch) (G : va_G) (K : Nat → ClassId) (h0 h1 h2 h3 h4 h5 h6 h7 h8 : Nat) (sz : Nat) : Met l yX8_againstSetting v_X8_againstSetting_1 ({ frames := 0, cells := 0, slots := 0, locals := 0 }) (va_Pc [.ref h0, .int 1] (wS G K sz [(h0, .inr (0, [.ref h2, .ref h1, .ref h3, .ref h4, .ref h5, .ref h6, .ref h7, .int 0, .int 0, .int 0, .null])), (h1, .inr (4, [.ref h8, .int 0]))])) (va_Qi (fun (r : Int32) (u : va_W) => (0 = r ∧ u = [(h0, .inr (0, [.ref h2, .ref h1, .ref h3, .ref h4, .ref h5, .ref h6, .ref h7, .int 0, .int 0, .int 0, .null])), (h1, .inr (4, [.ref h8, .int 0]))])) (wB G (va_A [(h0, .inr (0, [.ref h2, .ref h1, .ref h3, .ref h4, .ref h5, .ref h6, .ref h7, .int 0, .int 0, .int 0, .null])), (h1, .inr (4, [.ref h8, .int 0]))] sz)) (va_A [(h0, .inr (0, [.ref h2, .ref h1, .ref h3, .ref h4, .ref h5, .ref h6, .ref h7, .int 0, .int 0, .int 0, .null])), (h1, .inr (4, [.ref h8, .int 0]))] sz)) 0 0 (va_A [(h0, .inr (0, [.ref h2, .ref h1, .ref h3, .ref h4, .ref h5, .ref h6, .ref h7, .int 0, .int 0, .int 0, .null])), (h1, .inr (4, [.ref h8, .int 0]))] sz) := by
  refine Met.ofW (cc := cX8_againstSetting) (maxL := 2) (ret := (some .int)) (by decide) rfl ?_
  intro p e s m args below meth c s₁ B hml hv
  obtain ⟨rfl, hsz, hP, hK, hD0, hE⟩ := hv
  have hx := B.exec
  have hb := B.bytes
  have hr := B.returns
  have hts := atoms_spec (ws := v_X8_againstSetting_1) B.pre
  have t_ := t_X8_againstSetting_1
  have mw : ∀ w ∈ e_X8_againstSetting_1, w ∈ v_X8_againstSetting_1 := fun w h => List.mem_cons_of_mem _ (List.mem_append_left _ h)
  have hw := fun w (h : w ∈ e_X8_againstSetting_1) => hts w (mw w h)
  have iX0 : ∀ w ∈ wsX00, w ∈ v_X8_againstSetting_1 := fun w h => List.mem_cons_of_mem _ (List.mem_append_right _ (List.mem_append_left _ h))
  have iX5 : ∀ w ∈ wsX50, w ∈ v_X8_againstSetting_1 := fun w h => List.mem_cons_of_mem _ (List.mem_append_right _ (List.mem_append_right _ (List.mem_append_left _ h)))
  have hown : s.vm.findClass RX8 = some m.cls := findClass_of_methodNamed B.named
  have hlocks := B.notSynchronized
  subst hsz
  have hD := hD0.self (sz := s.heap.size)
  generalize hAe : va_A [(h0, .inr (0, [.ref h2, .ref h1, .ref h3, .ref h4, .ref h5, .ref h6, .ref h7, .int 0, .int 0, .int 0, .null])), (h1, .inr (4, [.ref h8, .int 0]))] s.heap.size = A at hD ⊢
  have hA : ∀ q : Nat, s.heap.size ≤ q → A q := fun q h => by rw [← hAe]; exact Or.inr h
  have hS : va_S A s.heap s.heap [] := va_S.rf
  have hP : va_P G vwCl [(h0, .inr (0, [.ref h2, .ref h1, .ref h3, .ref h4, .ref h5, .ref h6, .ref h7, .int 0, .int 0, .int 0, .null])), (h1, .inr (4, [.ref h8, .int 0]))] s.heap := hP
  have hl := lv_entry ([.ref h0, .int 1]) (n := 2) (Nat.le_of_ble_eq_true rfl)
  rw [lg_entry_eq]
  generalize (lg_sl ([.ref h0, .int 1]) ++ List.replicate (2 - (lg_sl ([.ref h0, .int 1])).length) Slot.unset).toArray = ls at hl ⊢
  have hl : lv_has ls 2 [(0, .ref h0), (1, .int 1)] := hl
  refine lv_iload_n hx hb dX8_againstSetting_0 rfl (lv_at hl 1 rfl) ?_
  refine lv_if_ne (tgt := 7) hx hb dX8_againstSetting_1 (by decide) (fun _ => ?_) (fun c_ => absurd c_ (by decide))
  refine lv_aload_n hx hb dX8_againstSetting_7 rfl (lv_at hl 0 rfl) ?_
  refine va_get (D := G) (ci := 0) (v := .ref h1) (C := RX0) (T := TX0) (N := 11) hx hb hts iX0 hown hK hP 0 rfl rfl 1 (by decide) (hw (.fieldLink RX8 86 "MotionFloor$Assembly" "pending" "LMotionFloor$Pile;") (List.mem_of_getElem? (i := 0) rfl)) (fun _ h9 => h9) rfl dX8_againstSetting_8 ?_
  refine va_get (D := G) (ci := 4) (v := .int 0) (C := RX5) (T := TX5) (N := 2) hx hb hts iX5 hown hK hP 1 rfl rfl 1 (by decide) (hw (.fieldLink RX8 117 "MotionFloor$Pile" "size" "I") (List.mem_of_getElem? (i := 1) rfl)) (fun _ h9 => h9) rfl dX8_againstSetting_11 ?_
  refine lv_if_le (tgt := 22) hx hb dX8_againstSetting_14 (by decide) (fun _ => ?_) (fun c_ => absurd c_ (by decide))
  refine lv_iconst (v := 0) hx hb dX8_againstSetting_22 (by decide) ?_
  have hP9 : va_P G vwCl [(h0, .inr (0, [.ref h2, .ref h1, .ref h3, .ref h4, .ref h5, .ref h6, .ref h7, .int 0, .int 0, .int 0, .null])), (h1, .inr (4, [.ref h8, .int 0]))] _ := hP
  have hD9 : va_D A [(h0, .inr (0, [.ref h2, .ref h1, .ref h3, .ref h4, .ref h5, .ref h6, .ref h7, .int 0, .int 0, .int 0, .null])), (h1, .inr (4, [.ref h8, .int 0]))] := hD
  exact W.iret (v := 0) hx hb hr (fun t ht hW => ⟨⟨0, _, rfl, ⟨rfl, rfl⟩, by rw [ht]; exact hP9, hD9⟩, hS.F ht⟩) hS.2.2 dX8_againstSetting_23
def e_X8_againstOnFloor_2 : List Cond := [.methodLink RX8 45 yX8_againstSetting, .static yX8_againstSetting, .initialized RX8]
def v_X8_againstOnFloor_2 : List Cond := .code yX8_againstOnFloor cX8_againstOnFloor 4 (some .int) :: (e_X8_againstOnFloor_2 ++ (v_X8_againstSetting_0 ++ (v_X8_againstSetting_1 ++ [])))
theorem te_X8_againstOnFloor_2 : GoodIn lw_tbl e_X8_againstOnFloor_2 := wGc z391 (wGc z390 (wGc z297 (wG0)))
theorem t_X8_againstOnFloor_2 : GoodIn lw_tbl v_X8_againstOnFloor_2 := wGc z301 (wGa te_X8_againstOnFloor_2 (wGa t_X8_againstSetting_0 (wGa t_X8_againstSetting_1 (wG0))))
set_option maxHeartbeats 4000000 in
set_option maxRecDepth 100000 in
theorem m_X8_againstOnFloor_2 (l : Launch) (G : va_G) (K : Nat → ClassId) (h0 h1 h2 h3 h4 h5 h6 h7 h8 : Nat) (p0 : Int32) (sz : Nat) : Met l yX8_againstOnFloor v_X8_againstOnFloor_2 ({ frames := 1, cells := 0, slots := 0, locals := 21 }) (va_Pc [.ref h0, .int 3, .int p0, .int 0] (wS G K sz [(h0, .inr (0, [.ref h2, .ref h1, .ref h3, .ref h4, .ref h5, .ref h6, .ref h7, .int 0, .int 0, .int 0, .null])), (h1, .inr (4, [.ref h8, .int 0]))])) (va_Qi (fun (r : Int32) (u : va_W) => ((p0.toInt < 0 ∨ (p0.toInt ≥ 0 ∧ p0.toInt > 200)) ∧ 9 = r ∧ u = [(h0, .inr (0, [.ref h2, .ref h1, .ref h3, .ref h4, .ref h5, .ref h6, .ref h7, .int 0, .int 0, .int 0, .null])), (h1, .inr (4, [.ref h8, .int 0]))]) ∨ (((p0.toInt ≥ 0 ∧ p0.toInt ≤ 200)) ∧ 0 = r ∧ u = [(h0, .inr (0, [.ref h2, .ref h1, .ref h3, .ref h4, .ref h5, .ref h6, .ref h7, .int 0, .int 0, .int 0, .null])), (h1, .inr (4, [.ref h8, .int 0]))])) (wB G (va_A [(h0, .inr (0, [.ref h2, .ref h1, .ref h3, .ref h4, .ref h5, .ref h6, .ref h7, .int 0, .int 0, .int 0, .null])), (h1, .inr (4, [.ref h8, .int 0]))] sz)) (va_A [(h0, .inr (0, [.ref h2, .ref h1, .ref h3, .ref h4, .ref h5, .ref h6, .ref h7, .int 0, .int 0, .int 0, .null])), (h1, .inr (4, [.ref h8, .int 0]))] sz)) 0 0 (va_A [(h0, .inr (0, [.ref h2, .ref h1, .ref h3, .ref h4, .ref h5, .ref h6, .ref h7, .int 0, .int 0, .int 0, .null])), (h1, .inr (4, [.ref h8, .int 0]))] sz) := by
  refine Met.ofW (cc := cX8_againstOnFloor) (maxL := 4) (ret := (some .int)) (by decide) rfl ?_
  intro p e s m args below meth c s₁ B hml hv
  obtain ⟨rfl, hsz, hP, hK, hD0, hE⟩ := hv
  have hx := B.exec
  have hb := B.bytes
  have hr := B.returns
  have hts := atoms_spec (ws := v_X8_againstOnFloor_2) B.pre
  have t_ := t_X8_againstOnFloor_2
  have mw : ∀ w ∈ e_X8_againstOnFloor_2, w ∈ v_X8_againstOnFloor_2 := fun w h => List.mem_cons_of_mem _ (List.mem_append_left _ h)
  have hw := fun w (h : w ∈ e_X8_againstOnFloor_2) => hts w (mw w h)
  have j_X8_againstSetting_0 : ∀ w ∈ v_X8_againstSetting_0, w ∈ v_X8_againstOnFloor_2 := fun w h => List.mem_cons_of_mem _ (List.mem_append_right _ (List.mem_append_left _ h))
  have j_X8_againstSetting_1 : ∀ w ∈ v_X8_againstSetting_1, w ∈ v_X8_againstOnFloor_2 := fun w h => List.mem_cons_of_mem _ (List.mem_append_right _ (List.mem_append_right _ (List.mem_append_left _ h)))
  have hown : s.vm.findClass RX8 = some m.cls := findClass_of_methodNamed B.named
  have hlocks := B.notSynchronized
  subst hsz
  have hD := hD0.self (sz := s.heap.size)
  generalize hAe : va_A [(h0, .inr (0, [.ref h2, .ref h1, .ref h3, .ref h4, .ref h5, .ref h6, .ref h7, .int 0, .int 0, .int 0, .null])), (h1, .inr (4, [.ref h8, .int 0]))] s.heap.size = A at hD ⊢
  have hA : ∀ q : Nat, s.heap.size ≤ q → A q := fun q h => by rw [← hAe]; exact Or.inr h
  have hS : va_S A s.heap s.heap [] := va_S.rf
  have hP : va_P G vwCl [(h0, .inr (0, [.ref h2, .ref h1, .ref h3, .ref h4, .ref h5, .ref h6, .ref h7, .int 0, .int 0, .int 0, .null])), (h1, .inr (4, [.ref h8, .int 0]))] s.heap := hP
  have hl := lv_entry ([.ref h0, .int 3, .int p0, .int 0]) (n := 4) (Nat.le_of_ble_eq_true rfl)
  rw [lg_entry_eq]
  generalize (lg_sl ([.ref h0, .int 3, .int p0, .int 0]) ++ List.replicate (4 - (lg_sl ([.ref h0, .int 3, .int p0, .int 0])).length) Slot.unset).toArray = ls at hl ⊢
  have hl : lv_has ls 4 [(0, .ref h0), (1, .int 3), (2, .int p0), (3, .int 0)] := hl
  refine lv_iload_n hx hb dX8_againstOnFloor_0 rfl (lv_at hl 1 rfl) ?_
  refine lv_tableIn (off := 69) (tgt := 70) hx hb dX8_againstOnFloor_1 (by decide) (by decide) (by decide) (by decide) ?_
  refine lv_aload_n hx hb dX8_againstOnFloor_70 rfl (lv_at hl 0 rfl) ?_
  refine lv_iload_n hx hb dX8_againstOnFloor_71 rfl (lv_at hl 2 rfl) ?_
  refine lv_if_lt (tgt := 86) hx hb dX8_againstOnFloor_72 (by decide) (fun c1 => ?_) (fun c1 => ?_)
  · have c1 : p0.toInt < 0 := wLt rfl (by decide) c1
    refine lv_iconst (v := 0) hx hb dX8_againstOnFloor_86 (by decide) ?_
    have hPc := hP.sub (ws' := []) [] rfl
    have hDc := hD.sub (ws' := []) [] (by decide) rfl
    refine wGoi (wc := []) (wr := [(h0, .inr (0, [.ref h2, .ref h1, .ref h3, .ref h4, .ref h5, .ref h6, .ref h7, .int 0, .int 0, .int 0, .null])), (h1, .inr (4, [.ref h8, .int 0]))]) (va_runS (As := [.ref h0, .int 0]) (rest := []) ⟨hx, hb, hml, hown, hts⟩ (m_X8_againstSetting_0 l G K h0 _) (va_cwS 2 hts (wGS t_ (mw (.methodLink RX8 45 yX8_againstSetting) (List.mem_of_getElem? (i := 0) rfl)) (mw (.static yX8_againstSetting) (List.mem_of_getElem? (i := 1) rfl)) (mw (.initialized RX8) (List.mem_of_getElem? (i := 2) rfl)) j_X8_againstSetting_0) rfl rfl rfl (by decide +kernel) ⟨Nat.le_of_ble_eq_true rfl, Nat.le_of_ble_eq_true rfl⟩) (wPS hK hE hPc hDc) rfl rfl hl.1 rfl (lv_room (Nat.le_of_ble_eq_true rfl)) dX8_againstOnFloor_87 ⟨Nat.le_of_ble_eq_true rfl, Nat.le_of_ble_eq_true rfl⟩) hP hD hS hA [] [0, 1] rfl rfl rfl (by decide) (fun r u H locs hw hP hD hS => ?_)
    rcases hw with ⟨rfl, rfl⟩
    have hP : va_P G vwCl [(h0, .inr (0, [.ref h2, .ref h1, .ref h3, .ref h4, .ref h5, .ref h6, .ref h7, .int 0, .int 0, .int 0, .null])), (h1, .inr (4, [.ref h8, .int 0]))] _ := hP
    have hD : va_D A [(h0, .inr (0, [.ref h2, .ref h1, .ref h3, .ref h4, .ref h5, .ref h6, .ref h7, .int 0, .int 0, .int 0, .null])), (h1, .inr (4, [.ref h8, .int 0]))] := hD
    have hP9 : va_P G vwCl [(h0, .inr (0, [.ref h2, .ref h1, .ref h3, .ref h4, .ref h5, .ref h6, .ref h7, .int 0, .int 0, .int 0, .null])), (h1, .inr (4, [.ref h8, .int 0]))] _ := hP
    have hD9 : va_D A [(h0, .inr (0, [.ref h2, .ref h1, .ref h3, .ref h4, .ref h5, .ref h6, .ref h7, .int 0, .int 0, .int 0, .null])), (h1, .inr (4, [.ref h8, .int 0]))] := hD
    exact W.iret (v := 9) hx hb hr (fun t ht hW => ⟨⟨9, _, rfl, Or.inl ⟨(by first | omega | decide | simp), rfl, rfl⟩, by rw [ht]; exact hP9, hD9⟩, hS.F ht⟩) hS.2.2 dX8_againstOnFloor_90
  · have c1 : p0.toInt ≥ 0 := wNlt rfl (by decide) c1
    refine lv_iload_n hx hb dX8_againstOnFloor_75 rfl (lv_at hl 2 rfl) ?_
    refine lv_sipush (v := 200) hx hb dX8_againstOnFloor_76 (by decide) ?_
    refine lv_icmp_gt (tgt := 86) hx hb dX8_againstOnFloor_79 (by decide) (fun c2 => ?_) (fun c2 => ?_)
    · have c2 : 200 < p0.toInt := wLt (by decide) rfl c2
      refine lv_iconst (v := 0) hx hb dX8_againstOnFloor_86 (by decide) ?_
      have hPc := hP.sub (ws' := []) [] rfl
      have hDc := hD.sub (ws' := []) [] (by decide) rfl
      refine wGoi (wc := []) (wr := [(h0, .inr (0, [.ref h2, .ref h1, .ref h3, .ref h4, .ref h5, .ref h6, .ref h7, .int 0, .int 0, .int 0, .null])), (h1, .inr (4, [.ref h8, .int 0]))]) (va_runS (As := [.ref h0, .int 0]) (rest := []) ⟨hx, hb, hml, hown, hts⟩ (m_X8_againstSetting_0 l G K h0 _) (va_cwS 2 hts (wGS t_ (mw (.methodLink RX8 45 yX8_againstSetting) (List.mem_of_getElem? (i := 0) rfl)) (mw (.static yX8_againstSetting) (List.mem_of_getElem? (i := 1) rfl)) (mw (.initialized RX8) (List.mem_of_getElem? (i := 2) rfl)) j_X8_againstSetting_0) rfl rfl rfl (by decide +kernel) ⟨Nat.le_of_ble_eq_true rfl, Nat.le_of_ble_eq_true rfl⟩) (wPS hK hE hPc hDc) rfl rfl hl.1 rfl (lv_room (Nat.le_of_ble_eq_true rfl)) dX8_againstOnFloor_87 ⟨Nat.le_of_ble_eq_true rfl, Nat.le_of_ble_eq_true rfl⟩) hP hD hS hA [] [0, 1] rfl rfl rfl (by decide) (fun r u H locs hw hP hD hS => ?_)
      rcases hw with ⟨rfl, rfl⟩
      have hP : va_P G vwCl [(h0, .inr (0, [.ref h2, .ref h1, .ref h3, .ref h4, .ref h5, .ref h6, .ref h7, .int 0, .int 0, .int 0, .null])), (h1, .inr (4, [.ref h8, .int 0]))] _ := hP
      have hD : va_D A [(h0, .inr (0, [.ref h2, .ref h1, .ref h3, .ref h4, .ref h5, .ref h6, .ref h7, .int 0, .int 0, .int 0, .null])), (h1, .inr (4, [.ref h8, .int 0]))] := hD
      have hP9 : va_P G vwCl [(h0, .inr (0, [.ref h2, .ref h1, .ref h3, .ref h4, .ref h5, .ref h6, .ref h7, .int 0, .int 0, .int 0, .null])), (h1, .inr (4, [.ref h8, .int 0]))] _ := hP
      have hD9 : va_D A [(h0, .inr (0, [.ref h2, .ref h1, .ref h3, .ref h4, .ref h5, .ref h6, .ref h7, .int 0, .int 0, .int 0, .null])), (h1, .inr (4, [.ref h8, .int 0]))] := hD
      exact W.iret (v := 9) hx hb hr (fun t ht hW => ⟨⟨9, _, rfl, Or.inl ⟨(by first | omega | decide | simp), rfl, rfl⟩, by rw [ht]; exact hP9, hD9⟩, hS.F ht⟩) hS.2.2 dX8_againstOnFloor_90
    · have c2 : 200 ≥ p0.toInt := wNlt (by decide) rfl c2
      refine lv_iconst (v := 1) hx hb dX8_againstOnFloor_82 (by decide) ?_
      refine lv_goto (tgt := 87) hx hb dX8_againstOnFloor_83 (by decide) ?_
      have hPc := hP.sub (ws' := [(h0, .inr (0, [.ref h2, .ref h1, .ref h3, .ref h4, .ref h5, .ref h6, .ref h7, .int 0, .int 0, .int 0, .null])), (h1, .inr (4, [.ref h8, .int 0]))]) [0, 1] rfl
      have hDc := hD.sub (ws' := [(h0, .inr (0, [.ref h2, .ref h1, .ref h3, .ref h4, .ref h5, .ref h6, .ref h7, .int 0, .int 0, .int 0, .null])), (h1, .inr (4, [.ref h8, .int 0]))]) [0, 1] (by decide) rfl
      refine wGoi (wc := [(h0, .inr (0, [.ref h2, .ref h1, .ref h3, .ref h4, .ref h5, .ref h6, .ref h7, .int 0, .int 0, .int 0, .null])), (h1, .inr (4, [.ref h8, .int 0]))]) (wr := []) (va_runS (As := [.ref h0, .int 1]) (rest := []) ⟨hx, hb, hml, hown, hts⟩ (m_X8_againstSetting_1 l G K h0 h1 h2 h3 h4 h5 h6 h7 h8 _) (va_cwS 2 hts (wGS t_ (mw (.methodLink RX8 45 yX8_againstSetting) (List.mem_of_getElem? (i := 0) rfl)) (mw (.static yX8_againstSetting) (List.mem_of_getElem? (i := 1) rfl)) (mw (.initialized RX8) (List.mem_of_getElem? (i := 2) rfl)) j_X8_againstSetting_1) rfl rfl rfl (by decide +kernel) ⟨Nat.le_of_ble_eq_true rfl, Nat.le_of_ble_eq_true rfl⟩) (wPS hK hE hPc hDc) rfl rfl hl.1 rfl (lv_room (Nat.le_of_ble_eq_true rfl)) dX8_againstOnFloor_87 ⟨Nat.le_of_ble_eq_true rfl, Nat.le_of_ble_eq_true rfl⟩) hP hD hS hA [0, 1] [] rfl rfl rfl (by decide) (fun r u H locs hw hP hD hS => ?_)
      rcases hw with ⟨rfl, rfl⟩
      have hP : va_P G vwCl [(h0, .inr (0, [.ref h2, .ref h1, .ref h3, .ref h4, .ref h5, .ref h6, .ref h7, .int 0, .int 0, .int 0, .null])), (h1, .inr (4, [.ref h8, .int 0]))] _ := hP
      have hD : va_D A [(h0, .inr (0, [.ref h2, .ref h1, .ref h3, .ref h4, .ref h5, .ref h6, .ref h7, .int 0, .int 0, .int 0, .null])), (h1, .inr (4, [.ref h8, .int 0]))] := hD
      have hP9 : va_P G vwCl [(h0, .inr (0, [.ref h2, .ref h1, .ref h3, .ref h4, .ref h5, .ref h6, .ref h7, .int 0, .int 0, .int 0, .null])), (h1, .inr (4, [.ref h8, .int 0]))] _ := hP
      have hD9 : va_D A [(h0, .inr (0, [.ref h2, .ref h1, .ref h3, .ref h4, .ref h5, .ref h6, .ref h7, .int 0, .int 0, .int 0, .null])), (h1, .inr (4, [.ref h8, .int 0]))] := hD
      exact W.iret (v := 0) hx hb hr (fun t ht hW => ⟨⟨0, _, rfl, Or.inr (⟨(by first | omega | decide | simp), rfl, rfl⟩), by rw [ht]; exact hP9, hD9⟩, hS.F ht⟩) hS.2.2 dX8_againstOnFloor_90
def e_X8_against_2 : List Cond := [.methodLink RX8 9 yX8_againstOnFloor, .static yX8_againstOnFloor, .initialized RX8, .fieldLink RX8 22 "MotionFloor$Assembly" "minutes" "LMotionFloor$Ledger;", .methodLink RX8 28 yX3_isFull, .instanceMethod yX3_isFull, .selects RX3 yX3_isFull yX3_isFull, .initialized RX3]
def v_X8_against_2 : List Cond := .code yX8_against cX8_against 7 (some .int) :: (e_X8_against_2 ++ (wsX00 ++ (v_X8_againstOnFloor_2 ++ (v_X3_isFull_0 ++ []))))
theorem te_X8_against_2 : GoodIn lw_tbl e_X8_against_2 := wGc z309 (wGc z308 (wGc z297 (wGc z307 (wGc z306 (wGc z305 (wGc z304 (wGc z89 (wG0))))))))
theorem t_X8_against_2 : GoodIn lw_tbl v_X8_against_2 := wGc z310 (wGa te_X8_against_2 (wGa zcX0 (wGa t_X8_againstOnFloor_2 (wGa t_X3_isFull_0 (wG0)))))
set_option maxHeartbeats 4000000 in
set_option maxRecDepth 100000 in
theorem m_X8_against_2 (l : Launch) (G : va_G) (K : Nat → ClassId) (h0 h1 h2 h3 h4 h5 h6 h7 h8 h9 : Nat) (p0 : Int32) (sz : Nat) : Met l yX8_against v_X8_against_2 ({ frames := 2, cells := 0, slots := 0, locals := 44 }) (va_Pc [.ref h0, .int 3, .int p0, .int 0, .int 0, .int 0] (wS G K sz [(h0, .inr (0, [.ref h3, .ref h1, .ref h4, .ref h5, .ref h2, .ref h6, .ref h7, .int 0, .int 0, .int 0, .null])), (h1, .inr (4, [.ref h8, .int 0])), (h2, .inr (2, [.int 7, .int 600, .ref h9, .int 0]))])) (va_Qi (fun (r : Int32) (u : va_W) => (((p0.toInt < 0 ∨ (p0.toInt ≥ 0 ∧ p0.toInt > 200))) ∧ 9 = r ∧ u = [(h0, .inr (0, [.ref h3, .ref h1, .ref h4, .ref h5, .ref h2, .ref h6, .ref h7, .int 0, .int 0, .int 0, .null])), (h1, .inr (4, [.ref h8, .int 0])), (h2, .inr (2, [.int 7, .int 600, .ref h9, .int 0]))]) ∨ ((((p0.toInt ≥ 0 ∧ p0.toInt ≤ 200))) ∧ 0 = r ∧ u = [(h0, .inr (0, [.ref h3, .ref h1, .ref h4, .ref h5, .ref h2, .ref h6, .ref h7, .int 0, .int 0, .int 0, .null])), (h1, .inr (4, [.ref h8, .int 0])), (h2, .inr (2, [.int 7, .int 600, .ref h9, .int 0]))])) (wB G (va_A [(h0, .inr (0, [.ref h3, .ref h1, .ref h4, .ref h5, .ref h2, .ref h6, .ref h7, .int 0, .int 0, .int 0, .null])), (h1, .inr (4, [.ref h8, .int 0])), (h2, .inr (2, [.int 7, .int 600, .ref h9, .int 0]))] sz)) (va_A [(h0, .inr (0, [.ref h3, .ref h1, .ref h4, .ref h5, .ref h2, .ref h6, .ref h7, .int 0, .int 0, .int 0, .null])), (h1, .inr (4, [.ref h8, .int 0])), (h2, .inr (2, [.int 7, .int 600, .ref h9, .int 0]))] sz)) 0 0 (va_A [(h0, .inr (0, [.ref h3, .ref h1, .ref h4, .ref h5, .ref h2, .ref h6, .ref h7, .int 0, .int 0, .int 0, .null])), (h1, .inr (4, [.ref h8, .int 0])), (h2, .inr (2, [.int 7, .int 600, .ref h9, .int 0]))] sz) := by
  refine Met.ofW (cc := cX8_against) (maxL := 7) (ret := (some .int)) (by decide) rfl ?_
  intro p e s m args below meth c s₁ B hml hv
  obtain ⟨rfl, hsz, hP, hK, hD0, hE⟩ := hv
  have hx := B.exec
  have hb := B.bytes
  have hr := B.returns
  have hts := atoms_spec (ws := v_X8_against_2) B.pre
  have t_ := t_X8_against_2
  have mw : ∀ w ∈ e_X8_against_2, w ∈ v_X8_against_2 := fun w h => List.mem_cons_of_mem _ (List.mem_append_left _ h)
  have hw := fun w (h : w ∈ e_X8_against_2) => hts w (mw w h)
  have iX0 : ∀ w ∈ wsX00, w ∈ v_X8_against_2 := fun w h => List.mem_cons_of_mem _ (List.mem_append_right _ (List.mem_append_left _ h))
  have j_X8_againstOnFloor_2 : ∀ w ∈ v_X8_againstOnFloor_2, w ∈ v_X8_against_2 := fun w h => List.mem_cons_of_mem _ (List.mem_append_right _ (List.mem_append_right _ (List.mem_append_left _ h)))
  have j_X3_isFull_0 : ∀ w ∈ v_X3_isFull_0, w ∈ v_X8_against_2 := fun w h => List.mem_cons_of_mem _ (List.mem_append_right _ (List.mem_append_right _ (List.mem_append_right _ (List.mem_append_left _ h))))
  have hown : s.vm.findClass RX8 = some m.cls := findClass_of_methodNamed B.named
  have hlocks := B.notSynchronized
  subst hsz
  have hD := hD0.self (sz := s.heap.size)
  generalize hAe : va_A [(h0, .inr (0, [.ref h3, .ref h1, .ref h4, .ref h5, .ref h2, .ref h6, .ref h7, .int 0, .int 0, .int 0, .null])), (h1, .inr (4, [.ref h8, .int 0])), (h2, .inr (2, [.int 7, .int 600, .ref h9, .int 0]))] s.heap.size = A at hD ⊢
  have hA : ∀ q : Nat, s.heap.size ≤ q → A q := fun q h => by rw [← hAe]; exact Or.inr h
  have hS : va_S A s.heap s.heap [] := va_S.rf
  have hP : va_P G vwCl [(h0, .inr (0, [.ref h3, .ref h1, .ref h4, .ref h5, .ref h2, .ref h6, .ref h7, .int 0, .int 0, .int 0, .null])), (h1, .inr (4, [.ref h8, .int 0])), (h2, .inr (2, [.int 7, .int 600, .ref h9, .int 0]))] s.heap := hP
  have hl := lv_entry ([.ref h0, .int 3, .int p0, .int 0, .int 0, .int 0]) (n := 7) (Nat.le_of_ble_eq_true rfl)
  rw [lg_entry_eq]
  generalize (lg_sl ([.ref h0, .int 3, .int p0, .int 0, .int 0, .int 0]) ++ List.replicate (7 - (lg_sl ([.ref h0, .int 3, .int p0, .int 0, .int 0, .int 0])).length) Slot.unset).toArray = ls at hl ⊢
  have hl : lv_has ls 7 [(0, .ref h0), (1, .int 3), (2, .int p0), (3, .int 0), (4, .int 0), (5, .int 0)] := hl
  refine lv_iload_n hx hb dX8_against_0 rfl (lv_at hl 1 rfl) ?_
  refine lv_bipush (v := 9) hx hb dX8_against_1 (by decide) ?_
  refine lv_icmp_gt (tgt := 18) hx hb dX8_against_3 (by decide) (fun c_ => absurd c_ (by decide)) (fun _ => ?_)
  refine lv_aload_n hx hb dX8_against_6 rfl (lv_at hl 0 rfl) ?_
  refine lv_iload_n hx hb dX8_against_7 rfl (lv_at hl 1 rfl) ?_
  refine lv_iload_n hx hb dX8_against_8 rfl (lv_at hl 2 rfl) ?_
  refine lv_iload_n hx hb dX8_against_9 rfl (lv_at hl 3 rfl) ?_
  have hPc := hP.sub (ws' := [(h0, .inr (0, [.ref h3, .ref h1, .ref h4, .ref h5, .ref h2, .ref h6, .ref h7, .int 0, .int 0, .int 0, .null])), (h1, .inr (4, [.ref h8, .int 0]))]) [0, 1] rfl
  have hDc := hD.sub (ws' := [(h0, .inr (0, [.ref h3, .ref h1, .ref h4, .ref h5, .ref h2, .ref h6, .ref h7, .int 0, .int 0, .int 0, .null])), (h1, .inr (4, [.ref h8, .int 0]))]) [0, 1] (by decide) rfl
  refine wGoi (wc := [(h0, .inr (0, [.ref h3, .ref h1, .ref h4, .ref h5, .ref h2, .ref h6, .ref h7, .int 0, .int 0, .int 0, .null])), (h1, .inr (4, [.ref h8, .int 0]))]) (wr := [(h2, .inr (2, [.int 7, .int 600, .ref h9, .int 0]))]) (va_runS (As := [.ref h0, .int 3, .int p0, .int 0]) (rest := []) ⟨hx, hb, hml, hown, hts⟩ (m_X8_againstOnFloor_2 l G K h0 h1 h3 h4 h5 h2 h6 h7 h8 p0 _) (va_cwS 4 hts (wGS t_ (mw (.methodLink RX8 9 yX8_againstOnFloor) (List.mem_of_getElem? (i := 0) rfl)) (mw (.static yX8_againstOnFloor) (List.mem_of_getElem? (i := 1) rfl)) (mw (.initialized RX8) (List.mem_of_getElem? (i := 2) rfl)) j_X8_againstOnFloor_2) rfl rfl rfl (by decide +kernel) ⟨Nat.le_of_ble_eq_true rfl, Nat.le_of_ble_eq_true rfl⟩) (wPS hK hE hPc hDc) rfl rfl hl.1 rfl (lv_room (Nat.le_of_ble_eq_true rfl)) dX8_against_10 ⟨Nat.le_of_ble_eq_true rfl, Nat.le_of_ble_eq_true rfl⟩) hP hD hS hA [0, 1] [2] rfl rfl rfl (by decide) (fun r u H locs hw hP hD hS => ?_)
  rcases hw with ⟨c_w, rfl, rfl⟩ | ⟨c_w, rfl, rfl⟩
  · have c1 := c_w
    have hP : va_P G vwCl [(h2, .inr (2, [.int 7, .int 600, .ref h9, .int 0])), (h0, .inr (0, [.ref h3, .ref h1, .ref h4, .ref h5, .ref h2, .ref h6, .ref h7, .int 0, .int 0, .int 0, .null])), (h1, .inr (4, [.ref h8, .int 0]))] _ := hP
    have hD : va_D A [(h2, .inr (2, [.int 7, .int 600, .ref h9, .int 0])), (h0, .inr (0, [.ref h3, .ref h1, .ref h4, .ref h5, .ref h2, .ref h6, .ref h7, .int 0, .int 0, .int 0, .null])), (h1, .inr (4, [.ref h8, .int 0]))] := hD
    refine lv_istore (lv' := [(6, .int 9), (0, .ref h0), (1, .int 3), (2, .int p0), (3, .int 0), (4, .int 0), (5, .int 0)]) hx hb dX8_against_13 hl (by decide) rfl (fun ls hl => ?_)
    refine lv_goto (tgt := 49) hx hb dX8_against_15 (by decide) ?_
    refine lv_iload hx hb dX8_against_49 (lv_at hl 0 rfl) ?_
    refine lv_if_ne (tgt := 69) hx hb dX8_against_51 (by decide) (fun _ => ?_) (fun c_ => absurd c_ (by decide))
    refine lv_iload hx hb dX8_against_69 (lv_at hl 0 rfl) ?_
    have hP9 := hP.sub (ws' := [(h0, .inr (0, [.ref h3, .ref h1, .ref h4, .ref h5, .ref h2, .ref h6, .ref h7, .int 0, .int 0, .int 0, .null])), (h1, .inr (4, [.ref h8, .int 0])), (h2, .inr (2, [.int 7, .int 600, .ref h9, .int 0]))]) [1, 2, 0] rfl
    have hD9 := hD.sub (ws' := [(h0, .inr (0, [.ref h3, .ref h1, .ref h4, .ref h5, .ref h2, .ref h6, .ref h7, .int 0, .int 0, .int 0, .null])), (h1, .inr (4, [.ref h8, .int 0])), (h2, .inr (2, [.int 7, .int 600, .ref h9, .int 0]))]) [1, 2, 0] (by decide) rfl
    exact W.iret (v := 9) hx hb hr (fun t ht hW => ⟨⟨9, _, rfl, Or.inl ⟨(by first | omega | decide | simp), rfl, rfl⟩, by rw [ht]; exact hP9, hD9⟩, hS.F ht⟩) hS.2.2 dX8_against_71
  · have c2 := c_w
    have hP : va_P G vwCl [(h2, .inr (2, [.int 7, .int 600, .ref h9, .int 0])), (h0, .inr (0, [.ref h3, .ref h1, .ref h4, .ref h5, .ref h2, .ref h6, .ref h7, .int 0, .int 0, .int 0, .null])), (h1, .inr (4, [.ref h8, .int 0]))] _ := hP
    have hD : va_D A [(h2, .inr (2, [.int 7, .int 600, .ref h9, .int 0])), (h0, .inr (0, [.ref h3, .ref h1, .ref h4, .ref h5, .ref h2, .ref h6, .ref h7, .int 0, .int 0, .int 0, .null])), (h1, .inr (4, [.ref h8, .int 0]))] := hD
    refine lv_istore (lv' := [(6, .int 0), (0, .ref h0), (1, .int 3), (2, .int p0), (3, .int 0), (4, .int 0), (5, .int 0)]) hx hb dX8_against_13 hl (by decide) rfl (fun ls hl => ?_)
    refine lv_goto (tgt := 49) hx hb dX8_against_15 (by decide) ?_
    refine lv_iload hx hb dX8_against_49 (lv_at hl 0 rfl) ?_
    refine lv_if_ne (tgt := 69) hx hb dX8_against_51 (by decide) (fun c_ => absurd c_ (by decide)) (fun _ => ?_)
    refine lv_aload_n hx hb dX8_against_54 rfl (lv_at hl 1 rfl) ?_
    refine va_get (D := G) (ci := 0) (v := .ref h2) (C := RX0) (T := TX0) (N := 11) hx hb hts iX0 hown hK hP 1 rfl rfl 4 (by decide) (hw (.fieldLink RX8 22 "MotionFloor$Assembly" "minutes" "LMotionFloor$Ledger;") (List.mem_of_getElem? (i := 3) rfl)) (fun _ h9 => h9) rfl dX8_against_55 ?_
    have hPc := hP.sub (ws' := [(h2, .inr (2, [.int 7, .int 600, .ref h9, .int 0]))]) [0] rfl
    have hDc := hD.sub (ws' := [(h2, .inr (2, [.int 7, .int 600, .ref h9, .int 0]))]) [0] (by decide) rfl
    refine wGoi (wc := [(h2, .inr (2, [.int 7, .int 600, .ref h9, .int 0]))]) (wr := [(h0, .inr (0, [.ref h3, .ref h1, .ref h4, .ref h5, .ref h2, .ref h6, .ref h7, .int 0, .int 0, .int 0, .null])), (h1, .inr (4, [.ref h8, .int 0]))]) (va_runV (As := []) (rest := []) ⟨hx, hb, hml, hown, hts⟩ (m_X3_isFull_0 l G K h2 h9 _) (cwV 0 hts (wGV t_ (mw (.methodLink RX8 28 yX3_isFull) (List.mem_of_getElem? (i := 4) rfl)) (mw (.instanceMethod yX3_isFull) (List.mem_of_getElem? (i := 5) rfl)) (mw (.selects RX3 yX3_isFull yX3_isFull) (List.mem_of_getElem? (i := 6) rfl)) (mw (.initialized RX3) (List.mem_of_getElem? (i := 7) rfl)) j_X3_isFull_0) rfl rfl rfl (by decide +kernel) ⟨Nat.le_of_ble_eq_true rfl, Nat.le_of_ble_eq_true rfl⟩) (wPV hK hE hPc hDc 2 0 rfl rfl) rfl rfl hl.1 rfl (lv_room (Nat.le_of_ble_eq_true rfl)) dX8_against_58 ⟨Nat.le_of_ble_eq_true rfl, Nat.le_of_ble_eq_true rfl⟩) hP hD hS hA [0] [1, 2] rfl rfl rfl (by decide) (fun r u H locs hw hP hD hS => ?_)
    rcases hw with ⟨rfl, rfl⟩
    have hP : va_P G vwCl [(h0, .inr (0, [.ref h3, .ref h1, .ref h4, .ref h5, .ref h2, .ref h6, .ref h7, .int 0, .int 0, .int 0, .null])), (h1, .inr (4, [.ref h8, .int 0])), (h2, .inr (2, [.int 7, .int 600, .ref h9, .int 0]))] _ := hP
    have hD : va_D A [(h0, .inr (0, [.ref h3, .ref h1, .ref h4, .ref h5, .ref h2, .ref h6, .ref h7, .int 0, .int 0, .int 0, .null])), (h1, .inr (4, [.ref h8, .int 0])), (h2, .inr (2, [.int 7, .int 600, .ref h9, .int 0]))] := hD
    refine lv_if_eq (tgt := 69) hx hb dX8_against_61 (by decide) (fun _ => ?_) (fun c_ => absurd c_ (by decide))
    refine lv_iload hx hb dX8_against_69 (lv_at hl 0 rfl) ?_
    have hP9 : va_P G vwCl [(h0, .inr (0, [.ref h3, .ref h1, .ref h4, .ref h5, .ref h2, .ref h6, .ref h7, .int 0, .int 0, .int 0, .null])), (h1, .inr (4, [.ref h8, .int 0])), (h2, .inr (2, [.int 7, .int 600, .ref h9, .int 0]))] _ := hP
    have hD9 : va_D A [(h0, .inr (0, [.ref h3, .ref h1, .ref h4, .ref h5, .ref h2, .ref h6, .ref h7, .int 0, .int 0, .int 0, .null])), (h1, .inr (4, [.ref h8, .int 0])), (h2, .inr (2, [.int 7, .int 600, .ref h9, .int 0]))] := hD
    exact W.iret (v := 0) hx hb hr (fun t ht hW => ⟨⟨0, _, rfl, Or.inr (⟨(by first | omega | decide | simp), rfl, rfl⟩), by rw [ht]; exact hP9, hD9⟩, hS.F ht⟩) hS.2.2 dX8_against_71
def e_X1_perform_1 : List Cond := [.fieldLink RX1 9 "MotionFloor$Assembly" "pending" "LMotionFloor$Pile;", .methodLink RX1 15 yX5_top, .instanceMethod yX5_top, .selects RX5 yX5_top yX5_top, .initialized RX5, .fieldLink RX1 21 "MotionFloor$Assembly" "house" "LMotionFloor$House;", .fieldLink RX1 34 "MotionFloor$House" "quorum" "I"]
def v_X1_perform_1 : List Cond := .code yX1_perform cX1_perform 7 (some .int) :: (e_X1_perform_1 ++ (wsX00 ++ (wsX20 ++ (v_X5_top_0 ++ []))))
theorem te_X1_perform_1 : GoodIn lw_tbl e_X1_perform_1 := wGc z326 (wGc z325 (wGc z324 (wGc z323 (wGc z26 (wGc z322 (wGc z392 (wG0)))))))
theorem t_X1_perform_1 : GoodIn lw_tbl v_X1_perform_1 := wGc z327 (wGa te_X1_perform_1 (wGa zcX0 (wGa zcX2 (wGa t_X5_top_0 (wG0)))))
set_option maxHeartbeats 4000000 in
set_option maxRecDepth 100000 in
theorem m_X1_perform_1 (l : Launch) (G : va_G) (K : Nat → ClassId) (h0 h1 h2 h3 h4 h5 h6 h7 h8 h9 h10 : Nat) (p0 : Int32) (sz : Nat) (bp0 : 0 ≤ p0.toInt ∧ p0.toInt ≤ 200) : Met l yX1_perform v_X1_perform_1 ({ frames := 2, cells := 0, slots := 0, locals := 41 }) (va_Pc [.ref h0, .int 3, .int p0, .int 0, .int 0, .int 0] (wS G K sz [(h0, .inr (0, [.ref h1, .ref h2, .ref h3, .ref h4, .ref h5, .ref h6, .ref h7, .int 0, .int 0, .int 0, .null])), (h1, .inr (1, [.int 1, .ref h8, .int 0, .int (-1), .int 0, .int 0, .int (-1), .ref h9])), (h2, .inr (4, [.ref h10, .int 0]))])) (va_Qi (fun (r : Int32) (u : va_W) => (p0 = r ∧ u = [(h0, .inr (0, [.ref h1, .ref h2, .ref h3, .ref h4, .ref h5, .ref h6, .ref h7, .int 0, .int 0, .int 0, .null])), (h1, .inr (1, [.int 1, .ref h8, .int 0, .int (-1), .int p0, .int 0, .int (-1), .ref h9])), (h2, .inr (4, [.ref h10, .int 0]))])) (wB G (va_A [(h0, .inr (0, [.ref h1, .ref h2, .ref h3, .ref h4, .ref h5, .ref h6, .ref h7, .int 0, .int 0, .int 0, .null])), (h1, .inr (1, [.int 1, .ref h8, .int 0, .int (-1), .int 0, .int 0, .int (-1), .ref h9])), (h2, .inr (4, [.ref h10, .int 0]))] sz)) (va_A [(h0, .inr (0, [.ref h1, .ref h2, .ref h3, .ref h4, .ref h5, .ref h6, .ref h7, .int 0, .int 0, .int 0, .null])), (h1, .inr (1, [.int 1, .ref h8, .int 0, .int (-1), .int 0, .int 0, .int (-1), .ref h9])), (h2, .inr (4, [.ref h10, .int 0]))] sz)) 0 0 (va_A [(h0, .inr (0, [.ref h1, .ref h2, .ref h3, .ref h4, .ref h5, .ref h6, .ref h7, .int 0, .int 0, .int 0, .null])), (h1, .inr (1, [.int 1, .ref h8, .int 0, .int (-1), .int 0, .int 0, .int (-1), .ref h9])), (h2, .inr (4, [.ref h10, .int 0]))] sz) := by
  refine Met.ofW (cc := cX1_perform) (maxL := 7) (ret := (some .int)) (by decide) rfl ?_
  intro p e s m args below meth c s₁ B hml hv
  obtain ⟨rfl, hsz, hP, hK, hD0, hE⟩ := hv
  have hx := B.exec
  have hb := B.bytes
  have hr := B.returns
  have hts := atoms_spec (ws := v_X1_perform_1) B.pre
  have t_ := t_X1_perform_1
  have mw : ∀ w ∈ e_X1_perform_1, w ∈ v_X1_perform_1 := fun w h => List.mem_cons_of_mem _ (List.mem_append_left _ h)
  have hw := fun w (h : w ∈ e_X1_perform_1) => hts w (mw w h)
  have iX0 : ∀ w ∈ wsX00, w ∈ v_X1_perform_1 := fun w h => List.mem_cons_of_mem _ (List.mem_append_right _ (List.mem_append_left _ h))
  have iX2 : ∀ w ∈ wsX20, w ∈ v_X1_perform_1 := fun w h => List.mem_cons_of_mem _ (List.mem_append_right _ (List.mem_append_right _ (List.mem_append_left _ h)))
  have j_X5_top_0 : ∀ w ∈ v_X5_top_0, w ∈ v_X1_perform_1 := fun w h => List.mem_cons_of_mem _ (List.mem_append_right _ (List.mem_append_right _ (List.mem_append_right _ (List.mem_append_left _ h))))
  have hown : s.vm.findClass RX1 = some m.cls := findClass_of_methodNamed B.named
  have hlocks := B.notSynchronized
  subst hsz
  have hD := hD0.self (sz := s.heap.size)
  generalize hAe : va_A [(h0, .inr (0, [.ref h1, .ref h2, .ref h3, .ref h4, .ref h5, .ref h6, .ref h7, .int 0, .int 0, .int 0, .null])), (h1, .inr (1, [.int 1, .ref h8, .int 0, .int (-1), .int 0, .int 0, .int (-1), .ref h9])), (h2, .inr (4, [.ref h10, .int 0]))] s.heap.size = A at hD ⊢
  have hA : ∀ q : Nat, s.heap.size ≤ q → A q := fun q h => by rw [← hAe]; exact Or.inr h
  have hS : va_S A s.heap s.heap [] := va_S.rf
  have hP : va_P G vwCl [(h0, .inr (0, [.ref h1, .ref h2, .ref h3, .ref h4, .ref h5, .ref h6, .ref h7, .int 0, .int 0, .int 0, .null])), (h1, .inr (1, [.int 1, .ref h8, .int 0, .int (-1), .int 0, .int 0, .int (-1), .ref h9])), (h2, .inr (4, [.ref h10, .int 0]))] s.heap := hP
  have hl := lv_entry ([.ref h0, .int 3, .int p0, .int 0, .int 0, .int 0]) (n := 7) (Nat.le_of_ble_eq_true rfl)
  rw [lg_entry_eq]
  generalize (lg_sl ([.ref h0, .int 3, .int p0, .int 0, .int 0, .int 0]) ++ List.replicate (7 - (lg_sl ([.ref h0, .int 3, .int p0, .int 0, .int 0, .int 0])).length) Slot.unset).toArray = ls at hl ⊢
  have hl : lv_has ls 7 [(0, .ref h0), (1, .int 3), (2, .int p0), (3, .int 0), (4, .int 0), (5, .int 0)] := hl
  refine lv_aload_n hx hb dX1_perform_0 rfl (lv_at hl 0 rfl) ?_
  refine va_get (D := G) (ci := 0) (v := .ref h2) (C := RX0) (T := TX0) (N := 11) hx hb hts iX0 hown hK hP 0 rfl rfl 1 (by decide) (hw (.fieldLink RX1 9 "MotionFloor$Assembly" "pending" "LMotionFloor$Pile;") (List.mem_of_getElem? (i := 0) rfl)) (fun _ h9 => h9) rfl dX1_perform_1 ?_
  have hPc := hP.sub (ws' := [(h2, .inr (4, [.ref h10, .int 0]))]) [2] rfl
  have hDc := hD.sub (ws' := [(h2, .inr (4, [.ref h10, .int 0]))]) [2] (by decide) rfl
  refine wGoq (wc := [(h2, .inr (4, [.ref h10, .int 0]))]) (wr := [(h0, .inr (0, [.ref h1, .ref h2, .ref h3, .ref h4, .ref h5, .ref h6, .ref h7, .int 0, .int 0, .int 0, .null])), (h1, .inr (1, [.int 1, .ref h8, .int 0, .int (-1), .int 0, .int 0, .int (-1), .ref h9]))]) (va_runV (As := []) (rest := []) ⟨hx, hb, hml, hown, hts⟩ (m_X5_top_0 l G K h2 h10 _) (cwV 0 hts (wGV t_ (mw (.methodLink RX1 15 yX5_top) (List.mem_of_getElem? (i := 1) rfl)) (mw (.instanceMethod yX5_top) (List.mem_of_getElem? (i := 2) rfl)) (mw (.selects RX5 yX5_top yX5_top) (List.mem_of_getElem? (i := 3) rfl)) (mw (.initialized RX5) (List.mem_of_getElem? (i := 4) rfl)) j_X5_top_0) rfl rfl rfl (by decide +kernel) ⟨Nat.le_of_ble_eq_true rfl, Nat.le_of_ble_eq_true rfl⟩) (wPV hK hE hPc hDc 4 0 rfl rfl) rfl rfl hl.1 rfl (lv_room (Nat.le_of_ble_eq_true rfl)) dX1_perform_4 ⟨Nat.le_of_ble_eq_true rfl, Nat.le_of_ble_eq_true rfl⟩) hP hD hS hA [2] [0, 1] rfl rfl rfl (by decide) (fun r u H locs hw hP hD hS => ?_)
  rcases hw with ⟨rfl, rfl⟩
  have hP : va_P G vwCl [(h0, .inr (0, [.ref h1, .ref h2, .ref h3, .ref h4, .ref h5, .ref h6, .ref h7, .int 0, .int 0, .int 0, .null])), (h1, .inr (1, [.int 1, .ref h8, .int 0, .int (-1), .int 0, .int 0, .int (-1), .ref h9])), (h2, .inr (4, [.ref h10, .int 0]))] _ := hP
  have hD : va_D A [(h0, .inr (0, [.ref h1, .ref h2, .ref h3, .ref h4, .ref h5, .ref h6, .ref h7, .int 0, .int 0, .int 0, .null])), (h1, .inr (1, [.int 1, .ref h8, .int 0, .int (-1), .int 0, .int 0, .int (-1), .ref h9])), (h2, .inr (4, [.ref h10, .int 0]))] := hD
  refine wTop (v1 := .null) rfl ?_
  refine lv_astoreN (lv' := [(6, .null), (0, .ref h0), (1, .int 3), (2, .int p0), (3, .int 0), (4, .int 0), (5, .int 0)]) hx hb dX1_perform_7 hl (by decide) rfl (fun ls hl => ?_)
  refine lv_iload_n hx hb dX1_perform_9 rfl (lv_at hl 2 rfl) ?_
  refine lv_tableIn (off := 120) (tgt := 130) hx hb dX1_perform_10 (by decide) (by decide) (by decide) (by decide) ?_
  refine lv_aload_n hx hb dX1_perform_130 rfl (lv_at hl 1 rfl) ?_
  refine va_get (D := G) (ci := 0) (v := .ref h1) (C := RX0) (T := TX0) (N := 11) hx hb hts iX0 hown hK hP 0 rfl rfl 0 (by decide) (hw (.fieldLink RX1 21 "MotionFloor$Assembly" "house" "LMotionFloor$House;") (List.mem_of_getElem? (i := 5) rfl)) (fun _ h9 => h9) rfl dX1_perform_131 ?_
  refine lv_iload_n hx hb dX1_perform_134 rfl (lv_at hl 3 rfl) ?_
  refine va_put (D := G) (ci := 1) (v := .int p0) (ty := .int) (C := RX2) (T := TX2) (N := 8) hx hb hts iX2 tyX2 tyX2_ok nmX2 hown hK hP hD hS 1 rfl rfl 4 (by decide) (hw (.fieldLink RX1 34 "MotionFloor$House" "quorum" "I") (List.mem_of_getElem? (i := 6) rfl)) (fun _ h9 => h9) rfl (by decide +kernel) rfl rfl (Nat.le_of_ble_eq_true rfl) dX1_perform_135 (fun H locs hP hD hS => ?_)
  have hP : va_P G vwCl [(h0, .inr (0, [.ref h1, .ref h2, .ref h3, .ref h4, .ref h5, .ref h6, .ref h7, .int 0, .int 0, .int 0, .null])), (h1, .inr (1, [.int 1, .ref h8, .int 0, .int (-1), .int p0, .int 0, .int (-1), .ref h9])), (h2, .inr (4, [.ref h10, .int 0]))] _ := hP
  have hD : va_D A [(h0, .inr (0, [.ref h1, .ref h2, .ref h3, .ref h4, .ref h5, .ref h6, .ref h7, .int 0, .int 0, .int 0, .null])), (h1, .inr (1, [.int 1, .ref h8, .int 0, .int (-1), .int p0, .int 0, .int (-1), .ref h9])), (h2, .inr (4, [.ref h10, .int 0]))] := hD
  refine lv_iload_n hx hb dX1_perform_138 rfl (lv_at hl 3 rfl) ?_
  have hP9 : va_P G vwCl [(h0, .inr (0, [.ref h1, .ref h2, .ref h3, .ref h4, .ref h5, .ref h6, .ref h7, .int 0, .int 0, .int 0, .null])), (h1, .inr (1, [.int 1, .ref h8, .int 0, .int (-1), .int p0, .int 0, .int (-1), .ref h9])), (h2, .inr (4, [.ref h10, .int 0]))] _ := hP
  have hD9 : va_D A [(h0, .inr (0, [.ref h1, .ref h2, .ref h3, .ref h4, .ref h5, .ref h6, .ref h7, .int 0, .int 0, .int 0, .null])), (h1, .inr (1, [.int 1, .ref h8, .int 0, .int (-1), .int p0, .int 0, .int (-1), .ref h9])), (h2, .inr (4, [.ref h10, .int 0]))] := hD
  exact W.iret (v := p0) hx hb hr (fun t ht hW => ⟨⟨p0, _, rfl, ⟨rfl, rfl⟩, by rw [ht]; exact hP9, hD9⟩, hS.F ht⟩) hS.2.2 dX1_perform_139
def e_X3_write_7 : List Cond := [.fieldLink RX3 28 "MotionFloor$Ledger" "size" "I", .fieldLink RX3 15 "MotionFloor$Ledger" "columns" "I", .fieldLink RX3 24 "MotionFloor$Ledger" "cells" "[I"]
def v_X3_write_7 : List Cond := .code yX3_write cX3_write 4 none :: (e_X3_write_7 ++ (wsX30 ++ []))
theorem te_X3_write_7 : GoodIn lw_tbl e_X3_write_7 := wGc z302 (wGc z38 (wGc z36 (wG0)))
theorem t_X3_write_7 : GoodIn lw_tbl v_X3_write_7 := wGc z334 (wGa te_X3_write_7 (wGa zcX3 (wG0)))
set_option maxHeartbeats 4000000 in
set_option maxRecDepth 100000 in
theorem m_X3_write_7 (l : Launch) (G : va_G) (K : Nat → ClassId) (h0 h1 : Nat) (sz : Nat) : Met l yX3_write v_X3_write_7 ({ frames := 0, cells := 0, slots := 0, locals := 0 }) (va_Pc [.ref h0, .int 0, .int 3] (wS G K sz [(h0, .inr (2, [.int 7, .int 600, .ref h1, .int 1])), (h1, .inl (K 0, 112, .inl (fun _ => 0)))])) (va_Qv (fun u : va_W => (u = [(h0, .inr (2, [.int 7, .int 600, .ref h1, .int 1])), (h1, .inl (K 0, 112, .inl (upd (fun _ => 0) 0 3)))])) (wB G (va_A [(h0, .inr (2, [.int 7, .int 600, .ref h1, .int 1])), (h1, .inl (K 0, 112, .inl (fun _ => 0)))] sz)) (va_A [(h0, .inr (2, [.int 7, .int 600, .ref h1, .int 1])), (h1, .inl (K 0, 112, .inl (fun _ => 0)))] sz)) 0 0 (va_A [(h0, .inr (2, [.int 7, .int 600, .ref h1, .int 1])), (h1, .inl (K 0, 112, .inl (fun _ => 0)))] sz) := by
  refine Met.ofW (cc := cX3_write) (maxL := 4) (ret := none) (by decide) rfl ?_
  intro p e s m args below meth c s₁ B hml hv
  obtain ⟨rfl, hsz, hP, hK, hD0, hE⟩ := hv
  have hx := B.exec
  have hb := B.bytes
  have hr := B.returns
  have hts := atoms_spec (ws := v_X3_write_7) B.pre
  have t_ := t_X3_write_7
  have mw : ∀ w ∈ e_X3_write_7, w ∈ v_X3_write_7 := fun w h => List.mem_cons_of_mem _ (List.mem_append_left _ h)
  have hw := fun w (h : w ∈ e_X3_write_7) => hts w (mw w h)
  have iX3 : ∀ w ∈ wsX30, w ∈ v_X3_write_7 := fun w h => List.mem_cons_of_mem _ (List.mem_append_right _ (List.mem_append_left _ h))
  have hown : s.vm.findClass RX3 = some m.cls := findClass_of_methodNamed B.named
  have hlocks := B.notSynchronized
  subst hsz
  have hD := hD0.self (sz := s.heap.size)
  generalize hAe : va_A [(h0, .inr (2, [.int 7, .int 600, .ref h1, .int 1])), (h1, .inl (K 0, 112, .inl (fun _ => 0)))] s.heap.size = A at hD ⊢
  have hA : ∀ q : Nat, s.heap.size ≤ q → A q := fun q h => by rw [← hAe]; exact Or.inr h
  have hS : va_S A s.heap s.heap [] := va_S.rf
  have hP : va_P G vwCl [(h0, .inr (2, [.int 7, .int 600, .ref h1, .int 1])), (h1, .inl (K 0, 112, .inl (fun _ => 0)))] s.heap := hP
  have hl := lv_entry ([.ref h0, .int 0, .int 3]) (n := 4) (Nat.le_of_ble_eq_true rfl)
  rw [lg_entry_eq]
  generalize (lg_sl ([.ref h0, .int 0, .int 3]) ++ List.replicate (4 - (lg_sl ([.ref h0, .int 0, .int 3])).length) Slot.unset).toArray = ls at hl ⊢
  have hl : lv_has ls 4 [(0, .ref h0), (1, .int 0), (2, .int 3)] := hl
  refine lv_aload_n hx hb dX3_write_0 rfl (lv_at hl 0 rfl) ?_
  refine va_get (D := G) (ci := 2) (v := .int 1) (C := RX3) (T := TX3) (N := 4) hx hb hts iX3 hown hK hP 0 rfl rfl 3 (by decide) (hw (.fieldLink RX3 28 "MotionFloor$Ledger" "size" "I") (List.mem_of_getElem? (i := 0) rfl)) (fun _ h9 => h9) rfl dX3_write_1 ?_
  refine lv_iconst (v := 1) hx hb dX3_write_4 (by decide) ?_
  refine lv_isub hx hb dX3_write_5 ?_
  refine wTop (v1 := .int 0) (congrArg Value.int (by decide)) ?_
  refine lv_aload_n hx hb dX3_write_6 rfl (lv_at hl 0 rfl) ?_
  refine va_get (D := G) (ci := 2) (v := .int 7) (C := RX3) (T := TX3) (N := 4) hx hb hts iX3 hown hK hP 0 rfl rfl 0 (by decide) (hw (.fieldLink RX3 15 "MotionFloor$Ledger" "columns" "I") (List.mem_of_getElem? (i := 1) rfl)) (fun _ h9 => h9) rfl dX3_write_7 ?_
  refine lv_imul hx hb dX3_write_10 ?_
  refine wTop (v1 := .int 0) (congrArg Value.int (by decide)) ?_
  refine lv_iload_n hx hb dX3_write_11 rfl (lv_at hl 1 rfl) ?_
  refine lv_iadd hx hb dX3_write_12 ?_
  refine wTop (v1 := .int 0) (congrArg Value.int (by decide)) ?_
  refine lv_istore_n (lv' := [(3, .int 0), (0, .ref h0), (1, .int 0), (2, .int 3)]) hx hb dX3_write_13 rfl hl (by decide) rfl (fun ls hl => ?_)
  refine lv_iload_n hx hb dX3_write_14 rfl (lv_at hl 2 rfl) ?_
  refine lv_if_lt (tgt := 46) hx hb dX3_write_15 (by decide) (fun c_ => absurd c_ (by decide)) (fun _ => ?_)
  refine lv_iload_n hx hb dX3_write_18 rfl (lv_at hl 2 rfl) ?_
  refine lv_aload_n hx hb dX3_write_19 rfl (lv_at hl 1 rfl) ?_
  refine va_get (D := G) (ci := 2) (v := .int 7) (C := RX3) (T := TX3) (N := 4) hx hb hts iX3 hown hK hP 0 rfl rfl 0 (by decide) (hw (.fieldLink RX3 15 "MotionFloor$Ledger" "columns" "I") (List.mem_of_getElem? (i := 1) rfl)) (fun _ h9 => h9) rfl dX3_write_20 ?_
  refine lv_icmp_ge (tgt := 46) hx hb dX3_write_23 (by decide) (fun c_ => absurd c_ (by decide)) (fun _ => ?_)
  refine lv_iload_n hx hb dX3_write_26 rfl (lv_at hl 0 rfl) ?_
  refine lv_if_lt (tgt := 46) hx hb dX3_write_27 (by decide) (fun c_ => absurd c_ (by decide)) (fun _ => ?_)
  refine lv_iload_n hx hb dX3_write_30 rfl (lv_at hl 0 rfl) ?_
  refine lv_aload_n hx hb dX3_write_31 rfl (lv_at hl 1 rfl) ?_
  refine va_get (D := G) (ci := 2) (v := .ref h1) (C := RX3) (T := TX3) (N := 4) hx hb hts iX3 hown hK hP 0 rfl rfl 2 (by decide) (hw (.fieldLink RX3 24 "MotionFloor$Ledger" "cells" "[I") (List.mem_of_getElem? (i := 2) rfl)) (fun _ h9 => h9) rfl dX3_write_32 ?_
  refine va_alen (v := 112) hx hb hK hP 1 0 rfl rfl rfl dX3_write_35 ?_
  refine lv_icmp_ge (tgt := 46) hx hb dX3_write_36 (by decide) (fun c_ => absurd c_ (by decide)) (fun _ => ?_)
  refine lv_aload_n hx hb dX3_write_39 rfl (lv_at hl 1 rfl) ?_
  refine va_get (D := G) (ci := 2) (v := .ref h1) (C := RX3) (T := TX3) (N := 4) hx hb hts iX3 hown hK hP 0 rfl rfl 2 (by decide) (hw (.fieldLink RX3 24 "MotionFloor$Ledger" "cells" "[I") (List.mem_of_getElem? (i := 2) rfl)) (fun _ h9 => h9) rfl dX3_write_40 ?_
  refine lv_iload_n hx hb dX3_write_43 rfl (lv_at hl 0 rfl) ?_
  refine lv_iload_n hx hb dX3_write_44 rfl (lv_at hl 3 rfl) ?_
  refine va_iast hx hb hK hP hD hS 1 0 rfl rfl (vp_in_iff.mpr (by decide)) dX3_write_45 (fun H locs hP hD hS => ?_)
  have hP : va_P G vwCl [(h0, .inr (2, [.int 7, .int 600, .ref h1, .int 1])), (h1, .inl (K 0, 112, .inl (upd (fun _ => 0) 0 3)))] _ := hP
  have hD : va_D A [(h0, .inr (2, [.int 7, .int 600, .ref h1, .int 1])), (h1, .inl (K 0, 112, .inl (upd (fun _ => 0) 0 3)))] := hD
  have hP9 : va_P G vwCl [(h0, .inr (2, [.int 7, .int 600, .ref h1, .int 1])), (h1, .inl (K 0, 112, .inl (upd (fun _ => 0) 0 3)))] _ := hP
  have hD9 : va_D A [(h0, .inr (2, [.int 7, .int 600, .ref h1, .int 1])), (h1, .inl (K 0, 112, .inl (upd (fun _ => 0) 0 3)))] := hD
  exact W.vret hx hb hr (fun t ht hW => ⟨⟨_, rfl, rfl, by rw [ht]; exact hP9, hD9⟩, hS.F ht⟩) hS.2.2 dX3_write_46
def e_X3_write_8 : List Cond := [.fieldLink RX3 28 "MotionFloor$Ledger" "size" "I", .fieldLink RX3 15 "MotionFloor$Ledger" "columns" "I", .fieldLink RX3 24 "MotionFloor$Ledger" "cells" "[I"]
def v_X3_write_8 : List Cond := .code yX3_write cX3_write 4 none :: (e_X3_write_8 ++ (wsX30 ++ []))
theorem te_X3_write_8 : GoodIn lw_tbl e_X3_write_8 := wGc z302 (wGc z38 (wGc z36 (wG0)))
theorem t_X3_write_8 : GoodIn lw_tbl v_X3_write_8 := wGc z334 (wGa te_X3_write_8 (wGa zcX3 (wG0)))
set_option maxHeartbeats 4000000 in
set_option maxRecDepth 100000 in
theorem m_X3_write_8 (l : Launch) (G : va_G) (K : Nat → ClassId) (h0 h1 : Nat) (p0 : Int32) (sz : Nat) (bp0 : 0 ≤ p0.toInt ∧ p0.toInt ≤ 200) : Met l yX3_write v_X3_write_8 ({ frames := 0, cells := 0, slots := 0, locals := 0 }) (va_Pc [.ref h0, .int 1, .int p0] (wS G K sz [(h0, .inr (2, [.int 7, .int 600, .ref h1, .int 1])), (h1, .inl (K 0, 112, .inl (upd (fun _ => 0) 0 3)))])) (va_Qv (fun u : va_W => (u = [(h0, .inr (2, [.int 7, .int 600, .ref h1, .int 1])), (h1, .inl (K 0, 112, .inl (upd (upd (fun _ => 0) 0 3) 1 p0)))])) (wB G (va_A [(h0, .inr (2, [.int 7, .int 600, .ref h1, .int 1])), (h1, .inl (K 0, 112, .inl (upd (fun _ => 0) 0 3)))] sz)) (va_A [(h0, .inr (2, [.int 7, .int 600, .ref h1, .int 1])), (h1, .inl (K 0, 112, .inl (upd (fun _ => 0) 0 3)))] sz)) 0 0 (va_A [(h0, .inr (2, [.int 7, .int 600, .ref h1, .int 1])), (h1, .inl (K 0, 112, .inl (upd (fun _ => 0) 0 3)))] sz) := by
  refine Met.ofW (cc := cX3_write) (maxL := 4) (ret := none) (by decide) rfl ?_
  intro p e s m args below meth c s₁ B hml hv
  obtain ⟨rfl, hsz, hP, hK, hD0, hE⟩ := hv
  have hx := B.exec
  have hb := B.bytes
  have hr := B.returns
  have hts := atoms_spec (ws := v_X3_write_8) B.pre
  have t_ := t_X3_write_8
  have mw : ∀ w ∈ e_X3_write_8, w ∈ v_X3_write_8 := fun w h => List.mem_cons_of_mem _ (List.mem_append_left _ h)
  have hw := fun w (h : w ∈ e_X3_write_8) => hts w (mw w h)
  have iX3 : ∀ w ∈ wsX30, w ∈ v_X3_write_8 := fun w h => List.mem_cons_of_mem _ (List.mem_append_right _ (List.mem_append_left _ h))
  have hown : s.vm.findClass RX3 = some m.cls := findClass_of_methodNamed B.named
  have hlocks := B.notSynchronized
  subst hsz
  have hD := hD0.self (sz := s.heap.size)
  generalize hAe : va_A [(h0, .inr (2, [.int 7, .int 600, .ref h1, .int 1])), (h1, .inl (K 0, 112, .inl (upd (fun _ => 0) 0 3)))] s.heap.size = A at hD ⊢
  have hA : ∀ q : Nat, s.heap.size ≤ q → A q := fun q h => by rw [← hAe]; exact Or.inr h
  have hS : va_S A s.heap s.heap [] := va_S.rf
  have hP : va_P G vwCl [(h0, .inr (2, [.int 7, .int 600, .ref h1, .int 1])), (h1, .inl (K 0, 112, .inl (upd (fun _ => 0) 0 3)))] s.heap := hP
  have hl := lv_entry ([.ref h0, .int 1, .int p0]) (n := 4) (Nat.le_of_ble_eq_true rfl)
  rw [lg_entry_eq]
  generalize (lg_sl ([.ref h0, .int 1, .int p0]) ++ List.replicate (4 - (lg_sl ([.ref h0, .int 1, .int p0])).length) Slot.unset).toArray = ls at hl ⊢
  have hl : lv_has ls 4 [(0, .ref h0), (1, .int 1), (2, .int p0)] := hl
  refine lv_aload_n hx hb dX3_write_0 rfl (lv_at hl 0 rfl) ?_
  refine va_get (D := G) (ci := 2) (v := .int 1) (C := RX3) (T := TX3) (N := 4) hx hb hts iX3 hown hK hP 0 rfl rfl 3 (by decide) (hw (.fieldLink RX3 28 "MotionFloor$Ledger" "size" "I") (List.mem_of_getElem? (i := 0) rfl)) (fun _ h9 => h9) rfl dX3_write_1 ?_
  refine lv_iconst (v := 1) hx hb dX3_write_4 (by decide) ?_
  refine lv_isub hx hb dX3_write_5 ?_
  refine wTop (v1 := .int 0) (congrArg Value.int (by decide)) ?_
  refine lv_aload_n hx hb dX3_write_6 rfl (lv_at hl 0 rfl) ?_
  refine va_get (D := G) (ci := 2) (v := .int 7) (C := RX3) (T := TX3) (N := 4) hx hb hts iX3 hown hK hP 0 rfl rfl 0 (by decide) (hw (.fieldLink RX3 15 "MotionFloor$Ledger" "columns" "I") (List.mem_of_getElem? (i := 1) rfl)) (fun _ h9 => h9) rfl dX3_write_7 ?_
  refine lv_imul hx hb dX3_write_10 ?_
  refine wTop (v1 := .int 0) (congrArg Value.int (by decide)) ?_
  refine lv_iload_n hx hb dX3_write_11 rfl (lv_at hl 1 rfl) ?_
  refine lv_iadd hx hb dX3_write_12 ?_
  refine wTop (v1 := .int 1) (congrArg Value.int (by decide)) ?_
  refine lv_istore_n (lv' := [(3, .int 1), (0, .ref h0), (1, .int 1), (2, .int p0)]) hx hb dX3_write_13 rfl hl (by decide) rfl (fun ls hl => ?_)
  refine lv_iload_n hx hb dX3_write_14 rfl (lv_at hl 2 rfl) ?_
  refine lv_if_lt (tgt := 46) hx hb dX3_write_15 (by decide) (fun c_ => absurd c_ (by decide)) (fun _ => ?_)
  refine lv_iload_n hx hb dX3_write_18 rfl (lv_at hl 2 rfl) ?_
  refine lv_aload_n hx hb dX3_write_19 rfl (lv_at hl 1 rfl) ?_
  refine va_get (D := G) (ci := 2) (v := .int 7) (C := RX3) (T := TX3) (N := 4) hx hb hts iX3 hown hK hP 0 rfl rfl 0 (by decide) (hw (.fieldLink RX3 15 "MotionFloor$Ledger" "columns" "I") (List.mem_of_getElem? (i := 1) rfl)) (fun _ h9 => h9) rfl dX3_write_20 ?_
  refine lv_icmp_ge (tgt := 46) hx hb dX3_write_23 (by decide) (fun c_ => absurd c_ (by decide)) (fun _ => ?_)
  refine lv_iload_n hx hb dX3_write_26 rfl (lv_at hl 0 rfl) ?_
  refine lv_if_lt (tgt := 46) hx hb dX3_write_27 (by decide) (fun c_ => absurd c_ (by decide)) (fun _ => ?_)
  refine lv_iload_n hx hb dX3_write_30 rfl (lv_at hl 0 rfl) ?_
  refine lv_aload_n hx hb dX3_write_31 rfl (lv_at hl 1 rfl) ?_
  refine va_get (D := G) (ci := 2) (v := .ref h1) (C := RX3) (T := TX3) (N := 4) hx hb hts iX3 hown hK hP 0 rfl rfl 2 (by decide) (hw (.fieldLink RX3 24 "MotionFloor$Ledger" "cells" "[I") (List.mem_of_getElem? (i := 2) rfl)) (fun _ h9 => h9) rfl dX3_write_32 ?_
  refine va_alen (v := 112) hx hb hK hP 1 0 rfl rfl rfl dX3_write_35 ?_
  refine lv_icmp_ge (tgt := 46) hx hb dX3_write_36 (by decide) (fun c_ => absurd c_ (by decide)) (fun _ => ?_)
  refine lv_aload_n hx hb dX3_write_39 rfl (lv_at hl 1 rfl) ?_
  refine va_get (D := G) (ci := 2) (v := .ref h1) (C := RX3) (T := TX3) (N := 4) hx hb hts iX3 hown hK hP 0 rfl rfl 2 (by decide) (hw (.fieldLink RX3 24 "MotionFloor$Ledger" "cells" "[I") (List.mem_of_getElem? (i := 2) rfl)) (fun _ h9 => h9) rfl dX3_write_40 ?_
  refine lv_iload_n hx hb dX3_write_43 rfl (lv_at hl 0 rfl) ?_
  refine lv_iload_n hx hb dX3_write_44 rfl (lv_at hl 3 rfl) ?_
  refine va_iast hx hb hK hP hD hS 1 0 rfl rfl (vp_in_iff.mpr (by decide)) dX3_write_45 (fun H locs hP hD hS => ?_)
  have hP : va_P G vwCl [(h0, .inr (2, [.int 7, .int 600, .ref h1, .int 1])), (h1, .inl (K 0, 112, .inl (upd (upd (fun _ => 0) 0 3) 1 p0)))] _ := hP
  have hD : va_D A [(h0, .inr (2, [.int 7, .int 600, .ref h1, .int 1])), (h1, .inl (K 0, 112, .inl (upd (upd (fun _ => 0) 0 3) 1 p0)))] := hD
  have hP9 : va_P G vwCl [(h0, .inr (2, [.int 7, .int 600, .ref h1, .int 1])), (h1, .inl (K 0, 112, .inl (upd (upd (fun _ => 0) 0 3) 1 p0)))] _ := hP
  have hD9 : va_D A [(h0, .inr (2, [.int 7, .int 600, .ref h1, .int 1])), (h1, .inl (K 0, 112, .inl (upd (upd (fun _ => 0) 0 3) 1 p0)))] := hD
  exact W.vret hx hb hr (fun t ht hW => ⟨⟨_, rfl, rfl, by rw [ht]; exact hP9, hD9⟩, hS.F ht⟩) hS.2.2 dX3_write_46
def e_X3_write_9 : List Cond := [.fieldLink RX3 28 "MotionFloor$Ledger" "size" "I", .fieldLink RX3 15 "MotionFloor$Ledger" "columns" "I", .fieldLink RX3 24 "MotionFloor$Ledger" "cells" "[I"]
def v_X3_write_9 : List Cond := .code yX3_write cX3_write 4 none :: (e_X3_write_9 ++ (wsX30 ++ []))
theorem te_X3_write_9 : GoodIn lw_tbl e_X3_write_9 := wGc z302 (wGc z38 (wGc z36 (wG0)))
theorem t_X3_write_9 : GoodIn lw_tbl v_X3_write_9 := wGc z334 (wGa te_X3_write_9 (wGa zcX3 (wG0)))
set_option maxHeartbeats 4000000 in
set_option maxRecDepth 100000 in
theorem m_X3_write_9 (l : Launch) (G : va_G) (K : Nat → ClassId) (h0 h1 : Nat) (p0 : Int32) (sz : Nat) (bp0 : 0 ≤ p0.toInt ∧ p0.toInt ≤ 200) : Met l yX3_write v_X3_write_9 ({ frames := 0, cells := 0, slots := 0, locals := 0 }) (va_Pc [.ref h0, .int 2, .int 0] (wS G K sz [(h0, .inr (2, [.int 7, .int 600, .ref h1, .int 1])), (h1, .inl (K 0, 112, .inl (upd (upd (fun _ => 0) 0 3) 1 p0)))])) (va_Qv (fun u : va_W => (u = [(h0, .inr (2, [.int 7, .int 600, .ref h1, .int 1])), (h1, .inl (K 0, 112, .inl (upd (upd (upd (fun _ => 0) 0 3) 1 p0) 2 0)))])) (wB G (va_A [(h0, .inr (2, [.int 7, .int 600, .ref h1, .int 1])), (h1, .inl (K 0, 112, .inl (upd (upd (fun _ => 0) 0 3) 1 p0)))] sz)) (va_A [(h0, .inr (2, [.int 7, .int 600, .ref h1, .int 1])), (h1, .inl (K 0, 112, .inl (upd (upd (fun _ => 0) 0 3) 1 p0)))] sz)) 0 0 (va_A [(h0, .inr (2, [.int 7, .int 600, .ref h1, .int 1])), (h1, .inl (K 0, 112, .inl (upd (upd (fun _ => 0) 0 3) 1 p0)))] sz) := by
  refine Met.ofW (cc := cX3_write) (maxL := 4) (ret := none) (by decide) rfl ?_
  intro p e s m args below meth c s₁ B hml hv
  obtain ⟨rfl, hsz, hP, hK, hD0, hE⟩ := hv
  have hx := B.exec
  have hb := B.bytes
  have hr := B.returns
  have hts := atoms_spec (ws := v_X3_write_9) B.pre
  have t_ := t_X3_write_9
  have mw : ∀ w ∈ e_X3_write_9, w ∈ v_X3_write_9 := fun w h => List.mem_cons_of_mem _ (List.mem_append_left _ h)
  have hw := fun w (h : w ∈ e_X3_write_9) => hts w (mw w h)
  have iX3 : ∀ w ∈ wsX30, w ∈ v_X3_write_9 := fun w h => List.mem_cons_of_mem _ (List.mem_append_right _ (List.mem_append_left _ h))
  have hown : s.vm.findClass RX3 = some m.cls := findClass_of_methodNamed B.named
  have hlocks := B.notSynchronized
  subst hsz
  have hD := hD0.self (sz := s.heap.size)
  generalize hAe : va_A [(h0, .inr (2, [.int 7, .int 600, .ref h1, .int 1])), (h1, .inl (K 0, 112, .inl (upd (upd (fun _ => 0) 0 3) 1 p0)))] s.heap.size = A at hD ⊢
  have hA : ∀ q : Nat, s.heap.size ≤ q → A q := fun q h => by rw [← hAe]; exact Or.inr h
  have hS : va_S A s.heap s.heap [] := va_S.rf
  have hP : va_P G vwCl [(h0, .inr (2, [.int 7, .int 600, .ref h1, .int 1])), (h1, .inl (K 0, 112, .inl (upd (upd (fun _ => 0) 0 3) 1 p0)))] s.heap := hP
  have hl := lv_entry ([.ref h0, .int 2, .int 0]) (n := 4) (Nat.le_of_ble_eq_true rfl)
  rw [lg_entry_eq]
  generalize (lg_sl ([.ref h0, .int 2, .int 0]) ++ List.replicate (4 - (lg_sl ([.ref h0, .int 2, .int 0])).length) Slot.unset).toArray = ls at hl ⊢
  have hl : lv_has ls 4 [(0, .ref h0), (1, .int 2), (2, .int 0)] := hl
  refine lv_aload_n hx hb dX3_write_0 rfl (lv_at hl 0 rfl) ?_
  refine va_get (D := G) (ci := 2) (v := .int 1) (C := RX3) (T := TX3) (N := 4) hx hb hts iX3 hown hK hP 0 rfl rfl 3 (by decide) (hw (.fieldLink RX3 28 "MotionFloor$Ledger" "size" "I") (List.mem_of_getElem? (i := 0) rfl)) (fun _ h9 => h9) rfl dX3_write_1 ?_
  refine lv_iconst (v := 1) hx hb dX3_write_4 (by decide) ?_
  refine lv_isub hx hb dX3_write_5 ?_
  refine wTop (v1 := .int 0) (congrArg Value.int (by decide)) ?_
  refine lv_aload_n hx hb dX3_write_6 rfl (lv_at hl 0 rfl) ?_
  refine va_get (D := G) (ci := 2) (v := .int 7) (C := RX3) (T := TX3) (N := 4) hx hb hts iX3 hown hK hP 0 rfl rfl 0 (by decide) (hw (.fieldLink RX3 15 "MotionFloor$Ledger" "columns" "I") (List.mem_of_getElem? (i := 1) rfl)) (fun _ h9 => h9) rfl dX3_write_7 ?_
  refine lv_imul hx hb dX3_write_10 ?_
  refine wTop (v1 := .int 0) (congrArg Value.int (by decide)) ?_
  refine lv_iload_n hx hb dX3_write_11 rfl (lv_at hl 1 rfl) ?_
  refine lv_iadd hx hb dX3_write_12 ?_
  refine wTop (v1 := .int 2) (congrArg Value.int (by decide)) ?_
  refine lv_istore_n (lv' := [(3, .int 2), (0, .ref h0), (1, .int 2), (2, .int 0)]) hx hb dX3_write_13 rfl hl (by decide) rfl (fun ls hl => ?_)
  refine lv_iload_n hx hb dX3_write_14 rfl (lv_at hl 2 rfl) ?_
  refine lv_if_lt (tgt := 46) hx hb dX3_write_15 (by decide) (fun c_ => absurd c_ (by decide)) (fun _ => ?_)
  refine lv_iload_n hx hb dX3_write_18 rfl (lv_at hl 2 rfl) ?_
  refine lv_aload_n hx hb dX3_write_19 rfl (lv_at hl 1 rfl) ?_
  refine va_get (D := G) (ci := 2) (v := .int 7) (C := RX3) (T := TX3) (N := 4) hx hb hts iX3 hown hK hP 0 rfl rfl 0 (by decide) (hw (.fieldLink RX3 15 "MotionFloor$Ledger" "columns" "I") (List.mem_of_getElem? (i := 1) rfl)) (fun _ h9 => h9) rfl dX3_write_20 ?_
  refine lv_icmp_ge (tgt := 46) hx hb dX3_write_23 (by decide) (fun c_ => absurd c_ (by decide)) (fun _ => ?_)
  refine lv_iload_n hx hb dX3_write_26 rfl (lv_at hl 0 rfl) ?_
  refine lv_if_lt (tgt := 46) hx hb dX3_write_27 (by decide) (fun c_ => absurd c_ (by decide)) (fun _ => ?_)
  refine lv_iload_n hx hb dX3_write_30 rfl (lv_at hl 0 rfl) ?_
  refine lv_aload_n hx hb dX3_write_31 rfl (lv_at hl 1 rfl) ?_
  refine va_get (D := G) (ci := 2) (v := .ref h1) (C := RX3) (T := TX3) (N := 4) hx hb hts iX3 hown hK hP 0 rfl rfl 2 (by decide) (hw (.fieldLink RX3 24 "MotionFloor$Ledger" "cells" "[I") (List.mem_of_getElem? (i := 2) rfl)) (fun _ h9 => h9) rfl dX3_write_32 ?_
  refine va_alen (v := 112) hx hb hK hP 1 0 rfl rfl rfl dX3_write_35 ?_
  refine lv_icmp_ge (tgt := 46) hx hb dX3_write_36 (by decide) (fun c_ => absurd c_ (by decide)) (fun _ => ?_)
  refine lv_aload_n hx hb dX3_write_39 rfl (lv_at hl 1 rfl) ?_
  refine va_get (D := G) (ci := 2) (v := .ref h1) (C := RX3) (T := TX3) (N := 4) hx hb hts iX3 hown hK hP 0 rfl rfl 2 (by decide) (hw (.fieldLink RX3 24 "MotionFloor$Ledger" "cells" "[I") (List.mem_of_getElem? (i := 2) rfl)) (fun _ h9 => h9) rfl dX3_write_40 ?_
  refine lv_iload_n hx hb dX3_write_43 rfl (lv_at hl 0 rfl) ?_
  refine lv_iload_n hx hb dX3_write_44 rfl (lv_at hl 3 rfl) ?_
  refine va_iast hx hb hK hP hD hS 1 0 rfl rfl (vp_in_iff.mpr (by decide)) dX3_write_45 (fun H locs hP hD hS => ?_)
  have hP : va_P G vwCl [(h0, .inr (2, [.int 7, .int 600, .ref h1, .int 1])), (h1, .inl (K 0, 112, .inl (upd (upd (upd (fun _ => 0) 0 3) 1 p0) 2 0)))] _ := hP
  have hD : va_D A [(h0, .inr (2, [.int 7, .int 600, .ref h1, .int 1])), (h1, .inl (K 0, 112, .inl (upd (upd (upd (fun _ => 0) 0 3) 1 p0) 2 0)))] := hD
  have hP9 : va_P G vwCl [(h0, .inr (2, [.int 7, .int 600, .ref h1, .int 1])), (h1, .inl (K 0, 112, .inl (upd (upd (upd (fun _ => 0) 0 3) 1 p0) 2 0)))] _ := hP
  have hD9 : va_D A [(h0, .inr (2, [.int 7, .int 600, .ref h1, .int 1])), (h1, .inl (K 0, 112, .inl (upd (upd (upd (fun _ => 0) 0 3) 1 p0) 2 0)))] := hD
  exact W.vret hx hb hr (fun t ht hW => ⟨⟨_, rfl, rfl, by rw [ht]; exact hP9, hD9⟩, hS.F ht⟩) hS.2.2 dX3_write_46
def e_X3_write_10 : List Cond := [.fieldLink RX3 28 "MotionFloor$Ledger" "size" "I", .fieldLink RX3 15 "MotionFloor$Ledger" "columns" "I", .fieldLink RX3 24 "MotionFloor$Ledger" "cells" "[I"]
def v_X3_write_10 : List Cond := .code yX3_write cX3_write 4 none :: (e_X3_write_10 ++ (wsX30 ++ []))
theorem te_X3_write_10 : GoodIn lw_tbl e_X3_write_10 := wGc z302 (wGc z38 (wGc z36 (wG0)))
theorem t_X3_write_10 : GoodIn lw_tbl v_X3_write_10 := wGc z334 (wGa te_X3_write_10 (wGa zcX3 (wG0)))
set_option maxHeartbeats 4000000 in
set_option maxRecDepth 100000 in
theorem m_X3_write_10 (l : Launch) (G : va_G) (K : Nat → ClassId) (h0 h1 : Nat) (p0 : Int32) (sz : Nat) (bp0 : 0 ≤ p0.toInt ∧ p0.toInt ≤ 200) : Met l yX3_write v_X3_write_10 ({ frames := 0, cells := 0, slots := 0, locals := 0 }) (va_Pc [.ref h0, .int 3, .int 0] (wS G K sz [(h0, .inr (2, [.int 7, .int 600, .ref h1, .int 1])), (h1, .inl (K 0, 112, .inl (upd (upd (upd (fun _ => 0) 0 3) 1 p0) 2 0)))])) (va_Qv (fun u : va_W => (u = [(h0, .inr (2, [.int 7, .int 600, .ref h1, .int 1])), (h1, .inl (K 0, 112, .inl (upd (upd (upd (upd (fun _ => 0) 0 3) 1 p0) 2 0) 3 0)))])) (wB G (va_A [(h0, .inr (2, [.int 7, .int 600, .ref h1, .int 1])), (h1, .inl (K 0, 112, .inl (upd (upd (upd (fun _ => 0) 0 3) 1 p0) 2 0)))] sz)) (va_A [(h0, .inr (2, [.int 7, .int 600, .ref h1, .int 1])), (h1, .inl (K 0, 112, .inl (upd (upd (upd (fun _ => 0) 0 3) 1 p0) 2 0)))] sz)) 0 0 (va_A [(h0, .inr (2, [.int 7, .int 600, .ref h1, .int 1])), (h1, .inl (K 0, 112, .inl (upd (upd (upd (fun _ => 0) 0 3) 1 p0) 2 0)))] sz) := by
  refine Met.ofW (cc := cX3_write) (maxL := 4) (ret := none) (by decide) rfl ?_
  intro p e s m args below meth c s₁ B hml hv
  obtain ⟨rfl, hsz, hP, hK, hD0, hE⟩ := hv
  have hx := B.exec
  have hb := B.bytes
  have hr := B.returns
  have hts := atoms_spec (ws := v_X3_write_10) B.pre
  have t_ := t_X3_write_10
  have mw : ∀ w ∈ e_X3_write_10, w ∈ v_X3_write_10 := fun w h => List.mem_cons_of_mem _ (List.mem_append_left _ h)
  have hw := fun w (h : w ∈ e_X3_write_10) => hts w (mw w h)
  have iX3 : ∀ w ∈ wsX30, w ∈ v_X3_write_10 := fun w h => List.mem_cons_of_mem _ (List.mem_append_right _ (List.mem_append_left _ h))
  have hown : s.vm.findClass RX3 = some m.cls := findClass_of_methodNamed B.named
  have hlocks := B.notSynchronized
  subst hsz
  have hD := hD0.self (sz := s.heap.size)
  generalize hAe : va_A [(h0, .inr (2, [.int 7, .int 600, .ref h1, .int 1])), (h1, .inl (K 0, 112, .inl (upd (upd (upd (fun _ => 0) 0 3) 1 p0) 2 0)))] s.heap.size = A at hD ⊢
  have hA : ∀ q : Nat, s.heap.size ≤ q → A q := fun q h => by rw [← hAe]; exact Or.inr h
  have hS : va_S A s.heap s.heap [] := va_S.rf
  have hP : va_P G vwCl [(h0, .inr (2, [.int 7, .int 600, .ref h1, .int 1])), (h1, .inl (K 0, 112, .inl (upd (upd (upd (fun _ => 0) 0 3) 1 p0) 2 0)))] s.heap := hP
  have hl := lv_entry ([.ref h0, .int 3, .int 0]) (n := 4) (Nat.le_of_ble_eq_true rfl)
  rw [lg_entry_eq]
  generalize (lg_sl ([.ref h0, .int 3, .int 0]) ++ List.replicate (4 - (lg_sl ([.ref h0, .int 3, .int 0])).length) Slot.unset).toArray = ls at hl ⊢
  have hl : lv_has ls 4 [(0, .ref h0), (1, .int 3), (2, .int 0)] := hl
  refine lv_aload_n hx hb dX3_write_0 rfl (lv_at hl 0 rfl) ?_
  refine va_get (D := G) (ci := 2) (v := .int 1) (C := RX3) (T := TX3) (N := 4) hx hb hts iX3 hown hK hP 0 rfl rfl 3 (by decide) (hw (.fieldLink RX3 28 "MotionFloor$Ledger" "size" "I") (List.mem_of_getElem? (i := 0) rfl)) (fun _ h9 => h9) rfl dX3_write_1 ?_
  refine lv_iconst (v := 1) hx hb dX3_write_4 (by decide) ?_
  refine lv_isub hx hb dX3_write_5 ?_
  refine wTop (v1 := .int 0) (congrArg Value.int (by decide)) ?_
  refine lv_aload_n hx hb dX3_write_6 rfl (lv_at hl 0 rfl) ?_
  refine va_get (D := G) (ci := 2) (v := .int 7) (C := RX3) (T := TX3) (N := 4) hx hb hts iX3 hown hK hP 0 rfl rfl 0 (by decide) (hw (.fieldLink RX3 15 "MotionFloor$Ledger" "columns" "I") (List.mem_of_getElem? (i := 1) rfl)) (fun _ h9 => h9) rfl dX3_write_7 ?_
  refine lv_imul hx hb dX3_write_10 ?_
  refine wTop (v1 := .int 0) (congrArg Value.int (by decide)) ?_
  refine lv_iload_n hx hb dX3_write_11 rfl (lv_at hl 1 rfl) ?_
  refine lv_iadd hx hb dX3_write_12 ?_
  refine wTop (v1 := .int 3) (congrArg Value.int (by decide)) ?_
  refine lv_istore_n (lv' := [(3, .int 3), (0, .ref h0), (1, .int 3), (2, .int 0)]) hx hb dX3_write_13 rfl hl (by decide) rfl (fun ls hl => ?_)
  refine lv_iload_n hx hb dX3_write_14 rfl (lv_at hl 2 rfl) ?_
  refine lv_if_lt (tgt := 46) hx hb dX3_write_15 (by decide) (fun c_ => absurd c_ (by decide)) (fun _ => ?_)
  refine lv_iload_n hx hb dX3_write_18 rfl (lv_at hl 2 rfl) ?_
  refine lv_aload_n hx hb dX3_write_19 rfl (lv_at hl 1 rfl) ?_
  refine va_get (D := G) (ci := 2) (v := .int 7) (C := RX3) (T := TX3) (N := 4) hx hb hts iX3 hown hK hP 0 rfl rfl 0 (by decide) (hw (.fieldLink RX3 15 "MotionFloor$Ledger" "columns" "I") (List.mem_of_getElem? (i := 1) rfl)) (fun _ h9 => h9) rfl dX3_write_20 ?_
  refine lv_icmp_ge (tgt := 46) hx hb dX3_write_23 (by decide) (fun c_ => absurd c_ (by decide)) (fun _ => ?_)
  refine lv_iload_n hx hb dX3_write_26 rfl (lv_at hl 0 rfl) ?_
  refine lv_if_lt (tgt := 46) hx hb dX3_write_27 (by decide) (fun c_ => absurd c_ (by decide)) (fun _ => ?_)
  refine lv_iload_n hx hb dX3_write_30 rfl (lv_at hl 0 rfl) ?_
  refine lv_aload_n hx hb dX3_write_31 rfl (lv_at hl 1 rfl) ?_
  refine va_get (D := G) (ci := 2) (v := .ref h1) (C := RX3) (T := TX3) (N := 4) hx hb hts iX3 hown hK hP 0 rfl rfl 2 (by decide) (hw (.fieldLink RX3 24 "MotionFloor$Ledger" "cells" "[I") (List.mem_of_getElem? (i := 2) rfl)) (fun _ h9 => h9) rfl dX3_write_32 ?_
  refine va_alen (v := 112) hx hb hK hP 1 0 rfl rfl rfl dX3_write_35 ?_
  refine lv_icmp_ge (tgt := 46) hx hb dX3_write_36 (by decide) (fun c_ => absurd c_ (by decide)) (fun _ => ?_)
  refine lv_aload_n hx hb dX3_write_39 rfl (lv_at hl 1 rfl) ?_
  refine va_get (D := G) (ci := 2) (v := .ref h1) (C := RX3) (T := TX3) (N := 4) hx hb hts iX3 hown hK hP 0 rfl rfl 2 (by decide) (hw (.fieldLink RX3 24 "MotionFloor$Ledger" "cells" "[I") (List.mem_of_getElem? (i := 2) rfl)) (fun _ h9 => h9) rfl dX3_write_40 ?_
  refine lv_iload_n hx hb dX3_write_43 rfl (lv_at hl 0 rfl) ?_
  refine lv_iload_n hx hb dX3_write_44 rfl (lv_at hl 3 rfl) ?_
  refine va_iast hx hb hK hP hD hS 1 0 rfl rfl (vp_in_iff.mpr (by decide)) dX3_write_45 (fun H locs hP hD hS => ?_)
  have hP : va_P G vwCl [(h0, .inr (2, [.int 7, .int 600, .ref h1, .int 1])), (h1, .inl (K 0, 112, .inl (upd (upd (upd (upd (fun _ => 0) 0 3) 1 p0) 2 0) 3 0)))] _ := hP
  have hD : va_D A [(h0, .inr (2, [.int 7, .int 600, .ref h1, .int 1])), (h1, .inl (K 0, 112, .inl (upd (upd (upd (upd (fun _ => 0) 0 3) 1 p0) 2 0) 3 0)))] := hD
  have hP9 : va_P G vwCl [(h0, .inr (2, [.int 7, .int 600, .ref h1, .int 1])), (h1, .inl (K 0, 112, .inl (upd (upd (upd (upd (fun _ => 0) 0 3) 1 p0) 2 0) 3 0)))] _ := hP
  have hD9 : va_D A [(h0, .inr (2, [.int 7, .int 600, .ref h1, .int 1])), (h1, .inl (K 0, 112, .inl (upd (upd (upd (upd (fun _ => 0) 0 3) 1 p0) 2 0) 3 0)))] := hD
  exact W.vret hx hb hr (fun t ht hW => ⟨⟨_, rfl, rfl, by rw [ht]; exact hP9, hD9⟩, hS.F ht⟩) hS.2.2 dX3_write_46
def e_X3_write_11 : List Cond := [.fieldLink RX3 28 "MotionFloor$Ledger" "size" "I", .fieldLink RX3 15 "MotionFloor$Ledger" "columns" "I", .fieldLink RX3 24 "MotionFloor$Ledger" "cells" "[I"]
def v_X3_write_11 : List Cond := .code yX3_write cX3_write 4 none :: (e_X3_write_11 ++ (wsX30 ++ []))
theorem te_X3_write_11 : GoodIn lw_tbl e_X3_write_11 := wGc z302 (wGc z38 (wGc z36 (wG0)))
theorem t_X3_write_11 : GoodIn lw_tbl v_X3_write_11 := wGc z334 (wGa te_X3_write_11 (wGa zcX3 (wG0)))
set_option maxHeartbeats 4000000 in
set_option maxRecDepth 100000 in
theorem m_X3_write_11 (l : Launch) (G : va_G) (K : Nat → ClassId) (h0 h1 : Nat) (p0 : Int32) (sz : Nat) (bp0 : 0 ≤ p0.toInt ∧ p0.toInt ≤ 200) : Met l yX3_write v_X3_write_11 ({ frames := 0, cells := 0, slots := 0, locals := 0 }) (va_Pc [.ref h0, .int 4, .int 0] (wS G K sz [(h0, .inr (2, [.int 7, .int 600, .ref h1, .int 1])), (h1, .inl (K 0, 112, .inl (upd (upd (upd (upd (fun _ => 0) 0 3) 1 p0) 2 0) 3 0)))])) (va_Qv (fun u : va_W => (u = [(h0, .inr (2, [.int 7, .int 600, .ref h1, .int 1])), (h1, .inl (K 0, 112, .inl (upd (upd (upd (upd (upd (fun _ => 0) 0 3) 1 p0) 2 0) 3 0) 4 0)))])) (wB G (va_A [(h0, .inr (2, [.int 7, .int 600, .ref h1, .int 1])), (h1, .inl (K 0, 112, .inl (upd (upd (upd (upd (fun _ => 0) 0 3) 1 p0) 2 0) 3 0)))] sz)) (va_A [(h0, .inr (2, [.int 7, .int 600, .ref h1, .int 1])), (h1, .inl (K 0, 112, .inl (upd (upd (upd (upd (fun _ => 0) 0 3) 1 p0) 2 0) 3 0)))] sz)) 0 0 (va_A [(h0, .inr (2, [.int 7, .int 600, .ref h1, .int 1])), (h1, .inl (K 0, 112, .inl (upd (upd (upd (upd (fun _ => 0) 0 3) 1 p0) 2 0) 3 0)))] sz) := by
  refine Met.ofW (cc := cX3_write) (maxL := 4) (ret := none) (by decide) rfl ?_
  intro p e s m args below meth c s₁ B hml hv
  obtain ⟨rfl, hsz, hP, hK, hD0, hE⟩ := hv
  have hx := B.exec
  have hb := B.bytes
  have hr := B.returns
  have hts := atoms_spec (ws := v_X3_write_11) B.pre
  have t_ := t_X3_write_11
  have mw : ∀ w ∈ e_X3_write_11, w ∈ v_X3_write_11 := fun w h => List.mem_cons_of_mem _ (List.mem_append_left _ h)
  have hw := fun w (h : w ∈ e_X3_write_11) => hts w (mw w h)
  have iX3 : ∀ w ∈ wsX30, w ∈ v_X3_write_11 := fun w h => List.mem_cons_of_mem _ (List.mem_append_right _ (List.mem_append_left _ h))
  have hown : s.vm.findClass RX3 = some m.cls := findClass_of_methodNamed B.named
  have hlocks := B.notSynchronized
  subst hsz
  have hD := hD0.self (sz := s.heap.size)
  generalize hAe : va_A [(h0, .inr (2, [.int 7, .int 600, .ref h1, .int 1])), (h1, .inl (K 0, 112, .inl (upd (upd (upd (upd (fun _ => 0) 0 3) 1 p0) 2 0) 3 0)))] s.heap.size = A at hD ⊢
  have hA : ∀ q : Nat, s.heap.size ≤ q → A q := fun q h => by rw [← hAe]; exact Or.inr h
  have hS : va_S A s.heap s.heap [] := va_S.rf
  have hP : va_P G vwCl [(h0, .inr (2, [.int 7, .int 600, .ref h1, .int 1])), (h1, .inl (K 0, 112, .inl (upd (upd (upd (upd (fun _ => 0) 0 3) 1 p0) 2 0) 3 0)))] s.heap := hP
  have hl := lv_entry ([.ref h0, .int 4, .int 0]) (n := 4) (Nat.le_of_ble_eq_true rfl)
  rw [lg_entry_eq]
  generalize (lg_sl ([.ref h0, .int 4, .int 0]) ++ List.replicate (4 - (lg_sl ([.ref h0, .int 4, .int 0])).length) Slot.unset).toArray = ls at hl ⊢
  have hl : lv_has ls 4 [(0, .ref h0), (1, .int 4), (2, .int 0)] := hl
  refine lv_aload_n hx hb dX3_write_0 rfl (lv_at hl 0 rfl) ?_
  refine va_get (D := G) (ci := 2) (v := .int 1) (C := RX3) (T := TX3) (N := 4) hx hb hts iX3 hown hK hP 0 rfl rfl 3 (by decide) (hw (.fieldLink RX3 28 "MotionFloor$Ledger" "size" "I") (List.mem_of_getElem? (i := 0) rfl)) (fun _ h9 => h9) rfl dX3_write_1 ?_
  refine lv_iconst (v := 1) hx hb dX3_write_4 (by decide) ?_
  refine lv_isub hx hb dX3_write_5 ?_
  refine wTop (v1 := .int 0) (congrArg Value.int (by decide)) ?_
  refine lv_aload_n hx hb dX3_write_6 rfl (lv_at hl 0 rfl) ?_
  refine va_get (D := G) (ci := 2) (v := .int 7) (C := RX3) (T := TX3) (N := 4) hx hb hts iX3 hown hK hP 0 rfl rfl 0 (by decide) (hw (.fieldLink RX3 15 "MotionFloor$Ledger" "columns" "I") (List.mem_of_getElem? (i := 1) rfl)) (fun _ h9 => h9) rfl dX3_write_7 ?_
  refine lv_imul hx hb dX3_write_10 ?_
  refine wTop (v1 := .int 0) (congrArg Value.int (by decide)) ?_
  refine lv_iload_n hx hb dX3_write_11 rfl (lv_at hl 1 rfl) ?_
  refine lv_iadd hx hb dX3_write_12 ?_
  refine wTop (v1 := .int 4) (congrArg Value.int (by decide)) ?_
  refine lv_istore_n (lv' := [(3, .int 4), (0, .ref h0), (1, .int 4), (2, .int 0)]) hx hb dX3_write_13 rfl hl (by decide) rfl (fun ls hl => ?_)
  refine lv_iload_n hx hb dX3_write_14 rfl (lv_at hl 2 rfl) ?_
  refine lv_if_lt (tgt := 46) hx hb dX3_write_15 (by decide) (fun c_ => absurd c_ (by decide)) (fun _ => ?_)
  refine lv_iload_n hx hb dX3_write_18 rfl (lv_at hl 2 rfl) ?_
  refine lv_aload_n hx hb dX3_write_19 rfl (lv_at hl 1 rfl) ?_
  refine va_get (D := G) (ci := 2) (v := .int 7) (C := RX3) (T := TX3) (N := 4) hx hb hts iX3 hown hK hP 0 rfl rfl 0 (by decide) (hw (.fieldLink RX3 15 "MotionFloor$Ledger" "columns" "I") (List.mem_of_getElem? (i := 1) rfl)) (fun _ h9 => h9) rfl dX3_write_20 ?_
  refine lv_icmp_ge (tgt := 46) hx hb dX3_write_23 (by decide) (fun c_ => absurd c_ (by decide)) (fun _ => ?_)
  refine lv_iload_n hx hb dX3_write_26 rfl (lv_at hl 0 rfl) ?_
  refine lv_if_lt (tgt := 46) hx hb dX3_write_27 (by decide) (fun c_ => absurd c_ (by decide)) (fun _ => ?_)
  refine lv_iload_n hx hb dX3_write_30 rfl (lv_at hl 0 rfl) ?_
  refine lv_aload_n hx hb dX3_write_31 rfl (lv_at hl 1 rfl) ?_
  refine va_get (D := G) (ci := 2) (v := .ref h1) (C := RX3) (T := TX3) (N := 4) hx hb hts iX3 hown hK hP 0 rfl rfl 2 (by decide) (hw (.fieldLink RX3 24 "MotionFloor$Ledger" "cells" "[I") (List.mem_of_getElem? (i := 2) rfl)) (fun _ h9 => h9) rfl dX3_write_32 ?_
  refine va_alen (v := 112) hx hb hK hP 1 0 rfl rfl rfl dX3_write_35 ?_
  refine lv_icmp_ge (tgt := 46) hx hb dX3_write_36 (by decide) (fun c_ => absurd c_ (by decide)) (fun _ => ?_)
  refine lv_aload_n hx hb dX3_write_39 rfl (lv_at hl 1 rfl) ?_
  refine va_get (D := G) (ci := 2) (v := .ref h1) (C := RX3) (T := TX3) (N := 4) hx hb hts iX3 hown hK hP 0 rfl rfl 2 (by decide) (hw (.fieldLink RX3 24 "MotionFloor$Ledger" "cells" "[I") (List.mem_of_getElem? (i := 2) rfl)) (fun _ h9 => h9) rfl dX3_write_40 ?_
  refine lv_iload_n hx hb dX3_write_43 rfl (lv_at hl 0 rfl) ?_
  refine lv_iload_n hx hb dX3_write_44 rfl (lv_at hl 3 rfl) ?_
  refine va_iast hx hb hK hP hD hS 1 0 rfl rfl (vp_in_iff.mpr (by decide)) dX3_write_45 (fun H locs hP hD hS => ?_)
  have hP : va_P G vwCl [(h0, .inr (2, [.int 7, .int 600, .ref h1, .int 1])), (h1, .inl (K 0, 112, .inl (upd (upd (upd (upd (upd (fun _ => 0) 0 3) 1 p0) 2 0) 3 0) 4 0)))] _ := hP
  have hD : va_D A [(h0, .inr (2, [.int 7, .int 600, .ref h1, .int 1])), (h1, .inl (K 0, 112, .inl (upd (upd (upd (upd (upd (fun _ => 0) 0 3) 1 p0) 2 0) 3 0) 4 0)))] := hD
  have hP9 : va_P G vwCl [(h0, .inr (2, [.int 7, .int 600, .ref h1, .int 1])), (h1, .inl (K 0, 112, .inl (upd (upd (upd (upd (upd (fun _ => 0) 0 3) 1 p0) 2 0) 3 0) 4 0)))] _ := hP
  have hD9 : va_D A [(h0, .inr (2, [.int 7, .int 600, .ref h1, .int 1])), (h1, .inl (K 0, 112, .inl (upd (upd (upd (upd (upd (fun _ => 0) 0 3) 1 p0) 2 0) 3 0) 4 0)))] := hD
  exact W.vret hx hb hr (fun t ht hW => ⟨⟨_, rfl, rfl, by rw [ht]; exact hP9, hD9⟩, hS.F ht⟩) hS.2.2 dX3_write_46
def e_X3_write_12 : List Cond := [.fieldLink RX3 28 "MotionFloor$Ledger" "size" "I", .fieldLink RX3 15 "MotionFloor$Ledger" "columns" "I", .fieldLink RX3 24 "MotionFloor$Ledger" "cells" "[I"]
def v_X3_write_12 : List Cond := .code yX3_write cX3_write 4 none :: (e_X3_write_12 ++ (wsX30 ++ []))
theorem te_X3_write_12 : GoodIn lw_tbl e_X3_write_12 := wGc z302 (wGc z38 (wGc z36 (wG0)))
theorem t_X3_write_12 : GoodIn lw_tbl v_X3_write_12 := wGc z334 (wGa te_X3_write_12 (wGa zcX3 (wG0)))
set_option maxHeartbeats 4000000 in
set_option maxRecDepth 100000 in
theorem m_X3_write_12 (l : Launch) (G : va_G) (K : Nat → ClassId) (h0 h1 : Nat) (p0 : Int32) (sz : Nat) (bp0 : 0 ≤ p0.toInt ∧ p0.toInt ≤ 200) : Met l yX3_write v_X3_write_12 ({ frames := 0, cells := 0, slots := 0, locals := 0 }) (va_Pc [.ref h0, .int 5, .int p0] (wS G K sz [(h0, .inr (2, [.int 7, .int 600, .ref h1, .int 1])), (h1, .inl (K 0, 112, .inl (upd (upd (upd (upd (upd (fun _ => 0) 0 3) 1 p0) 2 0) 3 0) 4 0)))])) (va_Qv (fun u : va_W => (u = [(h0, .inr (2, [.int 7, .int 600, .ref h1, .int 1])), (h1, .inl (K 0, 112, .inl (upd (upd (upd (upd (upd (upd (fun _ => 0) 0 3) 1 p0) 2 0) 3 0) 4 0) 5 p0)))])) (wB G (va_A [(h0, .inr (2, [.int 7, .int 600, .ref h1, .int 1])), (h1, .inl (K 0, 112, .inl (upd (upd (upd (upd (upd (fun _ => 0) 0 3) 1 p0) 2 0) 3 0) 4 0)))] sz)) (va_A [(h0, .inr (2, [.int 7, .int 600, .ref h1, .int 1])), (h1, .inl (K 0, 112, .inl (upd (upd (upd (upd (upd (fun _ => 0) 0 3) 1 p0) 2 0) 3 0) 4 0)))] sz)) 0 0 (va_A [(h0, .inr (2, [.int 7, .int 600, .ref h1, .int 1])), (h1, .inl (K 0, 112, .inl (upd (upd (upd (upd (upd (fun _ => 0) 0 3) 1 p0) 2 0) 3 0) 4 0)))] sz) := by
  refine Met.ofW (cc := cX3_write) (maxL := 4) (ret := none) (by decide) rfl ?_
  intro p e s m args below meth c s₁ B hml hv
  obtain ⟨rfl, hsz, hP, hK, hD0, hE⟩ := hv
  have hx := B.exec
  have hb := B.bytes
  have hr := B.returns
  have hts := atoms_spec (ws := v_X3_write_12) B.pre
  have t_ := t_X3_write_12
  have mw : ∀ w ∈ e_X3_write_12, w ∈ v_X3_write_12 := fun w h => List.mem_cons_of_mem _ (List.mem_append_left _ h)
  have hw := fun w (h : w ∈ e_X3_write_12) => hts w (mw w h)
  have iX3 : ∀ w ∈ wsX30, w ∈ v_X3_write_12 := fun w h => List.mem_cons_of_mem _ (List.mem_append_right _ (List.mem_append_left _ h))
  have hown : s.vm.findClass RX3 = some m.cls := findClass_of_methodNamed B.named
  have hlocks := B.notSynchronized
  subst hsz
  have hD := hD0.self (sz := s.heap.size)
  generalize hAe : va_A [(h0, .inr (2, [.int 7, .int 600, .ref h1, .int 1])), (h1, .inl (K 0, 112, .inl (upd (upd (upd (upd (upd (fun _ => 0) 0 3) 1 p0) 2 0) 3 0) 4 0)))] s.heap.size = A at hD ⊢
  have hA : ∀ q : Nat, s.heap.size ≤ q → A q := fun q h => by rw [← hAe]; exact Or.inr h
  have hS : va_S A s.heap s.heap [] := va_S.rf
  have hP : va_P G vwCl [(h0, .inr (2, [.int 7, .int 600, .ref h1, .int 1])), (h1, .inl (K 0, 112, .inl (upd (upd (upd (upd (upd (fun _ => 0) 0 3) 1 p0) 2 0) 3 0) 4 0)))] s.heap := hP
  have hl := lv_entry ([.ref h0, .int 5, .int p0]) (n := 4) (Nat.le_of_ble_eq_true rfl)
  rw [lg_entry_eq]
  generalize (lg_sl ([.ref h0, .int 5, .int p0]) ++ List.replicate (4 - (lg_sl ([.ref h0, .int 5, .int p0])).length) Slot.unset).toArray = ls at hl ⊢
  have hl : lv_has ls 4 [(0, .ref h0), (1, .int 5), (2, .int p0)] := hl
  refine lv_aload_n hx hb dX3_write_0 rfl (lv_at hl 0 rfl) ?_
  refine va_get (D := G) (ci := 2) (v := .int 1) (C := RX3) (T := TX3) (N := 4) hx hb hts iX3 hown hK hP 0 rfl rfl 3 (by decide) (hw (.fieldLink RX3 28 "MotionFloor$Ledger" "size" "I") (List.mem_of_getElem? (i := 0) rfl)) (fun _ h9 => h9) rfl dX3_write_1 ?_
  refine lv_iconst (v := 1) hx hb dX3_write_4 (by decide) ?_
  refine lv_isub hx hb dX3_write_5 ?_
  refine wTop (v1 := .int 0) (congrArg Value.int (by decide)) ?_
  refine lv_aload_n hx hb dX3_write_6 rfl (lv_at hl 0 rfl) ?_
  refine va_get (D := G) (ci := 2) (v := .int 7) (C := RX3) (T := TX3) (N := 4) hx hb hts iX3 hown hK hP 0 rfl rfl 0 (by decide) (hw (.fieldLink RX3 15 "MotionFloor$Ledger" "columns" "I") (List.mem_of_getElem? (i := 1) rfl)) (fun _ h9 => h9) rfl dX3_write_7 ?_
  refine lv_imul hx hb dX3_write_10 ?_
  refine wTop (v1 := .int 0) (congrArg Value.int (by decide)) ?_
  refine lv_iload_n hx hb dX3_write_11 rfl (lv_at hl 1 rfl) ?_
  refine lv_iadd hx hb dX3_write_12 ?_
  refine wTop (v1 := .int 5) (congrArg Value.int (by decide)) ?_
  refine lv_istore_n (lv' := [(3, .int 5), (0, .ref h0), (1, .int 5), (2, .int p0)]) hx hb dX3_write_13 rfl hl (by decide) rfl (fun ls hl => ?_)
  refine lv_iload_n hx hb dX3_write_14 rfl (lv_at hl 2 rfl) ?_
  refine lv_if_lt (tgt := 46) hx hb dX3_write_15 (by decide) (fun c_ => absurd c_ (by decide)) (fun _ => ?_)
  refine lv_iload_n hx hb dX3_write_18 rfl (lv_at hl 2 rfl) ?_
  refine lv_aload_n hx hb dX3_write_19 rfl (lv_at hl 1 rfl) ?_
  refine va_get (D := G) (ci := 2) (v := .int 7) (C := RX3) (T := TX3) (N := 4) hx hb hts iX3 hown hK hP 0 rfl rfl 0 (by decide) (hw (.fieldLink RX3 15 "MotionFloor$Ledger" "columns" "I") (List.mem_of_getElem? (i := 1) rfl)) (fun _ h9 => h9) rfl dX3_write_20 ?_
  refine lv_icmp_ge (tgt := 46) hx hb dX3_write_23 (by decide) (fun c_ => absurd c_ (by decide)) (fun _ => ?_)
  refine lv_iload_n hx hb dX3_write_26 rfl (lv_at hl 0 rfl) ?_
  refine lv_if_lt (tgt := 46) hx hb dX3_write_27 (by decide) (fun c_ => absurd c_ (by decide)) (fun _ => ?_)
  refine lv_iload_n hx hb dX3_write_30 rfl (lv_at hl 0 rfl) ?_
  refine lv_aload_n hx hb dX3_write_31 rfl (lv_at hl 1 rfl) ?_
  refine va_get (D := G) (ci := 2) (v := .ref h1) (C := RX3) (T := TX3) (N := 4) hx hb hts iX3 hown hK hP 0 rfl rfl 2 (by decide) (hw (.fieldLink RX3 24 "MotionFloor$Ledger" "cells" "[I") (List.mem_of_getElem? (i := 2) rfl)) (fun _ h9 => h9) rfl dX3_write_32 ?_
  refine va_alen (v := 112) hx hb hK hP 1 0 rfl rfl rfl dX3_write_35 ?_
  refine lv_icmp_ge (tgt := 46) hx hb dX3_write_36 (by decide) (fun c_ => absurd c_ (by decide)) (fun _ => ?_)
  refine lv_aload_n hx hb dX3_write_39 rfl (lv_at hl 1 rfl) ?_
  refine va_get (D := G) (ci := 2) (v := .ref h1) (C := RX3) (T := TX3) (N := 4) hx hb hts iX3 hown hK hP 0 rfl rfl 2 (by decide) (hw (.fieldLink RX3 24 "MotionFloor$Ledger" "cells" "[I") (List.mem_of_getElem? (i := 2) rfl)) (fun _ h9 => h9) rfl dX3_write_40 ?_
  refine lv_iload_n hx hb dX3_write_43 rfl (lv_at hl 0 rfl) ?_
  refine lv_iload_n hx hb dX3_write_44 rfl (lv_at hl 3 rfl) ?_
  refine va_iast hx hb hK hP hD hS 1 0 rfl rfl (vp_in_iff.mpr (by decide)) dX3_write_45 (fun H locs hP hD hS => ?_)
  have hP : va_P G vwCl [(h0, .inr (2, [.int 7, .int 600, .ref h1, .int 1])), (h1, .inl (K 0, 112, .inl (upd (upd (upd (upd (upd (upd (fun _ => 0) 0 3) 1 p0) 2 0) 3 0) 4 0) 5 p0)))] _ := hP
  have hD : va_D A [(h0, .inr (2, [.int 7, .int 600, .ref h1, .int 1])), (h1, .inl (K 0, 112, .inl (upd (upd (upd (upd (upd (upd (fun _ => 0) 0 3) 1 p0) 2 0) 3 0) 4 0) 5 p0)))] := hD
  have hP9 : va_P G vwCl [(h0, .inr (2, [.int 7, .int 600, .ref h1, .int 1])), (h1, .inl (K 0, 112, .inl (upd (upd (upd (upd (upd (upd (fun _ => 0) 0 3) 1 p0) 2 0) 3 0) 4 0) 5 p0)))] _ := hP
  have hD9 : va_D A [(h0, .inr (2, [.int 7, .int 600, .ref h1, .int 1])), (h1, .inl (K 0, 112, .inl (upd (upd (upd (upd (upd (upd (fun _ => 0) 0 3) 1 p0) 2 0) 3 0) 4 0) 5 p0)))] := hD
  exact W.vret hx hb hr (fun t ht hW => ⟨⟨_, rfl, rfl, by rw [ht]; exact hP9, hD9⟩, hS.F ht⟩) hS.2.2 dX3_write_46
def e_X3_write_13 : List Cond := [.fieldLink RX3 28 "MotionFloor$Ledger" "size" "I", .fieldLink RX3 15 "MotionFloor$Ledger" "columns" "I", .fieldLink RX3 24 "MotionFloor$Ledger" "cells" "[I"]
def v_X3_write_13 : List Cond := .code yX3_write cX3_write 4 none :: (e_X3_write_13 ++ (wsX30 ++ []))
theorem te_X3_write_13 : GoodIn lw_tbl e_X3_write_13 := wGc z302 (wGc z38 (wGc z36 (wG0)))
theorem t_X3_write_13 : GoodIn lw_tbl v_X3_write_13 := wGc z334 (wGa te_X3_write_13 (wGa zcX3 (wG0)))
set_option maxHeartbeats 4000000 in
set_option maxRecDepth 100000 in
theorem m_X3_write_13 (l : Launch) (G : va_G) (K : Nat → ClassId) (h0 h1 : Nat) (p0 : Int32) (sz : Nat) (bp0 : 0 ≤ p0.toInt ∧ p0.toInt ≤ 200) : Met l yX3_write v_X3_write_13 ({ frames := 0, cells := 0, slots := 0, locals := 0 }) (va_Pc [.ref h0, .int 6, .int 0] (wS G K sz [(h0, .inr (2, [.int 7, .int 600, .ref h1, .int 1])), (h1, .inl (K 0, 112, .inl (upd (upd (upd (upd (upd (upd (fun _ => 0) 0 3) 1 p0) 2 0) 3 0) 4 0) 5 p0)))])) (va_Qv (fun u : va_W => (u = [(h0, .inr (2, [.int 7, .int 600, .ref h1, .int 1])), (h1, .inl (K 0, 112, .inl (upd (upd (upd (upd (upd (upd (upd (fun _ => 0) 0 3) 1 p0) 2 0) 3 0) 4 0) 5 p0) 6 0)))])) (wB G (va_A [(h0, .inr (2, [.int 7, .int 600, .ref h1, .int 1])), (h1, .inl (K 0, 112, .inl (upd (upd (upd (upd (upd (upd (fun _ => 0) 0 3) 1 p0) 2 0) 3 0) 4 0) 5 p0)))] sz)) (va_A [(h0, .inr (2, [.int 7, .int 600, .ref h1, .int 1])), (h1, .inl (K 0, 112, .inl (upd (upd (upd (upd (upd (upd (fun _ => 0) 0 3) 1 p0) 2 0) 3 0) 4 0) 5 p0)))] sz)) 0 0 (va_A [(h0, .inr (2, [.int 7, .int 600, .ref h1, .int 1])), (h1, .inl (K 0, 112, .inl (upd (upd (upd (upd (upd (upd (fun _ => 0) 0 3) 1 p0) 2 0) 3 0) 4 0) 5 p0)))] sz) := by
  refine Met.ofW (cc := cX3_write) (maxL := 4) (ret := none) (by decide) rfl ?_
  intro p e s m args below meth c s₁ B hml hv
  obtain ⟨rfl, hsz, hP, hK, hD0, hE⟩ := hv
  have hx := B.exec
  have hb := B.bytes
  have hr := B.returns
  have hts := atoms_spec (ws := v_X3_write_13) B.pre
  have t_ := t_X3_write_13
  have mw : ∀ w ∈ e_X3_write_13, w ∈ v_X3_write_13 := fun w h => List.mem_cons_of_mem _ (List.mem_append_left _ h)
  have hw := fun w (h : w ∈ e_X3_write_13) => hts w (mw w h)
  have iX3 : ∀ w ∈ wsX30, w ∈ v_X3_write_13 := fun w h => List.mem_cons_of_mem _ (List.mem_append_right _ (List.mem_append_left _ h))
  have hown : s.vm.findClass RX3 = some m.cls := findClass_of_methodNamed B.named
  have hlocks := B.notSynchronized
  subst hsz
  have hD := hD0.self (sz := s.heap.size)
  generalize hAe : va_A [(h0, .inr (2, [.int 7, .int 600, .ref h1, .int 1])), (h1, .inl (K 0, 112, .inl (upd (upd (upd (upd (upd (upd (fun _ => 0) 0 3) 1 p0) 2 0) 3 0) 4 0) 5 p0)))] s.heap.size = A at hD ⊢
  have hA : ∀ q : Nat, s.heap.size ≤ q → A q := fun q h => by rw [← hAe]; exact Or.inr h
  have hS : va_S A s.heap s.heap [] := va_S.rf
  have hP : va_P G vwCl [(h0, .inr (2, [.int 7, .int 600, .ref h1, .int 1])), (h1, .inl (K 0, 112, .inl (upd (upd (upd (upd (upd (upd (fun _ => 0) 0 3) 1 p0) 2 0) 3 0) 4 0) 5 p0)))] s.heap := hP
  have hl := lv_entry ([.ref h0, .int 6, .int 0]) (n := 4) (Nat.le_of_ble_eq_true rfl)
  rw [lg_entry_eq]
  generalize (lg_sl ([.ref h0, .int 6, .int 0]) ++ List.replicate (4 - (lg_sl ([.ref h0, .int 6, .int 0])).length) Slot.unset).toArray = ls at hl ⊢
  have hl : lv_has ls 4 [(0, .ref h0), (1, .int 6), (2, .int 0)] := hl
  refine lv_aload_n hx hb dX3_write_0 rfl (lv_at hl 0 rfl) ?_
  refine va_get (D := G) (ci := 2) (v := .int 1) (C := RX3) (T := TX3) (N := 4) hx hb hts iX3 hown hK hP 0 rfl rfl 3 (by decide) (hw (.fieldLink RX3 28 "MotionFloor$Ledger" "size" "I") (List.mem_of_getElem? (i := 0) rfl)) (fun _ h9 => h9) rfl dX3_write_1 ?_
  refine lv_iconst (v := 1) hx hb dX3_write_4 (by decide) ?_
  refine lv_isub hx hb dX3_write_5 ?_
  refine wTop (v1 := .int 0) (congrArg Value.int (by decide)) ?_
  refine lv_aload_n hx hb dX3_write_6 rfl (lv_at hl 0 rfl) ?_
  refine va_get (D := G) (ci := 2) (v := .int 7) (C := RX3) (T := TX3) (N := 4) hx hb hts iX3 hown hK hP 0 rfl rfl 0 (by decide) (hw (.fieldLink RX3 15 "MotionFloor$Ledger" "columns" "I") (List.mem_of_getElem? (i := 1) rfl)) (fun _ h9 => h9) rfl dX3_write_7 ?_
  refine lv_imul hx hb dX3_write_10 ?_
  refine wTop (v1 := .int 0) (congrArg Value.int (by decide)) ?_
  refine lv_iload_n hx hb dX3_write_11 rfl (lv_at hl 1 rfl) ?_
  refine lv_iadd hx hb dX3_write_12 ?_
  refine wTop (v1 := .int 6) (congrArg Value.int (by decide)) ?_
  refine lv_istore_n (lv' := [(3, .int 6), (0, .ref h0), (1, .int 6), (2, .int 0)]) hx hb dX3_write_13 rfl hl (by decide) rfl (fun ls hl => ?_)
  refine lv_iload_n hx hb dX3_write_14 rfl (lv_at hl 2 rfl) ?_
  refine lv_if_lt (tgt := 46) hx hb dX3_write_15 (by decide) (fun c_ => absurd c_ (by decide)) (fun _ => ?_)
  refine lv_iload_n hx hb dX3_write_18 rfl (lv_at hl 2 rfl) ?_
  refine lv_aload_n hx hb dX3_write_19 rfl (lv_at hl 1 rfl) ?_
  refine va_get (D := G) (ci := 2) (v := .int 7) (C := RX3) (T := TX3) (N := 4) hx hb hts iX3 hown hK hP 0 rfl rfl 0 (by decide) (hw (.fieldLink RX3 15 "MotionFloor$Ledger" "columns" "I") (List.mem_of_getElem? (i := 1) rfl)) (fun _ h9 => h9) rfl dX3_write_20 ?_
  refine lv_icmp_ge (tgt := 46) hx hb dX3_write_23 (by decide) (fun c_ => absurd c_ (by decide)) (fun _ => ?_)
  refine lv_iload_n hx hb dX3_write_26 rfl (lv_at hl 0 rfl) ?_
  refine lv_if_lt (tgt := 46) hx hb dX3_write_27 (by decide) (fun c_ => absurd c_ (by decide)) (fun _ => ?_)
  refine lv_iload_n hx hb dX3_write_30 rfl (lv_at hl 0 rfl) ?_
  refine lv_aload_n hx hb dX3_write_31 rfl (lv_at hl 1 rfl) ?_
  refine va_get (D := G) (ci := 2) (v := .ref h1) (C := RX3) (T := TX3) (N := 4) hx hb hts iX3 hown hK hP 0 rfl rfl 2 (by decide) (hw (.fieldLink RX3 24 "MotionFloor$Ledger" "cells" "[I") (List.mem_of_getElem? (i := 2) rfl)) (fun _ h9 => h9) rfl dX3_write_32 ?_
  refine va_alen (v := 112) hx hb hK hP 1 0 rfl rfl rfl dX3_write_35 ?_
  refine lv_icmp_ge (tgt := 46) hx hb dX3_write_36 (by decide) (fun c_ => absurd c_ (by decide)) (fun _ => ?_)
  refine lv_aload_n hx hb dX3_write_39 rfl (lv_at hl 1 rfl) ?_
  refine va_get (D := G) (ci := 2) (v := .ref h1) (C := RX3) (T := TX3) (N := 4) hx hb hts iX3 hown hK hP 0 rfl rfl 2 (by decide) (hw (.fieldLink RX3 24 "MotionFloor$Ledger" "cells" "[I") (List.mem_of_getElem? (i := 2) rfl)) (fun _ h9 => h9) rfl dX3_write_40 ?_
  refine lv_iload_n hx hb dX3_write_43 rfl (lv_at hl 0 rfl) ?_
  refine lv_iload_n hx hb dX3_write_44 rfl (lv_at hl 3 rfl) ?_
  refine va_iast hx hb hK hP hD hS 1 0 rfl rfl (vp_in_iff.mpr (by decide)) dX3_write_45 (fun H locs hP hD hS => ?_)
  have hP : va_P G vwCl [(h0, .inr (2, [.int 7, .int 600, .ref h1, .int 1])), (h1, .inl (K 0, 112, .inl (upd (upd (upd (upd (upd (upd (upd (fun _ => 0) 0 3) 1 p0) 2 0) 3 0) 4 0) 5 p0) 6 0)))] _ := hP
  have hD : va_D A [(h0, .inr (2, [.int 7, .int 600, .ref h1, .int 1])), (h1, .inl (K 0, 112, .inl (upd (upd (upd (upd (upd (upd (upd (fun _ => 0) 0 3) 1 p0) 2 0) 3 0) 4 0) 5 p0) 6 0)))] := hD
  have hP9 : va_P G vwCl [(h0, .inr (2, [.int 7, .int 600, .ref h1, .int 1])), (h1, .inl (K 0, 112, .inl (upd (upd (upd (upd (upd (upd (upd (fun _ => 0) 0 3) 1 p0) 2 0) 3 0) 4 0) 5 p0) 6 0)))] _ := hP
  have hD9 : va_D A [(h0, .inr (2, [.int 7, .int 600, .ref h1, .int 1])), (h1, .inl (K 0, 112, .inl (upd (upd (upd (upd (upd (upd (upd (fun _ => 0) 0 3) 1 p0) 2 0) 3 0) 4 0) 5 p0) 6 0)))] := hD
  exact W.vret hx hb hr (fun t ht hW => ⟨⟨_, rfl, rfl, by rw [ht]; exact hP9, hD9⟩, hS.F ht⟩) hS.2.2 dX3_write_46
def e_X0_enact_2 : List Cond := [.methodLink RX0 155 yX8_against, .static yX8_against, .initialized RX8, .fieldLink RX0 73 "MotionFloor$Assembly" "reason" "I", .methodLink RX0 161 yX1_perform, .static yX1_perform, .initialized RX1, .fieldLink RX0 41 "MotionFloor$Assembly" "minutes" "LMotionFloor$Ledger;", .methodLink RX0 166 yX3_open, .instanceMethod yX3_open, .selects RX3 yX3_open yX3_open, .initialized RX3, .methodLink RX0 169 yX3_write, .instanceMethod yX3_write, .selects RX3 yX3_write yX3_write, .fieldLink RX0 21 "MotionFloor$Assembly" "pending" "LMotionFloor$Pile;", .fieldLink RX0 96 "MotionFloor$Pile" "size" "I"]
def v_X0_enact_2 : List Cond := .code yX0_enact cX0_enact 7 (some .int) :: (e_X0_enact_2 ++ (wsX00 ++ (wsX50 ++ (v_X8_against_2 ++ (v_X1_perform_1 ++ (v_X3_open_0 ++ (v_X3_write_7 ++ (v_X3_write_8 ++ (v_X3_write_9 ++ (v_X3_write_10 ++ (v_X3_write_11 ++ (v_X3_write_12 ++ (v_X3_write_13 ++ [])))))))))))))
theorem te_X0_enact_2 : GoodIn lw_tbl e_X0_enact_2 := wGc z345 (wGc z344 (wGc z297 (wGc z263 (wGc z343 (wGc z342 (wGc z341 (wGc z86 (wGc z340 (wGc z339 (wGc z338 (wGc z89 (wGc z337 (wGc z336 (wGc z335 (wGc z98 (wGc z251 (wG0)))))))))))))))))
theorem t_X0_enact_2 : GoodIn lw_tbl v_X0_enact_2 := wGc z346 (wGa te_X0_enact_2 (wGa zcX0 (wGa zcX5 (wGa t_X8_against_2 (wGa t_X1_perform_1 (wGa t_X3_open_0 (wGa t_X3_write_7 (wGa t_X3_write_8 (wGa t_X3_write_9 (wGa t_X3_write_10 (wGa t_X3_write_11 (wGa t_X3_write_12 (wGa t_X3_write_13 (wG0))))))))))))))
set_option maxHeartbeats 4000000 in
set_option maxRecDepth 100000 in
theorem m_X0_enact_2 (l : Launch) (G : va_G) (K : Nat → ClassId) (h0 h1 h2 h3 h4 h5 h6 h7 h8 h9 h10 h11 : Nat) (p0 : Int32) (sz : Nat) : Met l yX0_enact v_X0_enact_2 ({ frames := 3, cells := 0, slots := 0, locals := 70 }) (va_Pc [.ref h0, .int 3, .int p0, .int 0, .int 0, .int 0] (wS G K sz [(h0, .inr (0, [.ref h1, .ref h2, .ref h5, .ref h6, .ref h3, .ref h7, .ref h8, .int 0, .int 0, .int 0, .null])), (h1, .inr (1, [.int 1, .ref h9, .int 0, .int (-1), .int 0, .int 0, .int (-1), .ref h10])), (h2, .inr (4, [.ref h11, .int 0])), (h3, .inr (2, [.int 7, .int 600, .ref h4, .int 0])), (h4, .inl (K 0, 112, .inl (fun _ => 0)))])) (va_Qi (fun (r : Int32) (u : va_W) => ((((p0.toInt < 0 ∨ (p0.toInt ≥ 0 ∧ p0.toInt > 200)))) ∧ (-9) = r ∧ u = [(h0, .inr (0, [.ref h1, .ref h2, .ref h5, .ref h6, .ref h3, .ref h7, .ref h8, .int 0, .int 0, .int 9, .null])), (h1, .inr (1, [.int 1, .ref h9, .int 0, .int (-1), .int 0, .int 0, .int (-1), .ref h10])), (h2, .inr (4, [.ref h11, .int 0])), (h3, .inr (2, [.int 7, .int 600, .ref h4, .int 0])), (h4, .inl (K 0, 112, .inl (fun _ => 0)))]) ∨ (((((p0.toInt ≥ 0 ∧ p0.toInt ≤ 200)))) ∧ p0 = r ∧ u = [(h0, .inr (0, [.ref h1, .ref h2, .ref h5, .ref h6, .ref h3, .ref h7, .ref h8, .int 0, .int 0, .int 0, .null])), (h1, .inr (1, [.int 1, .ref h9, .int 0, .int (-1), .int p0, .int 0, .int (-1), .ref h10])), (h2, .inr (4, [.ref h11, .int 0])), (h3, .inr (2, [.int 7, .int 600, .ref h4, .int 1])), (h4, .inl (K 0, 112, .inl (upd (upd (upd (upd (upd (upd (upd (fun _ => 0) 0 3) 1 p0) 2 0) 3 0) 4 0) 5 p0) 6 0)))])) (wB G (va_A [(h0, .inr (0, [.ref h1, .ref h2, .ref h5, .ref h6, .ref h3, .ref h7, .ref h8, .int 0, .int 0, .int 0, .null])), (h1, .inr (1, [.int 1, .ref h9, .int 0, .int (-1), .int 0, .int 0, .int (-1), .ref h10])), (h2, .inr (4, [.ref h11, .int 0])), (h3, .inr (2, [.int 7, .int 600, .ref h4, .int 0])), (h4, .inl (K 0, 112, .inl (fun _ => 0)))] sz)) (va_A [(h0, .inr (0, [.ref h1, .ref h2, .ref h5, .ref h6, .ref h3, .ref h7, .ref h8, .int 0, .int 0, .int 0, .null])), (h1, .inr (1, [.int 1, .ref h9, .int 0, .int (-1), .int 0, .int 0, .int (-1), .ref h10])), (h2, .inr (4, [.ref h11, .int 0])), (h3, .inr (2, [.int 7, .int 600, .ref h4, .int 0])), (h4, .inl (K 0, 112, .inl (fun _ => 0)))] sz)) 0 0 (va_A [(h0, .inr (0, [.ref h1, .ref h2, .ref h5, .ref h6, .ref h3, .ref h7, .ref h8, .int 0, .int 0, .int 0, .null])), (h1, .inr (1, [.int 1, .ref h9, .int 0, .int (-1), .int 0, .int 0, .int (-1), .ref h10])), (h2, .inr (4, [.ref h11, .int 0])), (h3, .inr (2, [.int 7, .int 600, .ref h4, .int 0])), (h4, .inl (K 0, 112, .inl (fun _ => 0)))] sz) := by
  refine Met.ofW (cc := cX0_enact) (maxL := 7) (ret := (some .int)) (by decide) rfl ?_
  intro p e s m args below meth c s₁ B hml hv
  obtain ⟨rfl, hsz, hP, hK, hD0, hE⟩ := hv
  have hx := B.exec
  have hb := B.bytes
  have hr := B.returns
  have hts := atoms_spec (ws := v_X0_enact_2) B.pre
  have t_ := t_X0_enact_2
  have mw : ∀ w ∈ e_X0_enact_2, w ∈ v_X0_enact_2 := fun w h => List.mem_cons_of_mem _ (List.mem_append_left _ h)
  have hw := fun w (h : w ∈ e_X0_enact_2) => hts w (mw w h)
  have iX0 : ∀ w ∈ wsX00, w ∈ v_X0_enact_2 := fun w h => List.mem_cons_of_mem _ (List.mem_append_right _ (List.mem_append_left _ h))
  have iX5 : ∀ w ∈ wsX50, w ∈ v_X0_enact_2 := fun w h => List.mem_cons_of_mem _ (List.mem_append_right _ (List.mem_append_right _ (List.mem_append_left _ h)))
  have j_X8_against_2 : ∀ w ∈ v_X8_against_2, w ∈ v_X0_enact_2 := fun w h => List.mem_cons_of_mem _ (List.mem_append_right _ (List.mem_append_right _ (List.mem_append_right _ (List.mem_append_left _ h))))
  have j_X1_perform_1 : ∀ w ∈ v_X1_perform_1, w ∈ v_X0_enact_2 := fun w h => List.mem_cons_of_mem _ (List.mem_append_right _ (List.mem_append_right _ (List.mem_append_right _ (List.mem_append_right _ (List.mem_append_left _ h)))))
  have j_X3_open_0 : ∀ w ∈ v_X3_open_0, w ∈ v_X0_enact_2 := fun w h => List.mem_cons_of_mem _ (List.mem_append_right _ (List.mem_append_right _ (List.mem_append_right _ (List.mem_append_right _ (List.mem_append_right _ (List.mem_append_left _ h))))))
  have j_X3_write_7 : ∀ w ∈ v_X3_write_7, w ∈ v_X0_enact_2 := fun w h => List.mem_cons_of_mem _ (List.mem_append_right _ (List.mem_append_right _ (List.mem_append_right _ (List.mem_append_right _ (List.mem_append_right _ (List.mem_append_right _ (List.mem_append_left _ h)))))))
  have j_X3_write_8 : ∀ w ∈ v_X3_write_8, w ∈ v_X0_enact_2 := fun w h => List.mem_cons_of_mem _ (List.mem_append_right _ (List.mem_append_right _ (List.mem_append_right _ (List.mem_append_right _ (List.mem_append_right _ (List.mem_append_right _ (List.mem_append_right _ (List.mem_append_left _ h))))))))
  have j_X3_write_9 : ∀ w ∈ v_X3_write_9, w ∈ v_X0_enact_2 := fun w h => List.mem_cons_of_mem _ (List.mem_append_right _ (List.mem_append_right _ (List.mem_append_right _ (List.mem_append_right _ (List.mem_append_right _ (List.mem_append_right _ (List.mem_append_right _ (List.mem_append_right _ (List.mem_append_left _ h)))))))))
  have j_X3_write_10 : ∀ w ∈ v_X3_write_10, w ∈ v_X0_enact_2 := fun w h => List.mem_cons_of_mem _ (List.mem_append_right _ (List.mem_append_right _ (List.mem_append_right _ (List.mem_append_right _ (List.mem_append_right _ (List.mem_append_right _ (List.mem_append_right _ (List.mem_append_right _ (List.mem_append_right _ (List.mem_append_left _ h))))))))))
  have j_X3_write_11 : ∀ w ∈ v_X3_write_11, w ∈ v_X0_enact_2 := fun w h => List.mem_cons_of_mem _ (List.mem_append_right _ (List.mem_append_right _ (List.mem_append_right _ (List.mem_append_right _ (List.mem_append_right _ (List.mem_append_right _ (List.mem_append_right _ (List.mem_append_right _ (List.mem_append_right _ (List.mem_append_right _ (List.mem_append_left _ h)))))))))))
  have j_X3_write_12 : ∀ w ∈ v_X3_write_12, w ∈ v_X0_enact_2 := fun w h => List.mem_cons_of_mem _ (List.mem_append_right _ (List.mem_append_right _ (List.mem_append_right _ (List.mem_append_right _ (List.mem_append_right _ (List.mem_append_right _ (List.mem_append_right _ (List.mem_append_right _ (List.mem_append_right _ (List.mem_append_right _ (List.mem_append_right _ (List.mem_append_left _ h))))))))))))
  have j_X3_write_13 : ∀ w ∈ v_X3_write_13, w ∈ v_X0_enact_2 := fun w h => List.mem_cons_of_mem _ (List.mem_append_right _ (List.mem_append_right _ (List.mem_append_right _ (List.mem_append_right _ (List.mem_append_right _ (List.mem_append_right _ (List.mem_append_right _ (List.mem_append_right _ (List.mem_append_right _ (List.mem_append_right _ (List.mem_append_right _ (List.mem_append_right _ (List.mem_append_left _ h)))))))))))))
  have hown : s.vm.findClass RX0 = some m.cls := findClass_of_methodNamed B.named
  have hlocks := B.notSynchronized
  subst hsz
  have hD := hD0.self (sz := s.heap.size)
  generalize hAe : va_A [(h0, .inr (0, [.ref h1, .ref h2, .ref h5, .ref h6, .ref h3, .ref h7, .ref h8, .int 0, .int 0, .int 0, .null])), (h1, .inr (1, [.int 1, .ref h9, .int 0, .int (-1), .int 0, .int 0, .int (-1), .ref h10])), (h2, .inr (4, [.ref h11, .int 0])), (h3, .inr (2, [.int 7, .int 600, .ref h4, .int 0])), (h4, .inl (K 0, 112, .inl (fun _ => 0)))] s.heap.size = A at hD ⊢
  have hA : ∀ q : Nat, s.heap.size ≤ q → A q := fun q h => by rw [← hAe]; exact Or.inr h
  have hS : va_S A s.heap s.heap [] := va_S.rf
  have hP : va_P G vwCl [(h0, .inr (0, [.ref h1, .ref h2, .ref h5, .ref h6, .ref h3, .ref h7, .ref h8, .int 0, .int 0, .int 0, .null])), (h1, .inr (1, [.int 1, .ref h9, .int 0, .int (-1), .int 0, .int 0, .int (-1), .ref h10])), (h2, .inr (4, [.ref h11, .int 0])), (h3, .inr (2, [.int 7, .int 600, .ref h4, .int 0])), (h4, .inl (K 0, 112, .inl (fun _ => 0)))] s.heap := hP
  have hl := lv_entry ([.ref h0, .int 3, .int p0, .int 0, .int 0, .int 0]) (n := 7) (Nat.le_of_ble_eq_true rfl)
  rw [lg_entry_eq]
  generalize (lg_sl ([.ref h0, .int 3, .int p0, .int 0, .int 0, .int 0]) ++ List.replicate (7 - (lg_sl ([.ref h0, .int 3, .int p0, .int 0, .int 0, .int 0])).length) Slot.unset).toArray = ls at hl ⊢
  have hl : lv_has ls 7 [(0, .ref h0), (1, .int 3), (2, .int p0), (3, .int 0), (4, .int 0), (5, .int 0)] := hl
  refine lv_aload_n hx hb dX0_enact_0 rfl (lv_at hl 0 rfl) ?_
  refine lv_aload_n hx hb dX0_enact_1 rfl (lv_at hl 0 rfl) ?_
  refine lv_iload_n hx hb dX0_enact_2 rfl (lv_at hl 1 rfl) ?_
  refine lv_iload_n hx hb dX0_enact_3 rfl (lv_at hl 2 rfl) ?_
  refine lv_iload_n hx hb dX0_enact_4 rfl (lv_at hl 3 rfl) ?_
  refine lv_iload hx hb dX0_enact_5 (lv_at hl 4 rfl) ?_
  refine lv_iload hx hb dX0_enact_7 (lv_at hl 5 rfl) ?_
  have hPc := hP.sub (ws' := [(h0, .inr (0, [.ref h1, .ref h2, .ref h5, .ref h6, .ref h3, .ref h7, .ref h8, .int 0, .int 0, .int 0, .null])), (h2, .inr (4, [.ref h11, .int 0])), (h3, .inr (2, [.int 7, .int 600, .ref h4, .int 0]))]) [0, 2, 3] rfl
  have hDc := hD.sub (ws' := [(h0, .inr (0, [.ref h1, .ref h2, .ref h5, .ref h6, .ref h3, .ref h7, .ref h8, .int 0, .int 0, .int 0, .null])), (h2, .inr (4, [.ref h11, .int 0])), (h3, .inr (2, [.int 7, .int 600, .ref h4, .int 0]))]) [0, 2, 3] (by decide) rfl
  refine wGoi (wc := [(h0, .inr (0, [.ref h1, .ref h2, .ref h5, .ref h6, .ref h3, .ref h7, .ref h8, .int 0, .int 0, .int 0, .null])), (h2, .inr (4, [.ref h11, .int 0])), (h3, .inr (2, [.int 7, .int 600, .ref h4, .int 0]))]) (wr := [(h1, .inr (1, [.int 1, .ref h9, .int 0, .int (-1), .int 0, .int 0, .int (-1), .ref h10])), (h4, .inl (K 0, 112, .inl (fun _ => 0)))]) (va_runS (As := [.ref h0, .int 3, .int p0, .int 0, .int 0, .int 0]) (rest := [.ref h0]) ⟨hx, hb, hml, hown, hts⟩ (m_X8_against_2 l G K h0 h2 h3 h1 h5 h6 h7 h8 h11 h4 p0 _) (va_cwS 6 hts (wGS t_ (mw (.methodLink RX0 155 yX8_against) (List.mem_of_getElem? (i := 0) rfl)) (mw (.static yX8_against) (List.mem_of_getElem? (i := 1) rfl)) (mw (.initialized RX8) (List.mem_of_getElem? (i := 2) rfl)) j_X8_against_2) rfl rfl rfl (by decide +kernel) ⟨Nat.le_of_ble_eq_true rfl, Nat.le_of_ble_eq_true rfl⟩) (wPS hK hE hPc hDc) rfl rfl hl.1 rfl (lv_room (Nat.le_of_ble_eq_true rfl)) dX0_enact_9 ⟨Nat.le_of_ble_eq_true rfl, Nat.le_of_ble_eq_true rfl⟩) hP hD hS hA [0, 2, 3] [1, 4] rfl rfl rfl (by decide) (fun r u H locs hw hP hD hS => ?_)
  rcases hw with ⟨c_w, rfl, rfl⟩ | ⟨c_w, rfl, rfl⟩
  · have c1 := c_w
    have hP : va_P G vwCl [(h1, .inr (1, [.int 1, .ref h9, .int 0, .int (-1), .int 0, .int 0, .int (-1), .ref h10])), (h4, .inl (K 0, 112, .inl (fun _ => 0))), (h0, .inr (0, [.ref h1, .ref h2, .ref h5, .ref h6, .ref h3, .ref h7, .ref h8, .int 0, .int 0, .int 0, .null])), (h2, .inr (4, [.ref h11, .int 0])), (h3, .inr (2, [.int 7, .int 600, .ref h4, .int 0]))] _ := hP
    have hD : va_D A [(h1, .inr (1, [.int 1, .ref h9, .int 0, .int (-1), .int 0, .int 0, .int (-1), .ref h10])), (h4, .inl (K 0, 112, .inl (fun _ => 0))), (h0, .inr (0, [.ref h1, .ref h2, .ref h5, .ref h6, .ref h3, .ref h7, .ref h8, .int 0, .int 0, .int 0, .null])), (h2, .inr (4, [.ref h11, .int 0])), (h3, .inr (2, [.int 7, .int 600, .ref h4, .int 0]))] := hD
    refine va_put (D := G) (ci := 0) (v := .int 9) (ty := .int) (C := RX0) (T := TX0) (N := 11) hx hb hts iX0 tyX0 tyX0_ok nmX0 hown hK hP hD hS 2 rfl rfl 9 (by decide) (hw (.fieldLink RX0 73 "MotionFloor$Assembly" "reason" "I") (List.mem_of_getElem? (i := 3) rfl)) (fun _ h9 => h9) rfl (by decide +kernel) rfl rfl (Nat.le_of_ble_eq_true rfl) dX0_enact_12 (fun H locs hP hD hS => ?_)
    have hP : va_P G vwCl [(h1, .inr (1, [.int 1, .ref h9, .int 0, .int (-1), .int 0, .int 0, .int (-1), .ref h10])), (h4, .inl (K 0, 112, .inl (fun _ => 0))), (h0, .inr (0, [.ref h1, .ref h2, .ref h5, .ref h6, .ref h3, .ref h7, .ref h8, .int 0, .int 0, .int 9, .null])), (h2, .inr (4, [.ref h11, .int 0])), (h3, .inr (2, [.int 7, .int 600, .ref h4, .int 0]))] _ := hP
    have hD : va_D A [(h1, .inr (1, [.int 1, .ref h9, .int 0, .int (-1), .int 0, .int 0, .int (-1), .ref h10])), (h4, .inl (K 0, 112, .inl (fun _ => 0))), (h0, .inr (0, [.ref h1, .ref h2, .ref h5, .ref h6, .ref h3, .ref h7, .ref h8, .int 0, .int 0, .int 9, .null])), (h2, .inr (4, [.ref h11, .int 0])), (h3, .inr (2, [.int 7, .int 600, .ref h4, .int 0]))] := hD
    refine lv_aload_n hx hb dX0_enact_15 rfl (lv_at hl 0 rfl) ?_
    refine va_get (D := G) (ci := 0) (v := .int 9) (C := RX0) (T := TX0) (N := 11) hx hb hts iX0 hown hK hP 2 rfl rfl 9 (by decide) (hw (.fieldLink RX0 73 "MotionFloor$Assembly" "reason" "I") (List.mem_of_getElem? (i := 3) rfl)) (fun _ h9 => h9) rfl dX0_enact_16 ?_
    refine lv_if_eq (tgt := 28) hx hb dX0_enact_19 (by decide) (fun c_ => absurd c_ (by decide)) (fun _ => ?_)
    refine lv_aload_n hx hb dX0_enact_22 rfl (lv_at hl 0 rfl) ?_
    refine va_get (D := G) (ci := 0) (v := .int 9) (C := RX0) (T := TX0) (N := 11) hx hb hts iX0 hown hK hP 2 rfl rfl 9 (by decide) (hw (.fieldLink RX0 73 "MotionFloor$Assembly" "reason" "I") (List.mem_of_getElem? (i := 3) rfl)) (fun _ h9 => h9) rfl dX0_enact_23 ?_
    refine lv_ineg hx hb dX0_enact_26 ?_
    refine wTop (v1 := .int (-9)) (congrArg Value.int (by decide)) ?_
    have hP9 := hP.sub (ws' := [(h0, .inr (0, [.ref h1, .ref h2, .ref h5, .ref h6, .ref h3, .ref h7, .ref h8, .int 0, .int 0, .int 9, .null])), (h1, .inr (1, [.int 1, .ref h9, .int 0, .int (-1), .int 0, .int 0, .int (-1), .ref h10])), (h2, .inr (4, [.ref h11, .int 0])), (h3, .inr (2, [.int 7, .int 600, .ref h4, .int 0])), (h4, .inl (K 0, 112, .inl (fun _ => 0)))]) [2, 0, 3, 4, 1] rfl
    have hD9 := hD.sub (ws' := [(h0, .inr (0, [.ref h1, .ref h2, .ref h5, .ref h6, .ref h3, .ref h7, .ref h8, .int 0, .int 0, .int 9, .null])), (h1, .inr (1, [.int 1, .ref h9, .int 0, .int (-1), .int 0, .int 0, .int (-1), .ref h10])), (h2, .inr (4, [.ref h11, .int 0])), (h3, .inr (2, [.int 7, .int 600, .ref h4, .int 0])), (h4, .inl (K 0, 112, .inl (fun _ => 0)))]) [2, 0, 3, 4, 1] (by decide) rfl
    exact W.iret (v := (-9)) hx hb hr (fun t ht hW => ⟨⟨(-9), _, rfl, Or.inl ⟨(by first | omega | decide | simp), rfl, rfl⟩, by rw [ht]; exact hP9, hD9⟩, hS.F ht⟩) hS.2.2 dX0_enact_27
  · have c2 := c_w
    have hP : va_P G vwCl [(h1, .inr (1, [.int 1, .ref h9, .int 0, .int (-1), .int 0, .int 0, .int (-1), .ref h10])), (h4, .inl (K 0, 112, .inl (fun _ => 0))), (h0, .inr (0, [.ref h1, .ref h2, .ref h5, .ref h6, .ref h3, .ref h7, .ref h8, .int 0, .int 0, .int 0, .null])), (h2, .inr (4, [.ref h11, .int 0])), (h3, .inr (2, [.int 7, .int 600, .ref h4, .int 0]))] _ := hP
    have hD : va_D A [(h1, .inr (1, [.int 1, .ref h9, .int 0, .int (-1), .int 0, .int 0, .int (-1), .ref h10])), (h4, .inl (K 0, 112, .inl (fun _ => 0))), (h0, .inr (0, [.ref h1, .ref h2, .ref h5, .ref h6, .ref h3, .ref h7, .ref h8, .int 0, .int 0, .int 0, .null])), (h2, .inr (4, [.ref h11, .int 0])), (h3, .inr (2, [.int 7, .int 600, .ref h4, .int 0]))] := hD
    refine va_put (D := G) (ci := 0) (v := .int 0) (ty := .int) (C := RX0) (T := TX0) (N := 11) hx hb hts iX0 tyX0 tyX0_ok nmX0 hown hK hP hD hS 2 rfl rfl 9 (by decide) (hw (.fieldLink RX0 73 "MotionFloor$Assembly" "reason" "I") (List.mem_of_getElem? (i := 3) rfl)) (fun _ h9 => h9) rfl (by decide +kernel) rfl rfl (Nat.le_of_ble_eq_true rfl) dX0_enact_12 (fun H locs hP hD hS => ?_)
    have hP : va_P G vwCl [(h1, .inr (1, [.int 1, .ref h9, .int 0, .int (-1), .int 0, .int 0, .int (-1), .ref h10])), (h4, .inl (K 0, 112, .inl (fun _ => 0))), (h0, .inr (0, [.ref h1, .ref h2, .ref h5, .ref h6, .ref h3, .ref h7, .ref h8, .int 0, .int 0, .int 0, .null])), (h2, .inr (4, [.ref h11, .int 0])), (h3, .inr (2, [.int 7, .int 600, .ref h4, .int 0]))] _ := hP
    have hD : va_D A [(h1, .inr (1, [.int 1, .ref h9, .int 0, .int (-1), .int 0, .int 0, .int (-1), .ref h10])), (h4, .inl (K 0, 112, .inl (fun _ => 0))), (h0, .inr (0, [.ref h1, .ref h2, .ref h5, .ref h6, .ref h3, .ref h7, .ref h8, .int 0, .int 0, .int 0, .null])), (h2, .inr (4, [.ref h11, .int 0])), (h3, .inr (2, [.int 7, .int 600, .ref h4, .int 0]))] := hD
    refine lv_aload_n hx hb dX0_enact_15 rfl (lv_at hl 0 rfl) ?_
    refine va_get (D := G) (ci := 0) (v := .int 0) (C := RX0) (T := TX0) (N := 11) hx hb hts iX0 hown hK hP 2 rfl rfl 9 (by decide) (hw (.fieldLink RX0 73 "MotionFloor$Assembly" "reason" "I") (List.mem_of_getElem? (i := 3) rfl)) (fun _ h9 => h9) rfl dX0_enact_16 ?_
    refine lv_if_eq (tgt := 28) hx hb dX0_enact_19 (by decide) (fun _ => ?_) (fun c_ => absurd c_ (by decide))
    refine lv_aload_n hx hb dX0_enact_28 rfl (lv_at hl 0 rfl) ?_
    refine lv_iload_n hx hb dX0_enact_29 rfl (lv_at hl 1 rfl) ?_
    refine lv_iload_n hx hb dX0_enact_30 rfl (lv_at hl 2 rfl) ?_
    refine lv_iload_n hx hb dX0_enact_31 rfl (lv_at hl 3 rfl) ?_
    refine lv_iload hx hb dX0_enact_32 (lv_at hl 4 rfl) ?_
    refine lv_iload hx hb dX0_enact_34 (lv_at hl 5 rfl) ?_
    have hPc := hP.sub (ws' := [(h0, .inr (0, [.ref h1, .ref h2, .ref h5, .ref h6, .ref h3, .ref h7, .ref h8, .int 0, .int 0, .int 0, .null])), (h1, .inr (1, [.int 1, .ref h9, .int 0, .int (-1), .int 0, .int 0, .int (-1), .ref h10])), (h2, .inr (4, [.ref h11, .int 0]))]) [2, 0, 3] rfl
    have hDc := hD.sub (ws' := [(h0, .inr (0, [.ref h1, .ref h2, .ref h5, .ref h6, .ref h3, .ref h7, .ref h8, .int 0, .int 0, .int 0, .null])), (h1, .inr (1, [.int 1, .ref h9, .int 0, .int (-1), .int 0, .int 0, .int (-1), .ref h10])), (h2, .inr (4, [.ref h11, .int 0]))]) [2, 0, 3] (by decide) rfl
    refine wGoi (wc := [(h0, .inr (0, [.ref h1, .ref h2, .ref h5, .ref h6, .ref h3, .ref h7, .ref h8, .int 0, .int 0, .int 0, .null])), (h1, .inr (1, [.int 1, .ref h9, .int 0, .int (-1), .int 0, .int 0, .int (-1), .ref h10])), (h2, .inr (4, [.ref h11, .int 0]))]) (wr := [(h4, .inl (K 0, 112, .inl (fun _ => 0))), (h3, .inr (2, [.int 7, .int 600, .ref h4, .int 0]))]) (va_runS (As := [.ref h0, .int 3, .int p0, .int 0, .int 0, .int 0]) (rest := []) ⟨hx, hb, hml, hown, hts⟩ (m_X1_perform_1 l G K h0 h1 h2 h5 h6 h3 h7 h8 h9 h10 h11 p0 _ (by omega)) (va_cwS 6 hts (wGS t_ (mw (.methodLink RX0 161 yX1_perform) (List.mem_of_getElem? (i := 4) rfl)) (mw (.static yX1_perform) (List.mem_of_getElem? (i := 5) rfl)) (mw (.initialized RX1) (List.mem_of_getElem? (i := 6) rfl)) j_X1_perform_1) rfl rfl rfl (by decide +kernel) ⟨Nat.le_of_ble_eq_true rfl, Nat.le_of_ble_eq_true rfl⟩) (wPS hK hE hPc hDc) rfl rfl hl.1 rfl (lv_room (Nat.le_of_ble_eq_true rfl)) dX0_enact_36 ⟨Nat.le_of_ble_eq_true rfl, Nat.le_of_ble_eq_true rfl⟩) hP hD hS hA [2, 0, 3] [1, 4] rfl rfl rfl (by decide) (fun r u H locs hw hP hD hS => ?_)
    rcases hw with ⟨rfl, rfl⟩
    have hP : va_P G vwCl [(h4, .inl (K 0, 112, .inl (fun _ => 0))), (h3, .inr (2, [.int 7, .int 600, .ref h4, .int 0])), (h0, .inr (0, [.ref h1, .ref h2, .ref h5, .ref h6, .ref h3, .ref h7, .ref h8, .int 0, .int 0, .int 0, .null])), (h1, .inr (1, [.int 1, .ref h9, .int 0, .int (-1), .int p0, .int 0, .int (-1), .ref h10])), (h2, .inr (4, [.ref h11, .int 0]))] _ := hP
    have hD : va_D A [(h4, .inl (K 0, 112, .inl (fun _ => 0))), (h3, .inr (2, [.int 7, .int 600, .ref h4, .int 0])), (h0, .inr (0, [.ref h1, .ref h2, .ref h5, .ref h6, .ref h3, .ref h7, .ref h8, .int 0, .int 0, .int 0, .null])), (h1, .inr (1, [.int 1, .ref h9, .int 0, .int (-1), .int p0, .int 0, .int (-1), .ref h10])), (h2, .inr (4, [.ref h11, .int 0]))] := hD
    refine lv_istore (lv' := [(6, .int p0), (0, .ref h0), (1, .int 3), (2, .int p0), (3, .int 0), (4, .int 0), (5, .int 0)]) hx hb dX0_enact_39 hl (by decide) rfl (fun ls hl => ?_)
    refine lv_aload_n hx hb dX0_enact_41 rfl (lv_at hl 1 rfl) ?_
    refine va_get (D := G) (ci := 0) (v := .ref h3) (C := RX0) (T := TX0) (N := 11) hx hb hts iX0 hown hK hP 2 rfl rfl 4 (by decide) (hw (.fieldLink RX0 41 "MotionFloor$Assembly" "minutes" "LMotionFloor$Ledger;") (List.mem_of_getElem? (i := 7) rfl)) (fun _ h9 => h9) rfl dX0_enact_42 ?_
    have hPc := hP.sub (ws' := [(h3, .inr (2, [.int 7, .int 600, .ref h4, .int 0])), (h4, .inl (K 0, 112, .inl (fun _ => 0)))]) [1, 0] rfl
    have hDc := hD.sub (ws' := [(h3, .inr (2, [.int 7, .int 600, .ref h4, .int 0])), (h4, .inl (K 0, 112, .inl (fun _ => 0)))]) [1, 0] (by decide) rfl
    refine wGov (wc := [(h3, .inr (2, [.int 7, .int 600, .ref h4, .int 0])), (h4, .inl (K 0, 112, .inl (fun _ => 0)))]) (wr := [(h0, .inr (0, [.ref h1, .ref h2, .ref h5, .ref h6, .ref h3, .ref h7, .ref h8, .int 0, .int 0, .int 0, .null])), (h1, .inr (1, [.int 1, .ref h9, .int 0, .int (-1), .int p0, .int 0, .int (-1), .ref h10])), (h2, .inr (4, [.ref h11, .int 0]))]) (va_runV (As := []) (rest := []) ⟨hx, hb, hml, hown, hts⟩ (m_X3_open_0 l G K h3 h4 _) (cwV 0 hts (wGV t_ (mw (.methodLink RX0 166 yX3_open) (List.mem_of_getElem? (i := 8) rfl)) (mw (.instanceMethod yX3_open) (List.mem_of_getElem? (i := 9) rfl)) (mw (.selects RX3 yX3_open yX3_open) (List.mem_of_getElem? (i := 10) rfl)) (mw (.initialized RX3) (List.mem_of_getElem? (i := 11) rfl)) j_X3_open_0) rfl rfl rfl (by decide +kernel) ⟨Nat.le_of_ble_eq_true rfl, Nat.le_of_ble_eq_true rfl⟩) (wPV hK hE hPc hDc 2 0 rfl rfl) rfl rfl hl.1 rfl (lv_room (Nat.le_of_ble_eq_true rfl)) dX0_enact_45 ⟨Nat.le_of_ble_eq_true rfl, Nat.le_of_ble_eq_true rfl⟩) hP hD hS hA [1, 0] [2, 3, 4] rfl rfl rfl (by decide) (fun u H locs hw hP hD hS => ?_)
    subst hw
    have hP : va_P G vwCl [(h0, .inr (0, [.ref h1, .ref h2, .ref h5, .ref h6, .ref h3, .ref h7, .ref h8, .int 0, .int 0, .int 0, .null])), (h1, .inr (1, [.int 1, .ref h9, .int 0, .int (-1), .int p0, .int 0, .int (-1), .ref h10])), (h2, .inr (4, [.ref h11, .int 0])), (h3, .inr (2, [.int 7, .int 600, .ref h4, .int 1])), (h4, .inl (K 0, 112, .inl (fun _ => 0)))] _ := hP
    have hD : va_D A [(h0, .inr (0, [.ref h1, .ref h2, .ref h5, .ref h6, .ref h3, .ref h7, .ref h8, .int 0, .int 0, .int 0, .null])), (h1, .inr (1, [.int 1, .ref h9, .int 0, .int (-1), .int p0, .int 0, .int (-1), .ref h10])), (h2, .inr (4, [.ref h11, .int 0])), (h3, .inr (2, [.int 7, .int 600, .ref h4, .int 1])), (h4, .inl (K 0, 112, .inl (fun _ => 0)))] := hD
    refine lv_aload_n hx hb dX0_enact_48 rfl (lv_at hl 1 rfl) ?_
    refine va_get (D := G) (ci := 0) (v := .ref h3) (C := RX0) (T := TX0) (N := 11) hx hb hts iX0 hown hK hP 0 rfl rfl 4 (by decide) (hw (.fieldLink RX0 41 "MotionFloor$Assembly" "minutes" "LMotionFloor$Ledger;") (List.mem_of_getElem? (i := 7) rfl)) (fun _ h9 => h9) rfl dX0_enact_49 ?_
    refine lv_iconst (v := 0) hx hb dX0_enact_52 (by decide) ?_
    refine lv_iload_n hx hb dX0_enact_53 rfl (lv_at hl 2 rfl) ?_
    have hPc := hP.sub (ws' := [(h3, .inr (2, [.int 7, .int 600, .ref h4, .int 1])), (h4, .inl (K 0, 112, .inl (fun _ => 0)))]) [3, 4] rfl
    have hDc := hD.sub (ws' := [(h3, .inr (2, [.int 7, .int 600, .ref h4, .int 1])), (h4, .inl (K 0, 112, .inl (fun _ => 0)))]) [3, 4] (by decide) rfl
    refine wGov (wc := [(h3, .inr (2, [.int 7, .int 600, .ref h4, .int 1])), (h4, .inl (K 0, 112, .inl (fun _ => 0)))]) (wr := [(h0, .inr (0, [.ref h1, .ref h2, .ref h5, .ref h6, .ref h3, .ref h7, .ref h8, .int 0, .int 0, .int 0, .null])), (h1, .inr (1, [.int 1, .ref h9, .int 0, .int (-1), .int p0, .int 0, .int (-1), .ref h10])), (h2, .inr (4, [.ref h11, .int 0]))]) (va_runV (As := [.int 0, .int 3]) (rest := []) ⟨hx, hb, hml, hown, hts⟩ (m_X3_write_7 l G K h3 h4 _) (cwV 2 hts (wGV t_ (mw (.methodLink RX0 169 yX3_write) (List.mem_of_getElem? (i := 12) rfl)) (mw (.instanceMethod yX3_write) (List.mem_of_getElem? (i := 13) rfl)) (mw (.selects RX3 yX3_write yX3_write) (List.mem_of_getElem? (i := 14) rfl)) (mw (.initialized RX3) (List.mem_of_getElem? (i := 11) rfl)) j_X3_write_7) rfl rfl rfl (by decide +kernel) ⟨Nat.le_of_ble_eq_true rfl, Nat.le_of_ble_eq_true rfl⟩) (wPV hK hE hPc hDc 2 0 rfl rfl) rfl rfl hl.1 rfl (lv_room (Nat.le_of_ble_eq_true rfl)) dX0_enact_54 ⟨Nat.le_of_ble_eq_true rfl, Nat.le_of_ble_eq_true rfl⟩) hP hD hS hA [3, 4] [0, 1, 2] rfl rfl rfl (by decide) (fun u H locs hw hP hD hS => ?_)
    subst hw
    have hP : va_P G vwCl [(h0, .inr (0, [.ref h1, .ref h2, .ref h5, .ref h6, .ref h3, .ref h7, .ref h8, .int 0, .int 0, .int 0, .null])), (h1, .inr (1, [.int 1, .ref h9, .int 0, .int (-1), .int p0, .int 0, .int (-1), .ref h10])), (h2, .inr (4, [.ref h11, .int 0])), (h3, .inr (2, [.int 7, .int 600, .ref h4, .int 1])), (h4, .inl (K 0, 112, .inl (upd (fun _ => 0) 0 3)))] _ := hP
    have hD : va_D A [(h0, .inr (0, [.ref h1, .ref h2, .ref h5, .ref h6, .ref h3, .ref h7, .ref h8, .int 0, .int 0, .int 0, .null])), (h1, .inr (1, [.int 1, .ref h9, .int 0, .int (-1), .int p0, .int 0, .int (-1), .ref h10])), (h2, .inr (4, [.ref h11, .int 0])), (h3, .inr (2, [.int 7, .int 600, .ref h4, .int 1])), (h4, .inl (K 0, 112, .inl (upd (fun _ => 0) 0 3)))] := hD
    refine lv_aload_n hx hb dX0_enact_57 rfl (lv_at hl 1 rfl) ?_
    refine va_get (D := G) (ci := 0) (v := .ref h3) (C := RX0) (T := TX0) (N := 11) hx hb hts iX0 hown hK hP 0 rfl rfl 4 (by decide) (hw (.fieldLink RX0 41 "MotionFloor$Assembly" "minutes" "LMotionFloor$Ledger;") (List.mem_of_getElem? (i := 7) rfl)) (fun _ h9 => h9) rfl dX0_enact_58 ?_
    refine lv_iconst (v := 1) hx hb dX0_enact_61 (by decide) ?_
    refine lv_iload_n hx hb dX0_enact_62 rfl (lv_at hl 3 rfl) ?_
    have hPc := hP.sub (ws' := [(h3, .inr (2, [.int 7, .int 600, .ref h4, .int 1])), (h4, .inl (K 0, 112, .inl (upd (fun _ => 0) 0 3)))]) [3, 4] rfl
    have hDc := hD.sub (ws' := [(h3, .inr (2, [.int 7, .int 600, .ref h4, .int 1])), (h4, .inl (K 0, 112, .inl (upd (fun _ => 0) 0 3)))]) [3, 4] (by decide) rfl
    refine wGov (wc := [(h3, .inr (2, [.int 7, .int 600, .ref h4, .int 1])), (h4, .inl (K 0, 112, .inl (upd (fun _ => 0) 0 3)))]) (wr := [(h0, .inr (0, [.ref h1, .ref h2, .ref h5, .ref h6, .ref h3, .ref h7, .ref h8, .int 0, .int 0, .int 0, .null])), (h1, .inr (1, [.int 1, .ref h9, .int 0, .int (-1), .int p0, .int 0, .int (-1), .ref h10])), (h2, .inr (4, [.ref h11, .int 0]))]) (va_runV (As := [.int 1, .int p0]) (rest := []) ⟨hx, hb, hml, hown, hts⟩ (m_X3_write_8 l G K h3 h4 p0 _ (by omega)) (cwV 2 hts (wGV t_ (mw (.methodLink RX0 169 yX3_write) (List.mem_of_getElem? (i := 12) rfl)) (mw (.instanceMethod yX3_write) (List.mem_of_getElem? (i := 13) rfl)) (mw (.selects RX3 yX3_write yX3_write) (List.mem_of_getElem? (i := 14) rfl)) (mw (.initialized RX3) (List.mem_of_getElem? (i := 11) rfl)) j_X3_write_8) rfl rfl rfl (by decide +kernel) ⟨Nat.le_of_ble_eq_true rfl, Nat.le_of_ble_eq_true rfl⟩) (wPV hK hE hPc hDc 2 0 rfl rfl) rfl rfl hl.1 rfl (lv_room (Nat.le_of_ble_eq_true rfl)) dX0_enact_63 ⟨Nat.le_of_ble_eq_true rfl, Nat.le_of_ble_eq_true rfl⟩) hP hD hS hA [3, 4] [0, 1, 2] rfl rfl rfl (by decide) (fun u H locs hw hP hD hS => ?_)
    subst hw
    have hP : va_P G vwCl [(h0, .inr (0, [.ref h1, .ref h2, .ref h5, .ref h6, .ref h3, .ref h7, .ref h8, .int 0, .int 0, .int 0, .null])), (h1, .inr (1, [.int 1, .ref h9, .int 0, .int (-1), .int p0, .int 0, .int (-1), .ref h10])), (h2, .inr (4, [.ref h11, .int 0])), (h3, .inr (2, [.int 7, .int 600, .ref h4, .int 1])), (h4, .inl (K 0, 112, .inl (upd (upd (fun _ => 0) 0 3) 1 p0)))] _ := hP
    have hD : va_D A [(h0, .inr (0, [.ref h1, .ref h2, .ref h5, .ref h6, .ref h3, .ref h7, .ref h8, .int 0, .int 0, .int 0, .null])), (h1, .inr (1, [.int 1, .ref h9, .int 0, .int (-1), .int p0, .int 0, .int (-1), .ref h10])), (h2, .inr (4, [.ref h11, .int 0])), (h3, .inr (2, [.int 7, .int 600, .ref h4, .int 1])), (h4, .inl (K 0, 112, .inl (upd (upd (fun _ => 0) 0 3) 1 p0)))] := hD
    refine lv_aload_n hx hb dX0_enact_66 rfl (lv_at hl 1 rfl) ?_
    refine va_get (D := G) (ci := 0) (v := .ref h3) (C := RX0) (T := TX0) (N := 11) hx hb hts iX0 hown hK hP 0 rfl rfl 4 (by decide) (hw (.fieldLink RX0 41 "MotionFloor$Assembly" "minutes" "LMotionFloor$Ledger;") (List.mem_of_getElem? (i := 7) rfl)) (fun _ h9 => h9) rfl dX0_enact_67 ?_
    refine lv_iconst (v := 2) hx hb dX0_enact_70 (by decide) ?_
    refine lv_iload_n hx hb dX0_enact_71 rfl (lv_at hl 4 rfl) ?_
    have hPc := hP.sub (ws' := [(h3, .inr (2, [.int 7, .int 600, .ref h4, .int 1])), (h4, .inl (K 0, 112, .inl (upd (upd (fun _ => 0) 0 3) 1 p0)))]) [3, 4] rfl
    have hDc := hD.sub (ws' := [(h3, .inr (2, [.int 7, .int 600, .ref h4, .int 1])), (h4, .inl (K 0, 112, .inl (upd (upd (fun _ => 0) 0 3) 1 p0)))]) [3, 4] (by decide) rfl
    refine wGov (wc := [(h3, .inr (2, [.int 7, .int 600, .ref h4, .int 1])), (h4, .inl (K 0, 112, .inl (upd (upd (fun _ => 0) 0 3) 1 p0)))]) (wr := [(h0, .inr (0, [.ref h1, .ref h2, .ref h5, .ref h6, .ref h3, .ref h7, .ref h8, .int 0, .int 0, .int 0, .null])), (h1, .inr (1, [.int 1, .ref h9, .int 0, .int (-1), .int p0, .int 0, .int (-1), .ref h10])), (h2, .inr (4, [.ref h11, .int 0]))]) (va_runV (As := [.int 2, .int 0]) (rest := []) ⟨hx, hb, hml, hown, hts⟩ (m_X3_write_9 l G K h3 h4 p0 _ (by omega)) (cwV 2 hts (wGV t_ (mw (.methodLink RX0 169 yX3_write) (List.mem_of_getElem? (i := 12) rfl)) (mw (.instanceMethod yX3_write) (List.mem_of_getElem? (i := 13) rfl)) (mw (.selects RX3 yX3_write yX3_write) (List.mem_of_getElem? (i := 14) rfl)) (mw (.initialized RX3) (List.mem_of_getElem? (i := 11) rfl)) j_X3_write_9) rfl rfl rfl (by decide +kernel) ⟨Nat.le_of_ble_eq_true rfl, Nat.le_of_ble_eq_true rfl⟩) (wPV hK hE hPc hDc 2 0 rfl rfl) rfl rfl hl.1 rfl (lv_room (Nat.le_of_ble_eq_true rfl)) dX0_enact_72 ⟨Nat.le_of_ble_eq_true rfl, Nat.le_of_ble_eq_true rfl⟩) hP hD hS hA [3, 4] [0, 1, 2] rfl rfl rfl (by decide) (fun u H locs hw hP hD hS => ?_)
    subst hw
    have hP : va_P G vwCl [(h0, .inr (0, [.ref h1, .ref h2, .ref h5, .ref h6, .ref h3, .ref h7, .ref h8, .int 0, .int 0, .int 0, .null])), (h1, .inr (1, [.int 1, .ref h9, .int 0, .int (-1), .int p0, .int 0, .int (-1), .ref h10])), (h2, .inr (4, [.ref h11, .int 0])), (h3, .inr (2, [.int 7, .int 600, .ref h4, .int 1])), (h4, .inl (K 0, 112, .inl (upd (upd (upd (fun _ => 0) 0 3) 1 p0) 2 0)))] _ := hP
    have hD : va_D A [(h0, .inr (0, [.ref h1, .ref h2, .ref h5, .ref h6, .ref h3, .ref h7, .ref h8, .int 0, .int 0, .int 0, .null])), (h1, .inr (1, [.int 1, .ref h9, .int 0, .int (-1), .int p0, .int 0, .int (-1), .ref h10])), (h2, .inr (4, [.ref h11, .int 0])), (h3, .inr (2, [.int 7, .int 600, .ref h4, .int 1])), (h4, .inl (K 0, 112, .inl (upd (upd (upd (fun _ => 0) 0 3) 1 p0) 2 0)))] := hD
    refine lv_aload_n hx hb dX0_enact_75 rfl (lv_at hl 1 rfl) ?_
    refine va_get (D := G) (ci := 0) (v := .ref h3) (C := RX0) (T := TX0) (N := 11) hx hb hts iX0 hown hK hP 0 rfl rfl 4 (by decide) (hw (.fieldLink RX0 41 "MotionFloor$Assembly" "minutes" "LMotionFloor$Ledger;") (List.mem_of_getElem? (i := 7) rfl)) (fun _ h9 => h9) rfl dX0_enact_76 ?_
    refine lv_iconst (v := 3) hx hb dX0_enact_79 (by decide) ?_
    refine lv_iload hx hb dX0_enact_80 (lv_at hl 5 rfl) ?_
    have hPc := hP.sub (ws' := [(h3, .inr (2, [.int 7, .int 600, .ref h4, .int 1])), (h4, .inl (K 0, 112, .inl (upd (upd (upd (fun _ => 0) 0 3) 1 p0) 2 0)))]) [3, 4] rfl
    have hDc := hD.sub (ws' := [(h3, .inr (2, [.int 7, .int 600, .ref h4, .int 1])), (h4, .inl (K 0, 112, .inl (upd (upd (upd (fun _ => 0) 0 3) 1 p0) 2 0)))]) [3, 4] (by decide) rfl
    refine wGov (wc := [(h3, .inr (2, [.int 7, .int 600, .ref h4, .int 1])), (h4, .inl (K 0, 112, .inl (upd (upd (upd (fun _ => 0) 0 3) 1 p0) 2 0)))]) (wr := [(h0, .inr (0, [.ref h1, .ref h2, .ref h5, .ref h6, .ref h3, .ref h7, .ref h8, .int 0, .int 0, .int 0, .null])), (h1, .inr (1, [.int 1, .ref h9, .int 0, .int (-1), .int p0, .int 0, .int (-1), .ref h10])), (h2, .inr (4, [.ref h11, .int 0]))]) (va_runV (As := [.int 3, .int 0]) (rest := []) ⟨hx, hb, hml, hown, hts⟩ (m_X3_write_10 l G K h3 h4 p0 _ (by omega)) (cwV 2 hts (wGV t_ (mw (.methodLink RX0 169 yX3_write) (List.mem_of_getElem? (i := 12) rfl)) (mw (.instanceMethod yX3_write) (List.mem_of_getElem? (i := 13) rfl)) (mw (.selects RX3 yX3_write yX3_write) (List.mem_of_getElem? (i := 14) rfl)) (mw (.initialized RX3) (List.mem_of_getElem? (i := 11) rfl)) j_X3_write_10) rfl rfl rfl (by decide +kernel) ⟨Nat.le_of_ble_eq_true rfl, Nat.le_of_ble_eq_true rfl⟩) (wPV hK hE hPc hDc 2 0 rfl rfl) rfl rfl hl.1 rfl (lv_room (Nat.le_of_ble_eq_true rfl)) dX0_enact_82 ⟨Nat.le_of_ble_eq_true rfl, Nat.le_of_ble_eq_true rfl⟩) hP hD hS hA [3, 4] [0, 1, 2] rfl rfl rfl (by decide) (fun u H locs hw hP hD hS => ?_)
    subst hw
    have hP : va_P G vwCl [(h0, .inr (0, [.ref h1, .ref h2, .ref h5, .ref h6, .ref h3, .ref h7, .ref h8, .int 0, .int 0, .int 0, .null])), (h1, .inr (1, [.int 1, .ref h9, .int 0, .int (-1), .int p0, .int 0, .int (-1), .ref h10])), (h2, .inr (4, [.ref h11, .int 0])), (h3, .inr (2, [.int 7, .int 600, .ref h4, .int 1])), (h4, .inl (K 0, 112, .inl (upd (upd (upd (upd (fun _ => 0) 0 3) 1 p0) 2 0) 3 0)))] _ := hP
    have hD : va_D A [(h0, .inr (0, [.ref h1, .ref h2, .ref h5, .ref h6, .ref h3, .ref h7, .ref h8, .int 0, .int 0, .int 0, .null])), (h1, .inr (1, [.int 1, .ref h9, .int 0, .int (-1), .int p0, .int 0, .int (-1), .ref h10])), (h2, .inr (4, [.ref h11, .int 0])), (h3, .inr (2, [.int 7, .int 600, .ref h4, .int 1])), (h4, .inl (K 0, 112, .inl (upd (upd (upd (upd (fun _ => 0) 0 3) 1 p0) 2 0) 3 0)))] := hD
    refine lv_aload_n hx hb dX0_enact_85 rfl (lv_at hl 1 rfl) ?_
    refine va_get (D := G) (ci := 0) (v := .ref h3) (C := RX0) (T := TX0) (N := 11) hx hb hts iX0 hown hK hP 0 rfl rfl 4 (by decide) (hw (.fieldLink RX0 41 "MotionFloor$Assembly" "minutes" "LMotionFloor$Ledger;") (List.mem_of_getElem? (i := 7) rfl)) (fun _ h9 => h9) rfl dX0_enact_86 ?_
    refine lv_iconst (v := 4) hx hb dX0_enact_89 (by decide) ?_
    refine lv_iload hx hb dX0_enact_90 (lv_at hl 6 rfl) ?_
    have hPc := hP.sub (ws' := [(h3, .inr (2, [.int 7, .int 600, .ref h4, .int 1])), (h4, .inl (K 0, 112, .inl (upd (upd (upd (upd (fun _ => 0) 0 3) 1 p0) 2 0) 3 0)))]) [3, 4] rfl
    have hDc := hD.sub (ws' := [(h3, .inr (2, [.int 7, .int 600, .ref h4, .int 1])), (h4, .inl (K 0, 112, .inl (upd (upd (upd (upd (fun _ => 0) 0 3) 1 p0) 2 0) 3 0)))]) [3, 4] (by decide) rfl
    refine wGov (wc := [(h3, .inr (2, [.int 7, .int 600, .ref h4, .int 1])), (h4, .inl (K 0, 112, .inl (upd (upd (upd (upd (fun _ => 0) 0 3) 1 p0) 2 0) 3 0)))]) (wr := [(h0, .inr (0, [.ref h1, .ref h2, .ref h5, .ref h6, .ref h3, .ref h7, .ref h8, .int 0, .int 0, .int 0, .null])), (h1, .inr (1, [.int 1, .ref h9, .int 0, .int (-1), .int p0, .int 0, .int (-1), .ref h10])), (h2, .inr (4, [.ref h11, .int 0]))]) (va_runV (As := [.int 4, .int 0]) (rest := []) ⟨hx, hb, hml, hown, hts⟩ (m_X3_write_11 l G K h3 h4 p0 _ (by omega)) (cwV 2 hts (wGV t_ (mw (.methodLink RX0 169 yX3_write) (List.mem_of_getElem? (i := 12) rfl)) (mw (.instanceMethod yX3_write) (List.mem_of_getElem? (i := 13) rfl)) (mw (.selects RX3 yX3_write yX3_write) (List.mem_of_getElem? (i := 14) rfl)) (mw (.initialized RX3) (List.mem_of_getElem? (i := 11) rfl)) j_X3_write_11) rfl rfl rfl (by decide +kernel) ⟨Nat.le_of_ble_eq_true rfl, Nat.le_of_ble_eq_true rfl⟩) (wPV hK hE hPc hDc 2 0 rfl rfl) rfl rfl hl.1 rfl (lv_room (Nat.le_of_ble_eq_true rfl)) dX0_enact_92 ⟨Nat.le_of_ble_eq_true rfl, Nat.le_of_ble_eq_true rfl⟩) hP hD hS hA [3, 4] [0, 1, 2] rfl rfl rfl (by decide) (fun u H locs hw hP hD hS => ?_)
    subst hw
    have hP : va_P G vwCl [(h0, .inr (0, [.ref h1, .ref h2, .ref h5, .ref h6, .ref h3, .ref h7, .ref h8, .int 0, .int 0, .int 0, .null])), (h1, .inr (1, [.int 1, .ref h9, .int 0, .int (-1), .int p0, .int 0, .int (-1), .ref h10])), (h2, .inr (4, [.ref h11, .int 0])), (h3, .inr (2, [.int 7, .int 600, .ref h4, .int 1])), (h4, .inl (K 0, 112, .inl (upd (upd (upd (upd (upd (fun _ => 0) 0 3) 1 p0) 2 0) 3 0) 4 0)))] _ := hP
    have hD : va_D A [(h0, .inr (0, [.ref h1, .ref h2, .ref h5, .ref h6, .ref h3, .ref h7, .ref h8, .int 0, .int 0, .int 0, .null])), (h1, .inr (1, [.int 1, .ref h9, .int 0, .int (-1), .int p0, .int 0, .int (-1), .ref h10])), (h2, .inr (4, [.ref h11, .int 0])), (h3, .inr (2, [.int 7, .int 600, .ref h4, .int 1])), (h4, .inl (K 0, 112, .inl (upd (upd (upd (upd (upd (fun _ => 0) 0 3) 1 p0) 2 0) 3 0) 4 0)))] := hD
    refine lv_aload_n hx hb dX0_enact_95 rfl (lv_at hl 1 rfl) ?_
    refine va_get (D := G) (ci := 0) (v := .ref h3) (C := RX0) (T := TX0) (N := 11) hx hb hts iX0 hown hK hP 0 rfl rfl 4 (by decide) (hw (.fieldLink RX0 41 "MotionFloor$Assembly" "minutes" "LMotionFloor$Ledger;") (List.mem_of_getElem? (i := 7) rfl)) (fun _ h9 => h9) rfl dX0_enact_96 ?_
    refine lv_iconst (v := 5) hx hb dX0_enact_99 (by decide) ?_
    refine lv_iload hx hb dX0_enact_100 (lv_at hl 0 rfl) ?_
    have hPc := hP.sub (ws' := [(h3, .inr (2, [.int 7, .int 600, .ref h4, .int 1])), (h4, .inl (K 0, 112, .inl (upd (upd (upd (upd (upd (fun _ => 0) 0 3) 1 p0) 2 0) 3 0) 4 0)))]) [3, 4] rfl
    have hDc := hD.sub (ws' := [(h3, .inr (2, [.int 7, .int 600, .ref h4, .int 1])), (h4, .inl (K 0, 112, .inl (upd (upd (upd (upd (upd (fun _ => 0) 0 3) 1 p0) 2 0) 3 0) 4 0)))]) [3, 4] (by decide) rfl
    refine wGov (wc := [(h3, .inr (2, [.int 7, .int 600, .ref h4, .int 1])), (h4, .inl (K 0, 112, .inl (upd (upd (upd (upd (upd (fun _ => 0) 0 3) 1 p0) 2 0) 3 0) 4 0)))]) (wr := [(h0, .inr (0, [.ref h1, .ref h2, .ref h5, .ref h6, .ref h3, .ref h7, .ref h8, .int 0, .int 0, .int 0, .null])), (h1, .inr (1, [.int 1, .ref h9, .int 0, .int (-1), .int p0, .int 0, .int (-1), .ref h10])), (h2, .inr (4, [.ref h11, .int 0]))]) (va_runV (As := [.int 5, .int p0]) (rest := []) ⟨hx, hb, hml, hown, hts⟩ (m_X3_write_12 l G K h3 h4 p0 _ (by omega)) (cwV 2 hts (wGV t_ (mw (.methodLink RX0 169 yX3_write) (List.mem_of_getElem? (i := 12) rfl)) (mw (.instanceMethod yX3_write) (List.mem_of_getElem? (i := 13) rfl)) (mw (.selects RX3 yX3_write yX3_write) (List.mem_of_getElem? (i := 14) rfl)) (mw (.initialized RX3) (List.mem_of_getElem? (i := 11) rfl)) j_X3_write_12) rfl rfl rfl (by decide +kernel) ⟨Nat.le_of_ble_eq_true rfl, Nat.le_of_ble_eq_true rfl⟩) (wPV hK hE hPc hDc 2 0 rfl rfl) rfl rfl hl.1 rfl (lv_room (Nat.le_of_ble_eq_true rfl)) dX0_enact_102 ⟨Nat.le_of_ble_eq_true rfl, Nat.le_of_ble_eq_true rfl⟩) hP hD hS hA [3, 4] [0, 1, 2] rfl rfl rfl (by decide) (fun u H locs hw hP hD hS => ?_)
    subst hw
    have hP : va_P G vwCl [(h0, .inr (0, [.ref h1, .ref h2, .ref h5, .ref h6, .ref h3, .ref h7, .ref h8, .int 0, .int 0, .int 0, .null])), (h1, .inr (1, [.int 1, .ref h9, .int 0, .int (-1), .int p0, .int 0, .int (-1), .ref h10])), (h2, .inr (4, [.ref h11, .int 0])), (h3, .inr (2, [.int 7, .int 600, .ref h4, .int 1])), (h4, .inl (K 0, 112, .inl (upd (upd (upd (upd (upd (upd (fun _ => 0) 0 3) 1 p0) 2 0) 3 0) 4 0) 5 p0)))] _ := hP
    have hD : va_D A [(h0, .inr (0, [.ref h1, .ref h2, .ref h5, .ref h6, .ref h3, .ref h7, .ref h8, .int 0, .int 0, .int 0, .null])), (h1, .inr (1, [.int 1, .ref h9, .int 0, .int (-1), .int p0, .int 0, .int (-1), .ref h10])), (h2, .inr (4, [.ref h11, .int 0])), (h3, .inr (2, [.int 7, .int 600, .ref h4, .int 1])), (h4, .inl (K 0, 112, .inl (upd (upd (upd (upd (upd (upd (fun _ => 0) 0 3) 1 p0) 2 0) 3 0) 4 0) 5 p0)))] := hD
    refine lv_aload_n hx hb dX0_enact_105 rfl (lv_at hl 1 rfl) ?_
    refine va_get (D := G) (ci := 0) (v := .ref h3) (C := RX0) (T := TX0) (N := 11) hx hb hts iX0 hown hK hP 0 rfl rfl 4 (by decide) (hw (.fieldLink RX0 41 "MotionFloor$Assembly" "minutes" "LMotionFloor$Ledger;") (List.mem_of_getElem? (i := 7) rfl)) (fun _ h9 => h9) rfl dX0_enact_106 ?_
    refine lv_bipush (v := 6) hx hb dX0_enact_109 (by decide) ?_
    refine lv_aload_n hx hb dX0_enact_111 rfl (lv_at hl 1 rfl) ?_
    refine va_get (D := G) (ci := 0) (v := .ref h2) (C := RX0) (T := TX0) (N := 11) hx hb hts iX0 hown hK hP 0 rfl rfl 1 (by decide) (hw (.fieldLink RX0 21 "MotionFloor$Assembly" "pending" "LMotionFloor$Pile;") (List.mem_of_getElem? (i := 15) rfl)) (fun _ h9 => h9) rfl dX0_enact_112 ?_
    refine va_get (D := G) (ci := 4) (v := .int 0) (C := RX5) (T := TX5) (N := 2) hx hb hts iX5 hown hK hP 2 rfl rfl 1 (by decide) (hw (.fieldLink RX0 96 "MotionFloor$Pile" "size" "I") (List.mem_of_getElem? (i := 16) rfl)) (fun _ h9 => h9) rfl dX0_enact_115 ?_
    have hPc := hP.sub (ws' := [(h3, .inr (2, [.int 7, .int 600, .ref h4, .int 1])), (h4, .inl (K 0, 112, .inl (upd (upd (upd (upd (upd (upd (fun _ => 0) 0 3) 1 p0) 2 0) 3 0) 4 0) 5 p0)))]) [3, 4] rfl
    have hDc := hD.sub (ws' := [(h3, .inr (2, [.int 7, .int 600, .ref h4, .int 1])), (h4, .inl (K 0, 112, .inl (upd (upd (upd (upd (upd (upd (fun _ => 0) 0 3) 1 p0) 2 0) 3 0) 4 0) 5 p0)))]) [3, 4] (by decide) rfl
    refine wGov (wc := [(h3, .inr (2, [.int 7, .int 600, .ref h4, .int 1])), (h4, .inl (K 0, 112, .inl (upd (upd (upd (upd (upd (upd (fun _ => 0) 0 3) 1 p0) 2 0) 3 0) 4 0) 5 p0)))]) (wr := [(h0, .inr (0, [.ref h1, .ref h2, .ref h5, .ref h6, .ref h3, .ref h7, .ref h8, .int 0, .int 0, .int 0, .null])), (h1, .inr (1, [.int 1, .ref h9, .int 0, .int (-1), .int p0, .int 0, .int (-1), .ref h10])), (h2, .inr (4, [.ref h11, .int 0]))]) (va_runV (As := [.int 6, .int 0]) (rest := []) ⟨hx, hb, hml, hown, hts⟩ (m_X3_write_13 l G K h3 h4 p0 _ (by omega)) (cwV 2 hts (wGV t_ (mw (.methodLink RX0 169 yX3_write) (List.mem_of_getElem? (i := 12) rfl)) (mw (.instanceMethod yX3_write) (List.mem_of_getElem? (i := 13) rfl)) (mw (.selects RX3 yX3_write yX3_write) (List.mem_of_getElem? (i := 14) rfl)) (mw (.initialized RX3) (List.mem_of_getElem? (i := 11) rfl)) j_X3_write_13) rfl rfl rfl (by decide +kernel) ⟨Nat.le_of_ble_eq_true rfl, Nat.le_of_ble_eq_true rfl⟩) (wPV hK hE hPc hDc 2 0 rfl rfl) rfl rfl hl.1 rfl (lv_room (Nat.le_of_ble_eq_true rfl)) dX0_enact_118 ⟨Nat.le_of_ble_eq_true rfl, Nat.le_of_ble_eq_true rfl⟩) hP hD hS hA [3, 4] [0, 1, 2] rfl rfl rfl (by decide) (fun u H locs hw hP hD hS => ?_)
    subst hw
    have hP : va_P G vwCl [(h0, .inr (0, [.ref h1, .ref h2, .ref h5, .ref h6, .ref h3, .ref h7, .ref h8, .int 0, .int 0, .int 0, .null])), (h1, .inr (1, [.int 1, .ref h9, .int 0, .int (-1), .int p0, .int 0, .int (-1), .ref h10])), (h2, .inr (4, [.ref h11, .int 0])), (h3, .inr (2, [.int 7, .int 600, .ref h4, .int 1])), (h4, .inl (K 0, 112, .inl (upd (upd (upd (upd (upd (upd (upd (fun _ => 0) 0 3) 1 p0) 2 0) 3 0) 4 0) 5 p0) 6 0)))] _ := hP
    have hD : va_D A [(h0, .inr (0, [.ref h1, .ref h2, .ref h5, .ref h6, .ref h3, .ref h7, .ref h8, .int 0, .int 0, .int 0, .null])), (h1, .inr (1, [.int 1, .ref h9, .int 0, .int (-1), .int p0, .int 0, .int (-1), .ref h10])), (h2, .inr (4, [.ref h11, .int 0])), (h3, .inr (2, [.int 7, .int 600, .ref h4, .int 1])), (h4, .inl (K 0, 112, .inl (upd (upd (upd (upd (upd (upd (upd (fun _ => 0) 0 3) 1 p0) 2 0) 3 0) 4 0) 5 p0) 6 0)))] := hD
    refine lv_iload hx hb dX0_enact_121 (lv_at hl 0 rfl) ?_
    have hP9 : va_P G vwCl [(h0, .inr (0, [.ref h1, .ref h2, .ref h5, .ref h6, .ref h3, .ref h7, .ref h8, .int 0, .int 0, .int 0, .null])), (h1, .inr (1, [.int 1, .ref h9, .int 0, .int (-1), .int p0, .int 0, .int (-1), .ref h10])), (h2, .inr (4, [.ref h11, .int 0])), (h3, .inr (2, [.int 7, .int 600, .ref h4, .int 1])), (h4, .inl (K 0, 112, .inl (upd (upd (upd (upd (upd (upd (upd (fun _ => 0) 0 3) 1 p0) 2 0) 3 0) 4 0) 5 p0) 6 0)))] _ := hP
    have hD9 : va_D A [(h0, .inr (0, [.ref h1, .ref h2, .ref h5, .ref h6, .ref h3, .ref h7, .ref h8, .int 0, .int 0, .int 0, .null])), (h1, .inr (1, [.int 1, .ref h9, .int 0, .int (-1), .int p0, .int 0, .int (-1), .ref h10])), (h2, .inr (4, [.ref h11, .int 0])), (h3, .inr (2, [.int 7, .int 600, .ref h4, .int 1])), (h4, .inl (K 0, 112, .inl (upd (upd (upd (upd (upd (upd (upd (fun _ => 0) 0 3) 1 p0) 2 0) 3 0) 4 0) 5 p0) 6 0)))] := hD
    exact W.iret (v := p0) hx hb hr (fun t ht hW => ⟨⟨p0, _, rfl, Or.inr (⟨(by first | omega | decide | simp), rfl, rfl⟩), by rw [ht]; exact hP9, hD9⟩, hS.F ht⟩) hS.2.2 dX0_enact_123
def e_X10_quorum_0 : List Cond := [.fieldLink RX10 10 "MotionFloor" "now" "LMotionFloor$Assembly;", .methodLink RX10 32 yX0_enact, .instanceMethod yX0_enact, .selects RX0 yX0_enact yX0_enact, .initialized RX0]
def v_X10_quorum_0 : List Cond := .code yX10_quorum cX10_quorum 2 (some .int) :: (e_X10_quorum_0 ++ (wsX100 ++ (v_X0_enact_2 ++ [])))
theorem te_X10_quorum_0 : GoodIn lw_tbl e_X10_quorum_0 := wGc z115 (wGc z349 (wGc z348 (wGc z347 (wGc z118 (wG0)))))
theorem t_X10_quorum_0 : GoodIn lw_tbl v_X10_quorum_0 := wGc z393 (wGa te_X10_quorum_0 (wGa zcX10 (wGa t_X0_enact_2 (wG0))))
set_option maxHeartbeats 4000000 in
set_option maxRecDepth 100000 in
theorem m_X10_quorum_0 (l : Launch) (G : va_G) (K : Nat → ClassId) (h0 h1 h2 h3 h4 h5 h6 h7 h8 h9 h10 h11 h12 h13 h14 : Nat) (p0 : Int32) (sz : Nat) : Met l yX10_quorum v_X10_quorum_0 ({ frames := 4, cells := 0, slots := 0, locals := 96 }) (va_Pc [.ref h0, .int p0] (wS G K sz [(h0, .inr (7, [.ref h1, .ref h6, .null, .null, .ref h7])), (h1, .inr (0, [.ref h2, .ref h3, .ref h8, .ref h9, .ref h4, .ref h10, .ref h11, .int 0, .int 0, .int 0, .null])), (h2, .inr (1, [.int 1, .ref h12, .int 0, .int (-1), .int 0, .int 0, .int (-1), .ref h13])), (h3, .inr (4, [.ref h14, .int 0])), (h4, .inr (2, [.int 7, .int 600, .ref h5, .int 0])), (h5, .inl (K 0, 112, .inl (fun _ => 0)))])) (va_Qi (fun (r : Int32) (u : va_W) => (((((p0.toInt < 0 ∨ (p0.toInt ≥ 0 ∧ p0.toInt > 200))))) ∧ (-9) = r ∧ u = [(h0, .inr (7, [.ref h1, .ref h6, .null, .null, .ref h7])), (h1, .inr (0, [.ref h2, .ref h3, .ref h8, .ref h9, .ref h4, .ref h10, .ref h11, .int 0, .int 0, .int 9, .null])), (h2, .inr (1, [.int 1, .ref h12, .int 0, .int (-1), .int 0, .int 0, .int (-1), .ref h13])), (h3, .inr (4, [.ref h14, .int 0])), (h4, .inr (2, [.int 7, .int 600, .ref h5, .int 0])), (h5, .inl (K 0, 112, .inl (fun _ => 0)))]) ∨ ((((((p0.toInt ≥ 0 ∧ p0.toInt ≤ 200))))) ∧ p0 = r ∧ u = [(h0, .inr (7, [.ref h1, .ref h6, .null, .null, .ref h7])), (h1, .inr (0, [.ref h2, .ref h3, .ref h8, .ref h9, .ref h4, .ref h10, .ref h11, .int 0, .int 0, .int 0, .null])), (h2, .inr (1, [.int 1, .ref h12, .int 0, .int (-1), .int p0, .int 0, .int (-1), .ref h13])), (h3, .inr (4, [.ref h14, .int 0])), (h4, .inr (2, [.int 7, .int 600, .ref h5, .int 1])), (h5, .inl (K 0, 112, .inl (upd (upd (upd (upd (upd (upd (upd (fun _ => 0) 0 3) 1 p0) 2 0) 3 0) 4 0) 5 p0) 6 0)))])) (wB G (va_A [(h0, .inr (7, [.ref h1, .ref h6, .null, .null, .ref h7])), (h1, .inr (0, [.ref h2, .ref h3, .ref h8, .ref h9, .ref h4, .ref h10, .ref h11, .int 0, .int 0, .int 0, .null])), (h2, .inr (1, [.int 1, .ref h12, .int 0, .int (-1), .int 0, .int 0, .int (-1), .ref h13])), (h3, .inr (4, [.ref h14, .int 0])), (h4, .inr (2, [.int 7, .int 600, .ref h5, .int 0])), (h5, .inl (K 0, 112, .inl (fun _ => 0)))] sz)) (va_A [(h0, .inr (7, [.ref h1, .ref h6, .null, .null, .ref h7])), (h1, .inr (0, [.ref h2, .ref h3, .ref h8, .ref h9, .ref h4, .ref h10, .ref h11, .int 0, .int 0, .int 0, .null])), (h2, .inr (1, [.int 1, .ref h12, .int 0, .int (-1), .int 0, .int 0, .int (-1), .ref h13])), (h3, .inr (4, [.ref h14, .int 0])), (h4, .inr (2, [.int 7, .int 600, .ref h5, .int 0])), (h5, .inl (K 0, 112, .inl (fun _ => 0)))] sz)) 0 0 (va_A [(h0, .inr (7, [.ref h1, .ref h6, .null, .null, .ref h7])), (h1, .inr (0, [.ref h2, .ref h3, .ref h8, .ref h9, .ref h4, .ref h10, .ref h11, .int 0, .int 0, .int 0, .null])), (h2, .inr (1, [.int 1, .ref h12, .int 0, .int (-1), .int 0, .int 0, .int (-1), .ref h13])), (h3, .inr (4, [.ref h14, .int 0])), (h4, .inr (2, [.int 7, .int 600, .ref h5, .int 0])), (h5, .inl (K 0, 112, .inl (fun _ => 0)))] sz) := by
  refine Met.ofW (cc := cX10_quorum) (maxL := 2) (ret := (some .int)) (by decide) rfl ?_
  intro p e s m args below meth c s₁ B hml hv
  obtain ⟨rfl, hsz, hP, hK, hD0, hE⟩ := hv
  have hx := B.exec
  have hb := B.bytes
  have hr := B.returns
  have hts := atoms_spec (ws := v_X10_quorum_0) B.pre
  have t_ := t_X10_quorum_0
  have mw : ∀ w ∈ e_X10_quorum_0, w ∈ v_X10_quorum_0 := fun w h => List.mem_cons_of_mem _ (List.mem_append_left _ h)
  have hw := fun w (h : w ∈ e_X10_quorum_0) => hts w (mw w h)
  have iX10 : ∀ w ∈ wsX100, w ∈ v_X10_quorum_0 := fun w h => List.mem_cons_of_mem _ (List.mem_append_right _ (List.mem_append_left _ h))
  have j_X0_enact_2 : ∀ w ∈ v_X0_enact_2, w ∈ v_X10_quorum_0 := fun w h => List.mem_cons_of_mem _ (List.mem_append_right _ (List.mem_append_right _ (List.mem_append_left _ h)))
  have hown : s.vm.findClass RX10 = some m.cls := findClass_of_methodNamed B.named
  have hlocks := B.notSynchronized
  subst hsz
  have hD := hD0.self (sz := s.heap.size)
  generalize hAe : va_A [(h0, .inr (7, [.ref h1, .ref h6, .null, .null, .ref h7])), (h1, .inr (0, [.ref h2, .ref h3, .ref h8, .ref h9, .ref h4, .ref h10, .ref h11, .int 0, .int 0, .int 0, .null])), (h2, .inr (1, [.int 1, .ref h12, .int 0, .int (-1), .int 0, .int 0, .int (-1), .ref h13])), (h3, .inr (4, [.ref h14, .int 0])), (h4, .inr (2, [.int 7, .int 600, .ref h5, .int 0])), (h5, .inl (K 0, 112, .inl (fun _ => 0)))] s.heap.size = A at hD ⊢
  have hA : ∀ q : Nat, s.heap.size ≤ q → A q := fun q h => by rw [← hAe]; exact Or.inr h
  have hS : va_S A s.heap s.heap [] := va_S.rf
  have hP : va_P G vwCl [(h0, .inr (7, [.ref h1, .ref h6, .null, .null, .ref h7])), (h1, .inr (0, [.ref h2, .ref h3, .ref h8, .ref h9, .ref h4, .ref h10, .ref h11, .int 0, .int 0, .int 0, .null])), (h2, .inr (1, [.int 1, .ref h12, .int 0, .int (-1), .int 0, .int 0, .int (-1), .ref h13])), (h3, .inr (4, [.ref h14, .int 0])), (h4, .inr (2, [.int 7, .int 600, .ref h5, .int 0])), (h5, .inl (K 0, 112, .inl (fun _ => 0)))] s.heap := hP
  have hl := lv_entry ([.ref h0, .int p0]) (n := 2) (Nat.le_of_ble_eq_true rfl)
  rw [lg_entry_eq]
  generalize (lg_sl ([.ref h0, .int p0]) ++ List.replicate (2 - (lg_sl ([.ref h0, .int p0])).length) Slot.unset).toArray = ls at hl ⊢
  have hl : lv_has ls 2 [(0, .ref h0), (1, .int p0)] := hl
  refine lv_aload_n hx hb dX10_quorum_0 rfl (lv_at hl 0 rfl) ?_
  refine va_get (D := G) (ci := 7) (v := .ref h1) (C := RX10) (T := TX10) (N := 5) hx hb hts iX10 hown hK hP 0 rfl rfl 0 (by decide) (hw (.fieldLink RX10 10 "MotionFloor" "now" "LMotionFloor$Assembly;") (List.mem_of_getElem? (i := 0) rfl)) (fun _ h9 => h9) rfl dX10_quorum_1 ?_
  refine lv_iconst (v := 3) hx hb dX10_quorum_4 (by decide) ?_
  refine lv_iload_n hx hb dX10_quorum_5 rfl (lv_at hl 1 rfl) ?_
  refine lv_iconst (v := 0) hx hb dX10_quorum_6 (by decide) ?_
  refine lv_iconst (v := 0) hx hb dX10_quorum_7 (by decide) ?_
  refine lv_iconst (v := 0) hx hb dX10_quorum_8 (by decide) ?_
  have hPc := hP.sub (ws' := [(h1, .inr (0, [.ref h2, .ref h3, .ref h8, .ref h9, .ref h4, .ref h10, .ref h11, .int 0, .int 0, .int 0, .null])), (h2, .inr (1, [.int 1, .ref h12, .int 0, .int (-1), .int 0, .int 0, .int (-1), .ref h13])), (h3, .inr (4, [.ref h14, .int 0])), (h4, .inr (2, [.int 7, .int 600, .ref h5, .int 0])), (h5, .inl (K 0, 112, .inl (fun _ => 0)))]) [1, 2, 3, 4, 5] rfl
  have hDc := hD.sub (ws' := [(h1, .inr (0, [.ref h2, .ref h3, .ref h8, .ref h9, .ref h4, .ref h10, .ref h11, .int 0, .int 0, .int 0, .null])), (h2, .inr (1, [.int 1, .ref h12, .int 0, .int (-1), .int 0, .int 0, .int (-1), .ref h13])), (h3, .inr (4, [.ref h14, .int 0])), (h4, .inr (2, [.int 7, .int 600, .ref h5, .int 0])), (h5, .inl (K 0, 112, .inl (fun _ => 0)))]) [1, 2, 3, 4, 5] (by decide) rfl
  refine wGoi (wc := [(h1, .inr (0, [.ref h2, .ref h3, .ref h8, .ref h9, .ref h4, .ref h10, .ref h11, .int 0, .int 0, .int 0, .null])), (h2, .inr (1, [.int 1, .ref h12, .int 0, .int (-1), .int 0, .int 0, .int (-1), .ref h13])), (h3, .inr (4, [.ref h14, .int 0])), (h4, .inr (2, [.int 7, .int 600, .ref h5, .int 0])), (h5, .inl (K 0, 112, .inl (fun _ => 0)))]) (wr := [(h0, .inr (7, [.ref h1, .ref h6, .null, .null, .ref h7]))]) (va_runV (As := [.int 3, .int p0, .int 0, .int 0, .int 0]) (rest := []) ⟨hx, hb, hml, hown, hts⟩ (m_X0_enact_2 l G K h1 h2 h3 h4 h5 h8 h9 h10 h11 h12 h13 h14 p0 _) (cwV 5 hts (wGV t_ (mw (.methodLink RX10 32 yX0_enact) (List.mem_of_getElem? (i := 1) rfl)) (mw (.instanceMethod yX0_enact) (List.mem_of_getElem? (i := 2) rfl)) (mw (.selects RX0 yX0_enact yX0_enact) (List.mem_of_getElem? (i := 3) rfl)) (mw (.initialized RX0) (List.mem_of_getElem? (i := 4) rfl)) j_X0_enact_2) rfl rfl rfl (by decide +kernel) ⟨Nat.le_of_ble_eq_true rfl, Nat.le_of_ble_eq_true rfl⟩) (wPV hK hE hPc hDc 0 0 rfl rfl) rfl rfl hl.1 rfl (lv_room (Nat.le_of_ble_eq_true rfl)) dX10_quorum_9 ⟨Nat.le_of_ble_eq_true rfl, Nat.le_of_ble_eq_true rfl⟩) hP hD hS hA [1, 2, 3, 4, 5] [0] rfl rfl rfl (by decide) (fun r u H locs hw hP hD hS => ?_)
  rcases hw with ⟨c_w, rfl, rfl⟩ | ⟨c_w, rfl, rfl⟩
  · have c1 := c_w
    have hP : va_P G vwCl [(h0, .inr (7, [.ref h1, .ref h6, .null, .null, .ref h7])), (h1, .inr (0, [.ref h2, .ref h3, .ref h8, .ref h9, .ref h4, .ref h10, .ref h11, .int 0, .int 0, .int 9, .null])), (h2, .inr (1, [.int 1, .ref h12, .int 0, .int (-1), .int 0, .int 0, .int (-1), .ref h13])), (h3, .inr (4, [.ref h14, .int 0])), (h4, .inr (2, [.int 7, .int 600, .ref h5, .int 0])), (h5, .inl (K 0, 112, .inl (fun _ => 0)))] _ := hP
    have hD : va_D A [(h0, .inr (7, [.ref h1, .ref h6, .null, .null, .ref h7])), (h1, .inr (0, [.ref h2, .ref h3, .ref h8, .ref h9, .ref h4, .ref h10, .ref h11, .int 0, .int 0, .int 9, .null])), (h2, .inr (1, [.int 1, .ref h12, .int 0, .int (-1), .int 0, .int 0, .int (-1), .ref h13])), (h3, .inr (4, [.ref h14, .int 0])), (h4, .inr (2, [.int 7, .int 600, .ref h5, .int 0])), (h5, .inl (K 0, 112, .inl (fun _ => 0)))] := hD
    have hP9 : va_P G vwCl [(h0, .inr (7, [.ref h1, .ref h6, .null, .null, .ref h7])), (h1, .inr (0, [.ref h2, .ref h3, .ref h8, .ref h9, .ref h4, .ref h10, .ref h11, .int 0, .int 0, .int 9, .null])), (h2, .inr (1, [.int 1, .ref h12, .int 0, .int (-1), .int 0, .int 0, .int (-1), .ref h13])), (h3, .inr (4, [.ref h14, .int 0])), (h4, .inr (2, [.int 7, .int 600, .ref h5, .int 0])), (h5, .inl (K 0, 112, .inl (fun _ => 0)))] _ := hP
    have hD9 : va_D A [(h0, .inr (7, [.ref h1, .ref h6, .null, .null, .ref h7])), (h1, .inr (0, [.ref h2, .ref h3, .ref h8, .ref h9, .ref h4, .ref h10, .ref h11, .int 0, .int 0, .int 9, .null])), (h2, .inr (1, [.int 1, .ref h12, .int 0, .int (-1), .int 0, .int 0, .int (-1), .ref h13])), (h3, .inr (4, [.ref h14, .int 0])), (h4, .inr (2, [.int 7, .int 600, .ref h5, .int 0])), (h5, .inl (K 0, 112, .inl (fun _ => 0)))] := hD
    exact W.iret (v := (-9)) hx hb hr (fun t ht hW => ⟨⟨(-9), _, rfl, Or.inl ⟨(by first | omega | decide | simp), rfl, rfl⟩, by rw [ht]; exact hP9, hD9⟩, hS.F ht⟩) hS.2.2 dX10_quorum_12
  · have c2 := c_w
    have hP : va_P G vwCl [(h0, .inr (7, [.ref h1, .ref h6, .null, .null, .ref h7])), (h1, .inr (0, [.ref h2, .ref h3, .ref h8, .ref h9, .ref h4, .ref h10, .ref h11, .int 0, .int 0, .int 0, .null])), (h2, .inr (1, [.int 1, .ref h12, .int 0, .int (-1), .int p0, .int 0, .int (-1), .ref h13])), (h3, .inr (4, [.ref h14, .int 0])), (h4, .inr (2, [.int 7, .int 600, .ref h5, .int 1])), (h5, .inl (K 0, 112, .inl (upd (upd (upd (upd (upd (upd (upd (fun _ => 0) 0 3) 1 p0) 2 0) 3 0) 4 0) 5 p0) 6 0)))] _ := hP
    have hD : va_D A [(h0, .inr (7, [.ref h1, .ref h6, .null, .null, .ref h7])), (h1, .inr (0, [.ref h2, .ref h3, .ref h8, .ref h9, .ref h4, .ref h10, .ref h11, .int 0, .int 0, .int 0, .null])), (h2, .inr (1, [.int 1, .ref h12, .int 0, .int (-1), .int p0, .int 0, .int (-1), .ref h13])), (h3, .inr (4, [.ref h14, .int 0])), (h4, .inr (2, [.int 7, .int 600, .ref h5, .int 1])), (h5, .inl (K 0, 112, .inl (upd (upd (upd (upd (upd (upd (upd (fun _ => 0) 0 3) 1 p0) 2 0) 3 0) 4 0) 5 p0) 6 0)))] := hD
    have hP9 : va_P G vwCl [(h0, .inr (7, [.ref h1, .ref h6, .null, .null, .ref h7])), (h1, .inr (0, [.ref h2, .ref h3, .ref h8, .ref h9, .ref h4, .ref h10, .ref h11, .int 0, .int 0, .int 0, .null])), (h2, .inr (1, [.int 1, .ref h12, .int 0, .int (-1), .int p0, .int 0, .int (-1), .ref h13])), (h3, .inr (4, [.ref h14, .int 0])), (h4, .inr (2, [.int 7, .int 600, .ref h5, .int 1])), (h5, .inl (K 0, 112, .inl (upd (upd (upd (upd (upd (upd (upd (fun _ => 0) 0 3) 1 p0) 2 0) 3 0) 4 0) 5 p0) 6 0)))] _ := hP
    have hD9 : va_D A [(h0, .inr (7, [.ref h1, .ref h6, .null, .null, .ref h7])), (h1, .inr (0, [.ref h2, .ref h3, .ref h8, .ref h9, .ref h4, .ref h10, .ref h11, .int 0, .int 0, .int 0, .null])), (h2, .inr (1, [.int 1, .ref h12, .int 0, .int (-1), .int p0, .int 0, .int (-1), .ref h13])), (h3, .inr (4, [.ref h14, .int 0])), (h4, .inr (2, [.int 7, .int 600, .ref h5, .int 1])), (h5, .inl (K 0, 112, .inl (upd (upd (upd (upd (upd (upd (upd (fun _ => 0) 0 3) 1 p0) 2 0) 3 0) 4 0) 5 p0) 6 0)))] := hD
    exact W.iret (v := p0) hx hb hr (fun t ht hW => ⟨⟨p0, _, rfl, Or.inr (⟨(by first | omega | decide | simp), rfl, rfl⟩), by rw [ht]; exact hP9, hD9⟩, hS.F ht⟩) hS.2.2 dX10_quorum_12
def e_X12_in_5 : List Cond := []
def v_X12_in_5 : List Cond := .code yX12_in cX12_in 3 (some .boolean) :: (e_X12_in_5 ++ [])
theorem te_X12_in_5 : GoodIn lw_tbl e_X12_in_5 := wG0
theorem t_X12_in_5 : GoodIn lw_tbl v_X12_in_5 := wGc z276 (wGa te_X12_in_5 (wG0))
set_option maxHeartbeats 4000000 in
set_option maxRecDepth 100000 in
theorem m_X12_in_5 (l : Launch) (G : va_G) (K : Nat → ClassId) (p0 : Int32) (sz : Nat) : Met l yX12_in v_X12_in_5 ({ frames := 0, cells := 0, slots := 0, locals := 0 }) (va_Pc [.int p0, .int 0, .int 200] (wS G K sz [])) (va_Qi (fun (r : Int32) (u : va_W) => ((p0.toInt < 0 ∨ (p0.toInt ≥ 0 ∧ p0.toInt > 200)) ∧ 0 = r ∧ u = []) ∨ (((p0.toInt ≥ 0 ∧ p0.toInt ≤ 200)) ∧ 1 = r ∧ u = [])) (wB G (va_A [] sz)) (va_A [] sz)) 0 0 (va_A [] sz) := by
  refine Met.ofW (cc := cX12_in) (maxL := 3) (ret := (some .boolean)) (by decide) rfl ?_
  intro p e s m args below meth c s₁ B hml hv
  obtain ⟨rfl, hsz, hP, hK, hD0, hE⟩ := hv
  have hx := B.exec
  have hb := B.bytes
  have hr := B.returns
  have hts := atoms_spec (ws := v_X12_in_5) B.pre
  have t_ := t_X12_in_5
  have mw : ∀ w ∈ e_X12_in_5, w ∈ v_X12_in_5 := fun w h => List.mem_cons_of_mem _ (List.mem_append_left _ h)
  have hw := fun w (h : w ∈ e_X12_in_5) => hts w (mw w h)
  have hown : s.vm.findClass RX12 = some m.cls := findClass_of_methodNamed B.named
  have hlocks := B.notSynchronized
  subst hsz
  have hD := hD0.self (sz := s.heap.size)
  generalize hAe : va_A [] s.heap.size = A at hD ⊢
  have hA : ∀ q : Nat, s.heap.size ≤ q → A q := fun q h => by rw [← hAe]; exact Or.inr h
  have hS : va_S A s.heap s.heap [] := va_S.rf
  have hP : va_P G vwCl [] s.heap := hP
  have hl := lv_entry ([.int p0, .int 0, .int 200]) (n := 3) (Nat.le_of_ble_eq_true rfl)
  rw [lg_entry_eq]
  generalize (lg_sl ([.int p0, .int 0, .int 200]) ++ List.replicate (3 - (lg_sl ([.int p0, .int 0, .int 200])).length) Slot.unset).toArray = ls at hl ⊢
  have hl : lv_has ls 3 [(0, .int p0), (1, .int 0), (2, .int 200)] := hl
  refine lv_iload_n hx hb dX12_in_0 rfl (lv_at hl 0 rfl) ?_
  refine lv_iload_n hx hb dX12_in_1 rfl (lv_at hl 1 rfl) ?_
  refine lv_icmp_lt (tgt := 14) hx hb dX12_in_2 (by decide) (fun c1 => ?_) (fun c1 => ?_)
  · have c1 : p0.toInt < 0 := wLt rfl (by decide) c1
    refine lv_iconst (v := 0) hx hb dX12_in_14 (by decide) ?_
    have hP9 : va_P G vwCl [] _ := hP
    have hD9 : va_D A [] := hD
    exact W.zret (v := 0) (ty := .boolean) hx hb hr rfl (fun t ht hW => ⟨⟨0, _, rfl, Or.inl ⟨(by first | omega | decide | simp), rfl, rfl⟩, by rw [ht]; exact hP9, hD9⟩, hS.F ht⟩) hS.2.2 dX12_in_15
  · have c1 : p0.toInt ≥ 0 := wNlt rfl (by decide) c1
    refine lv_iload_n hx hb dX12_in_5 rfl (lv_at hl 0 rfl) ?_
    refine lv_iload_n hx hb dX12_in_6 rfl (lv_at hl 2 rfl) ?_
    refine lv_icmp_gt (tgt := 14) hx hb dX12_in_7 (by decide) (fun c2 => ?_) (fun c2 => ?_)
    · have c2 : 200 < p0.toInt := wLt (by decide) rfl c2
      refine lv_iconst (v := 0) hx hb dX12_in_14 (by decide) ?_
      have hP9 : va_P G vwCl [] _ := hP
      have hD9 : va_D A [] := hD
      exact W.zret (v := 0) (ty := .boolean) hx hb hr rfl (fun t ht hW => ⟨⟨0, _, rfl, Or.inl ⟨(by first | omega | decide | simp), rfl, rfl⟩, by rw [ht]; exact hP9, hD9⟩, hS.F ht⟩) hS.2.2 dX12_in_15
    · have c2 : 200 ≥ p0.toInt := wNlt (by decide) rfl c2
      refine lv_iconst (v := 1) hx hb dX12_in_10 (by decide) ?_
      refine lv_goto (tgt := 15) hx hb dX12_in_11 (by decide) ?_
      have hP9 : va_P G vwCl [] _ := hP
      have hD9 : va_D A [] := hD
      exact W.zret (v := 1) (ty := .boolean) hx hb hr rfl (fun t ht hW => ⟨⟨1, _, rfl, Or.inr (⟨(by first | omega | decide | simp), rfl, rfl⟩), by rw [ht]; exact hP9, hD9⟩, hS.F ht⟩) hS.2.2 dX12_in_15
def e_X11_reason_4 : List Cond := [.initialized RX12, .static yX12_in, .fieldLink RX11 115 "MotionFloorModel$Hall" "pending" "I"]
def v_X11_reason_4 : List Cond := .code yX11_reason cX11_reason 6 (some .int) :: (e_X11_reason_4 ++ (wsX110 ++ (v_X12_in_5 ++ [])))
theorem te_X11_reason_4 : GoodIn lw_tbl e_X11_reason_4 := wGc z277 (wGc z278 (wGc z202 (wG0)))
theorem t_X11_reason_4 : GoodIn lw_tbl v_X11_reason_4 := wGc z355 (wGa te_X11_reason_4 (wGa zcX11 (wGa t_X12_in_5 (wG0))))
set_option maxHeartbeats 4000000 in
set_option maxRecDepth 100000 in
theorem m_X11_reason_4 (l : Launch) (G : va_G) (K : Nat → ClassId) (h0 h1 h2 h3 h4 h5 h6 h7 h8 h9 h10 h11 h12 h13 h14 h15 h16 h17 h18 h19 h20 h21 h22 h23 h24 h25 h26 h27 : Nat) (p0 : Int32) (sz : Nat) : Met l yX11_reason v_X11_reason_4 ({ frames := 1, cells := 0, slots := 0, locals := 22 }) (va_Pc [.ref h0, .int 3, .int p0, .int 0, .int 0, .int 0] (wS G K sz [(h0, .inr (8, [.int 1, .int 0, .int (-1), .int 0, .int 0, .int (-1), .int 0, .int 0, .int 0, .int 0, .int 0, .ref h1, .ref h2, .ref h3, .ref h4, .ref h5, .ref h6, .ref h7, .ref h8, .ref h9, .ref h10, .ref h11, .ref h12, .ref h13, .ref h14, .ref h15, .ref h16, .ref h17, .ref h18, .ref h19, .int 0, .ref h20, .ref h21, .ref h22, .ref h23, .int 0, .int 0, .ref h24, .ref h25, .int (-1), .ref h26, .ref h27]))])) (va_Qi (fun (r : Int32) (u : va_W) => (((p0.toInt < 0 ∨ (p0.toInt ≥ 0 ∧ p0.toInt > 200))) ∧ 9 = r ∧ u = [(h0, .inr (8, [.int 1, .int 0, .int (-1), .int 0, .int 0, .int (-1), .int 0, .int 0, .int 0, .int 0, .int 0, .ref h1, .ref h2, .ref h3, .ref h4, .ref h5, .ref h6, .ref h7, .ref h8, .ref h9, .ref h10, .ref h11, .ref h12, .ref h13, .ref h14, .ref h15, .ref h16, .ref h17, .ref h18, .ref h19, .int 0, .ref h20, .ref h21, .ref h22, .ref h23, .int 0, .int 0, .ref h24, .ref h25, .int (-1), .ref h26, .ref h27]))]) ∨ ((((p0.toInt ≥ 0 ∧ p0.toInt ≤ 200))) ∧ 0 = r ∧ u = [(h0, .inr (8, [.int 1, .int 0, .int (-1), .int 0, .int 0, .int (-1), .int 0, .int 0, .int 0, .int 0, .int 0, .ref h1, .ref h2, .ref h3, .ref h4, .ref h5, .ref h6, .ref h7, .ref h8, .ref h9, .ref h10, .ref h11, .ref h12, .ref h13, .ref h14, .ref h15, .ref h16, .ref h17, .ref h18, .ref h19, .int 0, .ref h20, .ref h21, .ref h22, .ref h23, .int 0, .int 0, .ref h24, .ref h25, .int (-1), .ref h26, .ref h27]))])) (wB G (va_A [(h0, .inr (8, [.int 1, .int 0, .int (-1), .int 0, .int 0, .int (-1), .int 0, .int 0, .int 0, .int 0, .int 0, .ref h1, .ref h2, .ref h3, .ref h4, .ref h5, .ref h6, .ref h7, .ref h8, .ref h9, .ref h10, .ref h11, .ref h12, .ref h13, .ref h14, .ref h15, .ref h16, .ref h17, .ref h18, .ref h19, .int 0, .ref h20, .ref h21, .ref h22, .ref h23, .int 0, .int 0, .ref h24, .ref h25, .int (-1), .ref h26, .ref h27]))] sz)) (va_A [(h0, .inr (8, [.int 1, .int 0, .int (-1), .int 0, .int 0, .int (-1), .int 0, .int 0, .int 0, .int 0, .int 0, .ref h1, .ref h2, .ref h3, .ref h4, .ref h5, .ref h6, .ref h7, .ref h8, .ref h9, .ref h10, .ref h11, .ref h12, .ref h13, .ref h14, .ref h15, .ref h16, .ref h17, .ref h18, .ref h19, .int 0, .ref h20, .ref h21, .ref h22, .ref h23, .int 0, .int 0, .ref h24, .ref h25, .int (-1), .ref h26, .ref h27]))] sz)) 0 0 (va_A [(h0, .inr (8, [.int 1, .int 0, .int (-1), .int 0, .int 0, .int (-1), .int 0, .int 0, .int 0, .int 0, .int 0, .ref h1, .ref h2, .ref h3, .ref h4, .ref h5, .ref h6, .ref h7, .ref h8, .ref h9, .ref h10, .ref h11, .ref h12, .ref h13, .ref h14, .ref h15, .ref h16, .ref h17, .ref h18, .ref h19, .int 0, .ref h20, .ref h21, .ref h22, .ref h23, .int 0, .int 0, .ref h24, .ref h25, .int (-1), .ref h26, .ref h27]))] sz) := by
  refine Met.ofW (cc := cX11_reason) (maxL := 6) (ret := (some .int)) (by decide) rfl ?_
  intro p e s m args below meth c s₁ B hml hv
  obtain ⟨rfl, hsz, hP, hK, hD0, hE⟩ := hv
  have hx := B.exec
  have hb := B.bytes
  have hr := B.returns
  have hts := atoms_spec (ws := v_X11_reason_4) B.pre
  have t_ := t_X11_reason_4
  have mw : ∀ w ∈ e_X11_reason_4, w ∈ v_X11_reason_4 := fun w h => List.mem_cons_of_mem _ (List.mem_append_left _ h)
  have hw := fun w (h : w ∈ e_X11_reason_4) => hts w (mw w h)
  have iX11 : ∀ w ∈ wsX110, w ∈ v_X11_reason_4 := fun w h => List.mem_cons_of_mem _ (List.mem_append_right _ (List.mem_append_left _ h))
  have j_X12_in_5 : ∀ w ∈ v_X12_in_5, w ∈ v_X11_reason_4 := fun w h => List.mem_cons_of_mem _ (List.mem_append_right _ (List.mem_append_right _ (List.mem_append_left _ h)))
  have hown : s.vm.findClass RX11 = some m.cls := findClass_of_methodNamed B.named
  have hlocks := B.notSynchronized
  subst hsz
  have hD := hD0.self (sz := s.heap.size)
  generalize hAe : va_A [(h0, .inr (8, [.int 1, .int 0, .int (-1), .int 0, .int 0, .int (-1), .int 0, .int 0, .int 0, .int 0, .int 0, .ref h1, .ref h2, .ref h3, .ref h4, .ref h5, .ref h6, .ref h7, .ref h8, .ref h9, .ref h10, .ref h11, .ref h12, .ref h13, .ref h14, .ref h15, .ref h16, .ref h17, .ref h18, .ref h19, .int 0, .ref h20, .ref h21, .ref h22, .ref h23, .int 0, .int 0, .ref h24, .ref h25, .int (-1), .ref h26, .ref h27]))] s.heap.size = A at hD ⊢
  have hA : ∀ q : Nat, s.heap.size ≤ q → A q := fun q h => by rw [← hAe]; exact Or.inr h
  have hS : va_S A s.heap s.heap [] := va_S.rf
  have hP : va_P G vwCl [(h0, .inr (8, [.int 1, .int 0, .int (-1), .int 0, .int 0, .int (-1), .int 0, .int 0, .int 0, .int 0, .int 0, .ref h1, .ref h2, .ref h3, .ref h4, .ref h5, .ref h6, .ref h7, .ref h8, .ref h9, .ref h10, .ref h11, .ref h12, .ref h13, .ref h14, .ref h15, .ref h16, .ref h17, .ref h18, .ref h19, .int 0, .ref h20, .ref h21, .ref h22, .ref h23, .int 0, .int 0, .ref h24, .ref h25, .int (-1), .ref h26, .ref h27]))] s.heap := hP
  have hl := lv_entry ([.ref h0, .int 3, .int p0, .int 0, .int 0, .int 0]) (n := 6) (Nat.le_of_ble_eq_true rfl)
  rw [lg_entry_eq]
  generalize (lg_sl ([.ref h0, .int 3, .int p0, .int 0, .int 0, .int 0]) ++ List.replicate (6 - (lg_sl ([.ref h0, .int 3, .int p0, .int 0, .int 0, .int 0])).length) Slot.unset).toArray = ls at hl ⊢
  have hl : lv_has ls 6 [(0, .ref h0), (1, .int 3), (2, .int p0), (3, .int 0), (4, .int 0), (5, .int 0)] := hl
  refine lv_iload_n hx hb dX11_reason_0 rfl (lv_at hl 1 rfl) ?_
  refine lv_tableIn (off := 157) (tgt := 158) hx hb dX11_reason_1 (by decide) (by decide) (by decide) (by decide) ?_
  refine lv_iload_n hx hb dX11_reason_158 rfl (lv_at hl 2 rfl) ?_
  refine lv_iconst (v := 0) hx hb dX11_reason_159 (by decide) ?_
  refine lv_sipush (v := 200) hx hb dX11_reason_160 (by decide) ?_
  have hPc := hP.sub (ws' := []) [] rfl
  have hDc := hD.sub (ws' := []) [] (by decide) rfl
  refine wGoi (wc := []) (wr := [(h0, .inr (8, [.int 1, .int 0, .int (-1), .int 0, .int 0, .int (-1), .int 0, .int 0, .int 0, .int 0, .int 0, .ref h1, .ref h2, .ref h3, .ref h4, .ref h5, .ref h6, .ref h7, .ref h8, .ref h9, .ref h10, .ref h11, .ref h12, .ref h13, .ref h14, .ref h15, .ref h16, .ref h17, .ref h18, .ref h19, .int 0, .ref h20, .ref h21, .ref h22, .ref h23, .int 0, .int 0, .ref h24, .ref h25, .int (-1), .ref h26, .ref h27]))]) (va_runSN (As := [.int p0, .int 0, .int 200]) (rest := []) ⟨hx, hb, hml, hown, hts⟩ (m_X12_in_5 l G K p0 _) ⟨va_cnB (host := "MotionFloorModel") 3 hts (wGP t_ j_X12_in_5) rfl rfl rfl hE.2.2.2.2.2.2.2.2.2.1 (hw (.initialized RX12) (List.mem_of_getElem? (i := 0) rfl)) (by decide +kernel) ⟨Nat.le_of_ble_eq_true rfl, Nat.le_of_ble_eq_true rfl⟩, (hw (.static yX12_in) (List.mem_of_getElem? (i := 1) rfl)), trivial⟩ (wPS hK hE hPc hDc) rfl rfl hl.1 rfl (lv_room (Nat.le_of_ble_eq_true rfl)) dX11_reason_163 ⟨Nat.le_of_ble_eq_true rfl, Nat.le_of_ble_eq_true rfl⟩) hP hD hS hA [] [0] rfl rfl rfl (by decide) (fun r u H locs hw hP hD hS => ?_)
  rcases hw with ⟨c_w, rfl, rfl⟩ | ⟨c_w, rfl, rfl⟩
  · have c1 := c_w
    have hP : va_P G vwCl [(h0, .inr (8, [.int 1, .int 0, .int (-1), .int 0, .int 0, .int (-1), .int 0, .int 0, .int 0, .int 0, .int 0, .ref h1, .ref h2, .ref h3, .ref h4, .ref h5, .ref h6, .ref h7, .ref h8, .ref h9, .ref h10, .ref h11, .ref h12, .ref h13, .ref h14, .ref h15, .ref h16, .ref h17, .ref h18, .ref h19, .int 0, .ref h20, .ref h21, .ref h22, .ref h23, .int 0, .int 0, .ref h24, .ref h25, .int (-1), .ref h26, .ref h27]))] _ := hP
    have hD : va_D A [(h0, .inr (8, [.int 1, .int 0, .int (-1), .int 0, .int 0, .int (-1), .int 0, .int 0, .int 0, .int 0, .int 0, .ref h1, .ref h2, .ref h3, .ref h4, .ref h5, .ref h6, .ref h7, .ref h8, .ref h9, .ref h10, .ref h11, .ref h12, .ref h13, .ref h14, .ref h15, .ref h16, .ref h17, .ref h18, .ref h19, .int 0, .ref h20, .ref h21, .ref h22, .ref h23, .int 0, .int 0, .ref h24, .ref h25, .int (-1), .ref h26, .ref h27]))] := hD
    refine lv_if_ne (tgt := 174) hx hb dX11_reason_166 (by decide) (fun c_ => absurd c_ (by decide)) (fun _ => ?_)
    refine lv_bipush (v := 9) hx hb dX11_reason_169 (by decide) ?_
    refine lv_goto (tgt := 187) hx hb dX11_reason_171 (by decide) ?_
    have hP9 : va_P G vwCl [(h0, .inr (8, [.int 1, .int 0, .int (-1), .int 0, .int 0, .int (-1), .int 0, .int 0, .int 0, .int 0, .int 0, .ref h1, .ref h2, .ref h3, .ref h4, .ref h5, .ref h6, .ref h7, .ref h8, .ref h9, .ref h10, .ref h11, .ref h12, .ref h13, .ref h14, .ref h15, .ref h16, .ref h17, .ref h18, .ref h19, .int 0, .ref h20, .ref h21, .ref h22, .ref h23, .int 0, .int 0, .ref h24, .ref h25, .int (-1), .ref h26, .ref h27]))] _ := hP
    have hD9 : va_D A [(h0, .inr (8, [.int 1, .int 0, .int (-1), .int 0, .int 0, .int (-1), .int 0, .int 0, .int 0, .int 0, .int 0, .ref h1, .ref h2, .ref h3, .ref h4, .ref h5, .ref h6, .ref h7, .ref h8, .ref h9, .ref h10, .ref h11, .ref h12, .ref h13, .ref h14, .ref h15, .ref h16, .ref h17, .ref h18, .ref h19, .int 0, .ref h20, .ref h21, .ref h22, .ref h23, .int 0, .int 0, .ref h24, .ref h25, .int (-1), .ref h26, .ref h27]))] := hD
    exact W.iret (v := 9) hx hb hr (fun t ht hW => ⟨⟨9, _, rfl, Or.inl ⟨(by first | omega | decide | simp), rfl, rfl⟩, by rw [ht]; exact hP9, hD9⟩, hS.F ht⟩) hS.2.2 dX11_reason_187
  · have c2 := c_w
    have hP : va_P G vwCl [(h0, .inr (8, [.int 1, .int 0, .int (-1), .int 0, .int 0, .int (-1), .int 0, .int 0, .int 0, .int 0, .int 0, .ref h1, .ref h2, .ref h3, .ref h4, .ref h5, .ref h6, .ref h7, .ref h8, .ref h9, .ref h10, .ref h11, .ref h12, .ref h13, .ref h14, .ref h15, .ref h16, .ref h17, .ref h18, .ref h19, .int 0, .ref h20, .ref h21, .ref h22, .ref h23, .int 0, .int 0, .ref h24, .ref h25, .int (-1), .ref h26, .ref h27]))] _ := hP
    have hD : va_D A [(h0, .inr (8, [.int 1, .int 0, .int (-1), .int 0, .int 0, .int (-1), .int 0, .int 0, .int 0, .int 0, .int 0, .ref h1, .ref h2, .ref h3, .ref h4, .ref h5, .ref h6, .ref h7, .ref h8, .ref h9, .ref h10, .ref h11, .ref h12, .ref h13, .ref h14, .ref h15, .ref h16, .ref h17, .ref h18, .ref h19, .int 0, .ref h20, .ref h21, .ref h22, .ref h23, .int 0, .int 0, .ref h24, .ref h25, .int (-1), .ref h26, .ref h27]))] := hD
    refine lv_if_ne (tgt := 174) hx hb dX11_reason_166 (by decide) (fun _ => ?_) (fun c_ => absurd c_ (by decide))
    refine lv_aload_n hx hb dX11_reason_174 rfl (lv_at hl 0 rfl) ?_
    refine va_get (D := G) (ci := 8) (v := .int 0) (C := RX11) (T := TX11) (N := 42) hx hb hts iX11 hown hK hP 0 rfl rfl 6 (by decide) (hw (.fieldLink RX11 115 "MotionFloorModel$Hall" "pending" "I") (List.mem_of_getElem? (i := 2) rfl)) (fun _ h9 => h9) rfl dX11_reason_175 ?_
    refine lv_if_le (tgt := 186) hx hb dX11_reason_178 (by decide) (fun _ => ?_) (fun c_ => absurd c_ (by decide))
    refine lv_iconst (v := 0) hx hb dX11_reason_186 (by decide) ?_
    have hP9 : va_P G vwCl [(h0, .inr (8, [.int 1, .int 0, .int (-1), .int 0, .int 0, .int (-1), .int 0, .int 0, .int 0, .int 0, .int 0, .ref h1, .ref h2, .ref h3, .ref h4, .ref h5, .ref h6, .ref h7, .ref h8, .ref h9, .ref h10, .ref h11, .ref h12, .ref h13, .ref h14, .ref h15, .ref h16, .ref h17, .ref h18, .ref h19, .int 0, .ref h20, .ref h21, .ref h22, .ref h23, .int 0, .int 0, .ref h24, .ref h25, .int (-1), .ref h26, .ref h27]))] _ := hP
    have hD9 : va_D A [(h0, .inr (8, [.int 1, .int 0, .int (-1), .int 0, .int 0, .int (-1), .int 0, .int 0, .int 0, .int 0, .int 0, .ref h1, .ref h2, .ref h3, .ref h4, .ref h5, .ref h6, .ref h7, .ref h8, .ref h9, .ref h10, .ref h11, .ref h12, .ref h13, .ref h14, .ref h15, .ref h16, .ref h17, .ref h18, .ref h19, .int 0, .ref h20, .ref h21, .ref h22, .ref h23, .int 0, .int 0, .ref h24, .ref h25, .int (-1), .ref h26, .ref h27]))] := hD
    exact W.iret (v := 0) hx hb hr (fun t ht hW => ⟨⟨0, _, rfl, Or.inr (⟨(by first | omega | decide | simp), rfl, rfl⟩), by rw [ht]; exact hP9, hD9⟩, hS.F ht⟩) hS.2.2 dX11_reason_187
def e_X11_does_1 : List Cond := [.fieldLink RX11 106 "MotionFloorModel$Hall" "quorum" "I"]
def v_X11_does_1 : List Cond := .code yX11_does cX11_does 7 (some .int) :: (e_X11_does_1 ++ (wsX110 ++ []))
theorem te_X11_does_1 : GoodIn lw_tbl e_X11_does_1 := wGc z205 (wG0)
theorem t_X11_does_1 : GoodIn lw_tbl v_X11_does_1 := wGc z356 (wGa te_X11_does_1 (wGa zcX11 (wG0)))
set_option maxHeartbeats 4000000 in
set_option maxRecDepth 100000 in
theorem m_X11_does_1 (l : Launch) (G : va_G) (K : Nat → ClassId) (h0 h1 h2 h3 h4 h5 h6 h7 h8 h9 h10 h11 h12 h13 h14 h15 h16 h17 h18 h19 h20 h21 h22 h23 h24 h25 h26 h27 : Nat) (p0 : Int32) (sz : Nat) (bp0 : 0 ≤ p0.toInt ∧ p0.toInt ≤ 200) : Met l yX11_does v_X11_does_1 ({ frames := 0, cells := 0, slots := 0, locals := 0 }) (va_Pc [.ref h0, .int 3, .int p0, .int 0, .int 0, .int 0] (wS G K sz [(h0, .inr (8, [.int 1, .int 0, .int (-1), .int 0, .int 0, .int (-1), .int 0, .int 0, .int 0, .int 0, .int 0, .ref h1, .ref h2, .ref h3, .ref h4, .ref h5, .ref h6, .ref h7, .ref h8, .ref h9, .ref h10, .ref h11, .ref h12, .ref h13, .ref h14, .ref h15, .ref h16, .ref h17, .ref h18, .ref h19, .int 0, .ref h20, .ref h21, .ref h22, .ref h23, .int 0, .int 0, .ref h24, .ref h25, .int (-1), .ref h26, .ref h27]))])) (va_Qi (fun (r : Int32) (u : va_W) => (p0 = r ∧ u = [(h0, .inr (8, [.int 1, .int 0, .int (-1), .int p0, .int 0, .int (-1), .int 0, .int 0, .int 0, .int 0, .int 0, .ref h1, .ref h2, .ref h3, .ref h4, .ref h5, .ref h6, .ref h7, .ref h8, .ref h9, .ref h10, .ref h11, .ref h12, .ref h13, .ref h14, .ref h15, .ref h16, .ref h17, .ref h18, .ref h19, .int 0, .ref h20, .ref h21, .ref h22, .ref h23, .int 0, .int 0, .ref h24, .ref h25, .int (-1), .ref h26, .ref h27]))])) (wB G (va_A [(h0, .inr (8, [.int 1, .int 0, .int (-1), .int 0, .int 0, .int (-1), .int 0, .int 0, .int 0, .int 0, .int 0, .ref h1, .ref h2, .ref h3, .ref h4, .ref h5, .ref h6, .ref h7, .ref h8, .ref h9, .ref h10, .ref h11, .ref h12, .ref h13, .ref h14, .ref h15, .ref h16, .ref h17, .ref h18, .ref h19, .int 0, .ref h20, .ref h21, .ref h22, .ref h23, .int 0, .int 0, .ref h24, .ref h25, .int (-1), .ref h26, .ref h27]))] sz)) (va_A [(h0, .inr (8, [.int 1, .int 0, .int (-1), .int 0, .int 0, .int (-1), .int 0, .int 0, .int 0, .int 0, .int 0, .ref h1, .ref h2, .ref h3, .ref h4, .ref h5, .ref h6, .ref h7, .ref h8, .ref h9, .ref h10, .ref h11, .ref h12, .ref h13, .ref h14, .ref h15, .ref h16, .ref h17, .ref h18, .ref h19, .int 0, .ref h20, .ref h21, .ref h22, .ref h23, .int 0, .int 0, .ref h24, .ref h25, .int (-1), .ref h26, .ref h27]))] sz)) 0 0 (va_A [(h0, .inr (8, [.int 1, .int 0, .int (-1), .int 0, .int 0, .int (-1), .int 0, .int 0, .int 0, .int 0, .int 0, .ref h1, .ref h2, .ref h3, .ref h4, .ref h5, .ref h6, .ref h7, .ref h8, .ref h9, .ref h10, .ref h11, .ref h12, .ref h13, .ref h14, .ref h15, .ref h16, .ref h17, .ref h18, .ref h19, .int 0, .ref h20, .ref h21, .ref h22, .ref h23, .int 0, .int 0, .ref h24, .ref h25, .int (-1), .ref h26, .ref h27]))] sz) := by
  refine Met.ofW (cc := cX11_does) (maxL := 7) (ret := (some .int)) (by decide) rfl ?_
  intro p e s m args below meth c s₁ B hml hv
  obtain ⟨rfl, hsz, hP, hK, hD0, hE⟩ := hv
  have hx := B.exec
  have hb := B.bytes
  have hr := B.returns
  have hts := atoms_spec (ws := v_X11_does_1) B.pre
  have t_ := t_X11_does_1
  have mw : ∀ w ∈ e_X11_does_1, w ∈ v_X11_does_1 := fun w h => List.mem_cons_of_mem _ (List.mem_append_left _ h)
  have hw := fun w (h : w ∈ e_X11_does_1) => hts w (mw w h)
  have iX11 : ∀ w ∈ wsX110, w ∈ v_X11_does_1 := fun w h => List.mem_cons_of_mem _ (List.mem_append_right _ (List.mem_append_left _ h))
  have hown : s.vm.findClass RX11 = some m.cls := findClass_of_methodNamed B.named
  have hlocks := B.notSynchronized
  subst hsz
  have hD := hD0.self (sz := s.heap.size)
  generalize hAe : va_A [(h0, .inr (8, [.int 1, .int 0, .int (-1), .int 0, .int 0, .int (-1), .int 0, .int 0, .int 0, .int 0, .int 0, .ref h1, .ref h2, .ref h3, .ref h4, .ref h5, .ref h6, .ref h7, .ref h8, .ref h9, .ref h10, .ref h11, .ref h12, .ref h13, .ref h14, .ref h15, .ref h16, .ref h17, .ref h18, .ref h19, .int 0, .ref h20, .ref h21, .ref h22, .ref h23, .int 0, .int 0, .ref h24, .ref h25, .int (-1), .ref h26, .ref h27]))] s.heap.size = A at hD ⊢
  have hA : ∀ q : Nat, s.heap.size ≤ q → A q := fun q h => by rw [← hAe]; exact Or.inr h
  have hS : va_S A s.heap s.heap [] := va_S.rf
  have hP : va_P G vwCl [(h0, .inr (8, [.int 1, .int 0, .int (-1), .int 0, .int 0, .int (-1), .int 0, .int 0, .int 0, .int 0, .int 0, .ref h1, .ref h2, .ref h3, .ref h4, .ref h5, .ref h6, .ref h7, .ref h8, .ref h9, .ref h10, .ref h11, .ref h12, .ref h13, .ref h14, .ref h15, .ref h16, .ref h17, .ref h18, .ref h19, .int 0, .ref h20, .ref h21, .ref h22, .ref h23, .int 0, .int 0, .ref h24, .ref h25, .int (-1), .ref h26, .ref h27]))] s.heap := hP
  have hl := lv_entry ([.ref h0, .int 3, .int p0, .int 0, .int 0, .int 0]) (n := 7) (Nat.le_of_ble_eq_true rfl)
  rw [lg_entry_eq]
  generalize (lg_sl ([.ref h0, .int 3, .int p0, .int 0, .int 0, .int 0]) ++ List.replicate (7 - (lg_sl ([.ref h0, .int 3, .int p0, .int 0, .int 0, .int 0])).length) Slot.unset).toArray = ls at hl ⊢
  have hl : lv_has ls 7 [(0, .ref h0), (1, .int 3), (2, .int p0), (3, .int 0), (4, .int 0), (5, .int 0)] := hl
  refine lv_iload_n hx hb dX11_does_0 rfl (lv_at hl 1 rfl) ?_
  refine lv_tableIn (off := 156) (tgt := 157) hx hb dX11_does_1 (by decide) (by decide) (by decide) (by decide) ?_
  refine lv_aload_n hx hb dX11_does_157 rfl (lv_at hl 0 rfl) ?_
  refine lv_iload_n hx hb dX11_does_158 rfl (lv_at hl 2 rfl) ?_
  refine va_put (D := G) (ci := 8) (v := .int p0) (ty := .int) (C := RX11) (T := TX11) (N := 42) hx hb hts iX11 tyX11 tyX11_ok nmX11 hown hK hP hD hS 0 rfl rfl 3 (by decide) (hw (.fieldLink RX11 106 "MotionFloorModel$Hall" "quorum" "I") (List.mem_of_getElem? (i := 0) rfl)) (fun _ h9 => h9) rfl (by decide +kernel) rfl rfl (Nat.le_of_ble_eq_true rfl) dX11_does_159 (fun H locs hP hD hS => ?_)
  have hP : va_P G vwCl [(h0, .inr (8, [.int 1, .int 0, .int (-1), .int p0, .int 0, .int (-1), .int 0, .int 0, .int 0, .int 0, .int 0, .ref h1, .ref h2, .ref h3, .ref h4, .ref h5, .ref h6, .ref h7, .ref h8, .ref h9, .ref h10, .ref h11, .ref h12, .ref h13, .ref h14, .ref h15, .ref h16, .ref h17, .ref h18, .ref h19, .int 0, .ref h20, .ref h21, .ref h22, .ref h23, .int 0, .int 0, .ref h24, .ref h25, .int (-1), .ref h26, .ref h27]))] _ := hP
  have hD : va_D A [(h0, .inr (8, [.int 1, .int 0, .int (-1), .int p0, .int 0, .int (-1), .int 0, .int 0, .int 0, .int 0, .int 0, .ref h1, .ref h2, .ref h3, .ref h4, .ref h5, .ref h6, .ref h7, .ref h8, .ref h9, .ref h10, .ref h11, .ref h12, .ref h13, .ref h14, .ref h15, .ref h16, .ref h17, .ref h18, .ref h19, .int 0, .ref h20, .ref h21, .ref h22, .ref h23, .int 0, .int 0, .ref h24, .ref h25, .int (-1), .ref h26, .ref h27]))] := hD
  refine lv_iload_n hx hb dX11_does_162 rfl (lv_at hl 2 rfl) ?_
  have hP9 : va_P G vwCl [(h0, .inr (8, [.int 1, .int 0, .int (-1), .int p0, .int 0, .int (-1), .int 0, .int 0, .int 0, .int 0, .int 0, .ref h1, .ref h2, .ref h3, .ref h4, .ref h5, .ref h6, .ref h7, .ref h8, .ref h9, .ref h10, .ref h11, .ref h12, .ref h13, .ref h14, .ref h15, .ref h16, .ref h17, .ref h18, .ref h19, .int 0, .ref h20, .ref h21, .ref h22, .ref h23, .int 0, .int 0, .ref h24, .ref h25, .int (-1), .ref h26, .ref h27]))] _ := hP
  have hD9 : va_D A [(h0, .inr (8, [.int 1, .int 0, .int (-1), .int p0, .int 0, .int (-1), .int 0, .int 0, .int 0, .int 0, .int 0, .ref h1, .ref h2, .ref h3, .ref h4, .ref h5, .ref h6, .ref h7, .ref h8, .ref h9, .ref h10, .ref h11, .ref h12, .ref h13, .ref h14, .ref h15, .ref h16, .ref h17, .ref h18, .ref h19, .int 0, .ref h20, .ref h21, .ref h22, .ref h23, .int 0, .int 0, .ref h24, .ref h25, .int (-1), .ref h26, .ref h27]))] := hD
  exact W.iret (v := p0) hx hb hr (fun t ht hW => ⟨⟨p0, _, rfl, ⟨rfl, rfl⟩, by rw [ht]; exact hP9, hD9⟩, hS.F ht⟩) hS.2.2 dX11_does_163
def e_X12_in_6 : List Cond := []
def v_X12_in_6 : List Cond := .code yX12_in cX12_in 3 (some .boolean) :: (e_X12_in_6 ++ [])
theorem te_X12_in_6 : GoodIn lw_tbl e_X12_in_6 := wG0
theorem t_X12_in_6 : GoodIn lw_tbl v_X12_in_6 := wGc z276 (wGa te_X12_in_6 (wG0))
set_option maxHeartbeats 4000000 in
set_option maxRecDepth 100000 in
theorem m_X12_in_6 (l : Launch) (G : va_G) (K : Nat → ClassId) (sz : Nat) : Met l yX12_in v_X12_in_6 ({ frames := 0, cells := 0, slots := 0, locals := 0 }) (va_Pc [.int 3, .int 1, .int 22] (wS G K sz [])) (va_Qi (fun (r : Int32) (u : va_W) => (1 = r ∧ u = [])) (wB G (va_A [] sz)) (va_A [] sz)) 0 0 (va_A [] sz) := by
  refine Met.ofW (cc := cX12_in) (maxL := 3) (ret := (some .boolean)) (by decide) rfl ?_
  intro p e s m args below meth c s₁ B hml hv
  obtain ⟨rfl, hsz, hP, hK, hD0, hE⟩ := hv
  have hx := B.exec
  have hb := B.bytes
  have hr := B.returns
  have hts := atoms_spec (ws := v_X12_in_6) B.pre
  have t_ := t_X12_in_6
  have mw : ∀ w ∈ e_X12_in_6, w ∈ v_X12_in_6 := fun w h => List.mem_cons_of_mem _ (List.mem_append_left _ h)
  have hw := fun w (h : w ∈ e_X12_in_6) => hts w (mw w h)
  have hown : s.vm.findClass RX12 = some m.cls := findClass_of_methodNamed B.named
  have hlocks := B.notSynchronized
  subst hsz
  have hD := hD0.self (sz := s.heap.size)
  generalize hAe : va_A [] s.heap.size = A at hD ⊢
  have hA : ∀ q : Nat, s.heap.size ≤ q → A q := fun q h => by rw [← hAe]; exact Or.inr h
  have hS : va_S A s.heap s.heap [] := va_S.rf
  have hP : va_P G vwCl [] s.heap := hP
  have hl := lv_entry ([.int 3, .int 1, .int 22]) (n := 3) (Nat.le_of_ble_eq_true rfl)
  rw [lg_entry_eq]
  generalize (lg_sl ([.int 3, .int 1, .int 22]) ++ List.replicate (3 - (lg_sl ([.int 3, .int 1, .int 22])).length) Slot.unset).toArray = ls at hl ⊢
  have hl : lv_has ls 3 [(0, .int 3), (1, .int 1), (2, .int 22)] := hl
  refine lv_iload_n hx hb dX12_in_0 rfl (lv_at hl 0 rfl) ?_
  refine lv_iload_n hx hb dX12_in_1 rfl (lv_at hl 1 rfl) ?_
  refine lv_icmp_lt (tgt := 14) hx hb dX12_in_2 (by decide) (fun c_ => absurd c_ (by decide)) (fun _ => ?_)
  refine lv_iload_n hx hb dX12_in_5 rfl (lv_at hl 0 rfl) ?_
  refine lv_iload_n hx hb dX12_in_6 rfl (lv_at hl 2 rfl) ?_
  refine lv_icmp_gt (tgt := 14) hx hb dX12_in_7 (by decide) (fun c_ => absurd c_ (by decide)) (fun _ => ?_)
  refine lv_iconst (v := 1) hx hb dX12_in_10 (by decide) ?_
  refine lv_goto (tgt := 15) hx hb dX12_in_11 (by decide) ?_
  have hP9 : va_P G vwCl [] _ := hP
  have hD9 : va_D A [] := hD
  exact W.zret (v := 1) (ty := .boolean) hx hb hr rfl (fun t ht hW => ⟨⟨1, _, rfl, ⟨rfl, rfl⟩, by rw [ht]; exact hP9, hD9⟩, hS.F ht⟩) hS.2.2 dX12_in_15
def e_X12_numbers_1 : List Cond := [.methodLink RX12 1 yX12_in, .static yX12_in, .initialized RX12]
def v_X12_numbers_1 : List Cond := .code yX12_numbers cX12_numbers 1 (some .int) :: (e_X12_numbers_1 ++ (v_X12_in_6 ++ []))
theorem te_X12_numbers_1 : GoodIn lw_tbl e_X12_numbers_1 := wGc z279 (wGc z278 (wGc z277 (wG0)))
theorem t_X12_numbers_1 : GoodIn lw_tbl v_X12_numbers_1 := wGc z357 (wGa te_X12_numbers_1 (wGa t_X12_in_6 (wG0)))
set_option maxHeartbeats 4000000 in
set_option maxRecDepth 100000 in
theorem m_X12_numbers_1 (l : Launch) (G : va_G) (K : Nat → ClassId) (sz : Nat) : Met l yX12_numbers v_X12_numbers_1 ({ frames := 1, cells := 0, slots := 0, locals := 22 }) (va_Pc [.int 3] (wS G K sz [])) (va_Qi (fun (r : Int32) (u : va_W) => (1 = r ∧ u = [])) (wB G (va_A [] sz)) (va_A [] sz)) 0 0 (va_A [] sz) := by
  refine Met.ofW (cc := cX12_numbers) (maxL := 1) (ret := (some .int)) (by decide) rfl ?_
  intro p e s m args below meth c s₁ B hml hv
  obtain ⟨rfl, hsz, hP, hK, hD0, hE⟩ := hv
  have hx := B.exec
  have hb := B.bytes
  have hr := B.returns
  have hts := atoms_spec (ws := v_X12_numbers_1) B.pre
  have t_ := t_X12_numbers_1
  have mw : ∀ w ∈ e_X12_numbers_1, w ∈ v_X12_numbers_1 := fun w h => List.mem_cons_of_mem _ (List.mem_append_left _ h)
  have hw := fun w (h : w ∈ e_X12_numbers_1) => hts w (mw w h)
  have j_X12_in_6 : ∀ w ∈ v_X12_in_6, w ∈ v_X12_numbers_1 := fun w h => List.mem_cons_of_mem _ (List.mem_append_right _ (List.mem_append_left _ h))
  have hown : s.vm.findClass RX12 = some m.cls := findClass_of_methodNamed B.named
  have hlocks := B.notSynchronized
  subst hsz
  have hD := hD0.self (sz := s.heap.size)
  generalize hAe : va_A [] s.heap.size = A at hD ⊢
  have hA : ∀ q : Nat, s.heap.size ≤ q → A q := fun q h => by rw [← hAe]; exact Or.inr h
  have hS : va_S A s.heap s.heap [] := va_S.rf
  have hP : va_P G vwCl [] s.heap := hP
  have hl := lv_entry ([.int 3]) (n := 1) (Nat.le_of_ble_eq_true rfl)
  rw [lg_entry_eq]
  generalize (lg_sl ([.int 3]) ++ List.replicate (1 - (lg_sl ([.int 3])).length) Slot.unset).toArray = ls at hl ⊢
  have hl : lv_has ls 1 [(0, .int 3)] := hl
  refine lv_iload_n hx hb dX12_numbers_0 rfl (lv_at hl 0 rfl) ?_
  refine lv_tableOut (tgt := 94) hx hb dX12_numbers_1 (by decide) (by decide) ?_
  refine lv_iload_n hx hb dX12_numbers_94 rfl (lv_at hl 0 rfl) ?_
  refine lv_iconst (v := 1) hx hb dX12_numbers_95 (by decide) ?_
  refine lv_bipush (v := 22) hx hb dX12_numbers_96 (by decide) ?_
  have hPc := hP.sub (ws' := []) [] rfl
  have hDc := hD.sub (ws' := []) [] (by decide) rfl
  refine wGoi (wc := []) (wr := []) (va_runS (As := [.int 3, .int 1, .int 22]) (rest := []) ⟨hx, hb, hml, hown, hts⟩ (m_X12_in_6 l G K _) (va_cwS 3 hts (wGS t_ (mw (.methodLink RX12 1 yX12_in) (List.mem_of_getElem? (i := 0) rfl)) (mw (.static yX12_in) (List.mem_of_getElem? (i := 1) rfl)) (mw (.initialized RX12) (List.mem_of_getElem? (i := 2) rfl)) j_X12_in_6) rfl rfl rfl (by decide +kernel) ⟨Nat.le_of_ble_eq_true rfl, Nat.le_of_ble_eq_true rfl⟩) (wPS hK hE hPc hDc) rfl rfl hl.1 rfl (lv_room (Nat.le_of_ble_eq_true rfl)) dX12_numbers_98 ⟨Nat.le_of_ble_eq_true rfl, Nat.le_of_ble_eq_true rfl⟩) hP hD hS hA [] [] rfl rfl rfl (by decide) (fun r u H locs hw hP hD hS => ?_)
  rcases hw with ⟨rfl, rfl⟩
  have hP : va_P G vwCl [] _ := hP
  have hD : va_D A [] := hD
  refine lv_if_eq (tgt := 108) hx hb dX12_numbers_101 (by decide) (fun c_ => absurd c_ (by decide)) (fun _ => ?_)
  refine lv_iconst (v := 1) hx hb dX12_numbers_104 (by decide) ?_
  refine lv_goto (tgt := 109) hx hb dX12_numbers_105 (by decide) ?_
  have hP9 : va_P G vwCl [] _ := hP
  have hD9 : va_D A [] := hD
  exact W.iret (v := 1) hx hb hr (fun t ht hW => ⟨⟨1, _, rfl, ⟨rfl, rfl⟩, by rw [ht]; exact hP9, hD9⟩, hS.F ht⟩) hS.2.2 dX12_numbers_109
def e_X11_act_4 : List Cond := [.methodLink RX11 196 yX11_reason, .instanceMethod yX11_reason, .selects RX11 yX11_reason yX11_reason, .initialized RX11, .fieldLink RX11 127 "MotionFloorModel$Hall" "why" "I", .fieldLink RX11 118 "MotionFloorModel$Hall" "entries" "I", .methodLink RX11 200 yX11_does, .instanceMethod yX11_does, .selects RX11 yX11_does yX11_does, .initialized RX12, .static yX12_numbers, .fieldLink RX11 90 "MotionFloorModel$Hall" "minutes" "[I"]
def v_X11_act_4 : List Cond := .code yX11_act cX11_act 10 (some .int) :: (e_X11_act_4 ++ (wsX110 ++ (v_X11_reason_4 ++ (v_X11_does_1 ++ (v_X12_numbers_1 ++ [])))))
theorem te_X11_act_4 : GoodIn lw_tbl e_X11_act_4 := wGc z364 (wGc z363 (wGc z362 (wGc z227 (wGc z198 (wGc z201 (wGc z361 (wGc z360 (wGc z359 (wGc z277 (wGc z358 (wGc z166 (wG0))))))))))))
theorem t_X11_act_4 : GoodIn lw_tbl v_X11_act_4 := wGc z365 (wGa te_X11_act_4 (wGa zcX11 (wGa t_X11_reason_4 (wGa t_X11_does_1 (wGa t_X12_numbers_1 (wG0))))))
set_option maxHeartbeats 4000000 in
set_option maxRecDepth 100000 in
theorem m_X11_act_4 (l : Launch) (G : va_G) (K : Nat → ClassId) (h0 h1 h2 h3 h4 h5 h6 h7 h8 h9 h10 h11 h12 h13 h14 h15 h16 h17 h18 h19 h20 h21 h22 h23 h24 h25 h26 h27 : Nat) (p0 : Int32) (sz : Nat) : Met l yX11_act v_X11_act_4 ({ frames := 2, cells := 0, slots := 0, locals := 47 }) (va_Pc [.ref h0, .int 3, .int p0, .int 0, .int 0, .int 0] (wS G K sz [(h0, .inr (8, [.int 1, .int 0, .int (-1), .int 0, .int 0, .int (-1), .int 0, .int 0, .int 0, .int 0, .int 0, .ref h2, .ref h3, .ref h4, .ref h5, .ref h6, .ref h7, .ref h8, .ref h9, .ref h10, .ref h11, .ref h12, .ref h13, .ref h14, .ref h15, .ref h16, .ref h17, .ref h18, .ref h19, .ref h20, .int 0, .ref h21, .ref h22, .ref h23, .ref h24, .int 0, .int 0, .ref h25, .ref h26, .int (-1), .ref h1, .ref h27])), (h1, .inl (K 0, 3600, .inl (fun _ => 0)))])) (va_Qi (fun (r : Int32) (u : va_W) => ((((p0.toInt < 0 ∨ (p0.toInt ≥ 0 ∧ p0.toInt > 200)))) ∧ (-9) = r ∧ u = [(h0, .inr (8, [.int 1, .int 0, .int (-1), .int 0, .int 0, .int (-1), .int 0, .int 0, .int 0, .int 0, .int 9, .ref h2, .ref h3, .ref h4, .ref h5, .ref h6, .ref h7, .ref h8, .ref h9, .ref h10, .ref h11, .ref h12, .ref h13, .ref h14, .ref h15, .ref h16, .ref h17, .ref h18, .ref h19, .ref h20, .int 0, .ref h21, .ref h22, .ref h23, .ref h24, .int 0, .int 0, .ref h25, .ref h26, .int (-1), .ref h1, .ref h27])), (h1, .inl (K 0, 3600, .inl (fun _ => 0)))]) ∨ (((((p0.toInt ≥ 0 ∧ p0.toInt ≤ 200)))) ∧ p0 = r ∧ u = [(h0, .inr (8, [.int 1, .int 0, .int (-1), .int p0, .int 0, .int (-1), .int 0, .int 1, .int 0, .int 0, .int 0, .ref h2, .ref h3, .ref h4, .ref h5, .ref h6, .ref h7, .ref h8, .ref h9, .ref h10, .ref h11, .ref h12, .ref h13, .ref h14, .ref h15, .ref h16, .ref h17, .ref h18, .ref h19, .ref h20, .int 0, .ref h21, .ref h22, .ref h23, .ref h24, .int 0, .int 0, .ref h25, .ref h26, .int (-1), .ref h1, .ref h27])), (h1, .inl (K 0, 3600, .inl (upd (upd (upd (upd (upd (upd (fun _ => 0) 0 3) 1 p0) 2 0) 3 0) 4 0) 5 p0)))])) (wB G (va_A [(h0, .inr (8, [.int 1, .int 0, .int (-1), .int 0, .int 0, .int (-1), .int 0, .int 0, .int 0, .int 0, .int 0, .ref h2, .ref h3, .ref h4, .ref h5, .ref h6, .ref h7, .ref h8, .ref h9, .ref h10, .ref h11, .ref h12, .ref h13, .ref h14, .ref h15, .ref h16, .ref h17, .ref h18, .ref h19, .ref h20, .int 0, .ref h21, .ref h22, .ref h23, .ref h24, .int 0, .int 0, .ref h25, .ref h26, .int (-1), .ref h1, .ref h27])), (h1, .inl (K 0, 3600, .inl (fun _ => 0)))] sz)) (va_A [(h0, .inr (8, [.int 1, .int 0, .int (-1), .int 0, .int 0, .int (-1), .int 0, .int 0, .int 0, .int 0, .int 0, .ref h2, .ref h3, .ref h4, .ref h5, .ref h6, .ref h7, .ref h8, .ref h9, .ref h10, .ref h11, .ref h12, .ref h13, .ref h14, .ref h15, .ref h16, .ref h17, .ref h18, .ref h19, .ref h20, .int 0, .ref h21, .ref h22, .ref h23, .ref h24, .int 0, .int 0, .ref h25, .ref h26, .int (-1), .ref h1, .ref h27])), (h1, .inl (K 0, 3600, .inl (fun _ => 0)))] sz)) 0 0 (va_A [(h0, .inr (8, [.int 1, .int 0, .int (-1), .int 0, .int 0, .int (-1), .int 0, .int 0, .int 0, .int 0, .int 0, .ref h2, .ref h3, .ref h4, .ref h5, .ref h6, .ref h7, .ref h8, .ref h9, .ref h10, .ref h11, .ref h12, .ref h13, .ref h14, .ref h15, .ref h16, .ref h17, .ref h18, .ref h19, .ref h20, .int 0, .ref h21, .ref h22, .ref h23, .ref h24, .int 0, .int 0, .ref h25, .ref h26, .int (-1), .ref h1, .ref h27])), (h1, .inl (K 0, 3600, .inl (fun _ => 0)))] sz) := by
  refine Met.ofW (cc := cX11_act) (maxL := 10) (ret := (some .int)) (by decide) rfl ?_
  intro p e s m args below meth c s₁ B hml hv
  obtain ⟨rfl, hsz, hP, hK, hD0, hE⟩ := hv
  have hx := B.exec
  have hb := B.bytes
  have hr := B.returns
  have hts := atoms_spec (ws := v_X11_act_4) B.pre
  have t_ := t_X11_act_4
  have mw : ∀ w ∈ e_X11_act_4, w ∈ v_X11_act_4 := fun w h => List.mem_cons_of_mem _ (List.mem_append_left _ h)
  have hw := fun w (h : w ∈ e_X11_act_4) => hts w (mw w h)
  have iX11 : ∀ w ∈ wsX110, w ∈ v_X11_act_4 := fun w h => List.mem_cons_of_mem _ (List.mem_append_right _ (List.mem_append_left _ h))
  have j_X11_reason_4 : ∀ w ∈ v_X11_reason_4, w ∈ v_X11_act_4 := fun w h => List.mem_cons_of_mem _ (List.mem_append_right _ (List.mem_append_right _ (List.mem_append_left _ h)))
  have j_X11_does_1 : ∀ w ∈ v_X11_does_1, w ∈ v_X11_act_4 := fun w h => List.mem_cons_of_mem _ (List.mem_append_right _ (List.mem_append_right _ (List.mem_append_right _ (List.mem_append_left _ h))))
  have j_X12_numbers_1 : ∀ w ∈ v_X12_numbers_1, w ∈ v_X11_act_4 := fun w h => List.mem_cons_of_mem _ (List.mem_append_right _ (List.mem_append_right _ (List.mem_append_right _ (List.mem_append_right _ (List.mem_append_left _ h)))))
  have hown : s.vm.findClass RX11 = some m.cls := findClass_of_methodNamed B.named
  have hlocks := B.notSynchronized
  subst hsz
  have hD := hD0.self (sz := s.heap.size)
  generalize hAe : va_A [(h0, .inr (8, [.int 1, .int 0, .int (-1), .int 0, .int 0, .int (-1), .int 0, .int 0, .int 0, .int 0, .int 0, .ref h2, .ref h3, .ref h4, .ref h5, .ref h6, .ref h7, .ref h8, .ref h9, .ref h10, .ref h11, .ref h12, .ref h13, .ref h14, .ref h15, .ref h16, .ref h17, .ref h18, .ref h19, .ref h20, .int 0, .ref h21, .ref h22, .ref h23, .ref h24, .int 0, .int 0, .ref h25, .ref h26, .int (-1), .ref h1, .ref h27])), (h1, .inl (K 0, 3600, .inl (fun _ => 0)))] s.heap.size = A at hD ⊢
  have hA : ∀ q : Nat, s.heap.size ≤ q → A q := fun q h => by rw [← hAe]; exact Or.inr h
  have hS : va_S A s.heap s.heap [] := va_S.rf
  have hP : va_P G vwCl [(h0, .inr (8, [.int 1, .int 0, .int (-1), .int 0, .int 0, .int (-1), .int 0, .int 0, .int 0, .int 0, .int 0, .ref h2, .ref h3, .ref h4, .ref h5, .ref h6, .ref h7, .ref h8, .ref h9, .ref h10, .ref h11, .ref h12, .ref h13, .ref h14, .ref h15, .ref h16, .ref h17, .ref h18, .ref h19, .ref h20, .int 0, .ref h21, .ref h22, .ref h23, .ref h24, .int 0, .int 0, .ref h25, .ref h26, .int (-1), .ref h1, .ref h27])), (h1, .inl (K 0, 3600, .inl (fun _ => 0)))] s.heap := hP
  have hl := lv_entry ([.ref h0, .int 3, .int p0, .int 0, .int 0, .int 0]) (n := 10) (Nat.le_of_ble_eq_true rfl)
  rw [lg_entry_eq]
  generalize (lg_sl ([.ref h0, .int 3, .int p0, .int 0, .int 0, .int 0]) ++ List.replicate (10 - (lg_sl ([.ref h0, .int 3, .int p0, .int 0, .int 0, .int 0])).length) Slot.unset).toArray = ls at hl ⊢
  have hl : lv_has ls 10 [(0, .ref h0), (1, .int 3), (2, .int p0), (3, .int 0), (4, .int 0), (5, .int 0)] := hl
  refine lv_aload_n hx hb dX11_act_0 rfl (lv_at hl 0 rfl) ?_
  refine lv_iload_n hx hb dX11_act_1 rfl (lv_at hl 1 rfl) ?_
  refine lv_iload_n hx hb dX11_act_2 rfl (lv_at hl 2 rfl) ?_
  refine lv_iload_n hx hb dX11_act_3 rfl (lv_at hl 3 rfl) ?_
  refine lv_iload hx hb dX11_act_4 (lv_at hl 4 rfl) ?_
  refine lv_iload hx hb dX11_act_6 (lv_at hl 5 rfl) ?_
  have hPc := hP.sub (ws' := [(h0, .inr (8, [.int 1, .int 0, .int (-1), .int 0, .int 0, .int (-1), .int 0, .int 0, .int 0, .int 0, .int 0, .ref h2, .ref h3, .ref h4, .ref h5, .ref h6, .ref h7, .ref h8, .ref h9, .ref h10, .ref h11, .ref h12, .ref h13, .ref h14, .ref h15, .ref h16, .ref h17, .ref h18, .ref h19, .ref h20, .int 0, .ref h21, .ref h22, .ref h23, .ref h24, .int 0, .int 0, .ref h25, .ref h26, .int (-1), .ref h1, .ref h27]))]) [0] rfl
  have hDc := hD.sub (ws' := [(h0, .inr (8, [.int 1, .int 0, .int (-1), .int 0, .int 0, .int (-1), .int 0, .int 0, .int 0, .int 0, .int 0, .ref h2, .ref h3, .ref h4, .ref h5, .ref h6, .ref h7, .ref h8, .ref h9, .ref h10, .ref h11, .ref h12, .ref h13, .ref h14, .ref h15, .ref h16, .ref h17, .ref h18, .ref h19, .ref h20, .int 0, .ref h21, .ref h22, .ref h23, .ref h24, .int 0, .int 0, .ref h25, .ref h26, .int (-1), .ref h1, .ref h27]))]) [0] (by decide) rfl
  refine wGoi (wc := [(h0, .inr (8, [.int 1, .int 0, .int (-1), .int 0, .int 0, .int (-1), .int 0, .int 0, .int 0, .int 0, .int 0, .ref h2, .ref h3, .ref h4, .ref h5, .ref h6, .ref h7, .ref h8, .ref h9, .ref h10, .ref h11, .ref h12, .ref h13, .ref h14, .ref h15, .ref h16, .ref h17, .ref h18, .ref h19, .ref h20, .int 0, .ref h21, .ref h22, .ref h23, .ref h24, .int 0, .int 0, .ref h25, .ref h26, .int (-1), .ref h1, .ref h27]))]) (wr := [(h1, .inl (K 0, 3600, .inl (fun _ => 0)))]) (va_runV (As := [.int 3, .int p0, .int 0, .int 0, .int 0]) (rest := []) ⟨hx, hb, hml, hown, hts⟩ (m_X11_reason_4 l G K h0 h2 h3 h4 h5 h6 h7 h8 h9 h10 h11 h12 h13 h14 h15 h16 h17 h18 h19 h20 h21 h22 h23 h24 h25 h26 h1 h27 p0 _) (cwV 5 hts (wGV t_ (mw (.methodLink RX11 196 yX11_reason) (List.mem_of_getElem? (i := 0) rfl)) (mw (.instanceMethod yX11_reason) (List.mem_of_getElem? (i := 1) rfl)) (mw (.selects RX11 yX11_reason yX11_reason) (List.mem_of_getElem? (i := 2) rfl)) (mw (.initialized RX11) (List.mem_of_getElem? (i := 3) rfl)) j_X11_reason_4) rfl rfl rfl (by decide +kernel) ⟨Nat.le_of_ble_eq_true rfl, Nat.le_of_ble_eq_true rfl⟩) (wPV hK hE hPc hDc 8 0 rfl rfl) rfl rfl hl.1 rfl (lv_room (Nat.le_of_ble_eq_true rfl)) dX11_act_8 ⟨Nat.le_of_ble_eq_true rfl, Nat.le_of_ble_eq_true rfl⟩) hP hD hS hA [0] [1] rfl rfl rfl (by decide) (fun r u H locs hw hP hD hS => ?_)
  rcases hw with ⟨c_w, rfl, rfl⟩ | ⟨c_w, rfl, rfl⟩
  · have c1 := c_w
    have hP : va_P G vwCl [(h1, .inl (K 0, 3600, .inl (fun _ => 0))), (h0, .inr (8, [.int 1, .int 0, .int (-1), .int 0, .int 0, .int (-1), .int 0, .int 0, .int 0, .int 0, .int 0, .ref h2, .ref h3, .ref h4, .ref h5, .ref h6, .ref h7, .ref h8, .ref h9, .ref h10, .ref h11, .ref h12, .ref h13, .ref h14, .ref h15, .ref h16, .ref h17, .ref h18, .ref h19, .ref h20, .int 0, .ref h21, .ref h22, .ref h23, .ref h24, .int 0, .int 0, .ref h25, .ref h26, .int (-1), .ref h1, .ref h27]))] _ := hP
    have hD : va_D A [(h1, .inl (K 0, 3600, .inl (fun _ => 0))), (h0, .inr (8, [.int 1, .int 0, .int (-1), .int 0, .int 0, .int (-1), .int 0, .int 0, .int 0, .int 0, .int 0, .ref h2, .ref h3, .ref h4, .ref h5, .ref h6, .ref h7, .ref h8, .ref h9, .ref h10, .ref h11, .ref h12, .ref h13, .ref h14, .ref h15, .ref h16, .ref h17, .ref h18, .ref h19, .ref h20, .int 0, .ref h21, .ref h22, .ref h23, .ref h24, .int 0, .int 0, .ref h25, .ref h26, .int (-1), .ref h1, .ref h27]))] := hD
    refine lv_istore (lv' := [(6, .int 9), (0, .ref h0), (1, .int 3), (2, .int p0), (3, .int 0), (4, .int 0), (5, .int 0)]) hx hb dX11_act_11 hl (by decide) rfl (fun ls hl => ?_)
    refine lv_iload hx hb dX11_act_13 (lv_at hl 0 rfl) ?_
    refine lv_if_ne (tgt := 32) hx hb dX11_act_15 (by decide) (fun _ => ?_) (fun c_ => absurd c_ (by decide))
    refine lv_aload_n hx hb dX11_act_32 rfl (lv_at hl 1 rfl) ?_
    refine lv_iload hx hb dX11_act_33 (lv_at hl 0 rfl) ?_
    refine va_put (D := G) (ci := 8) (v := .int 9) (ty := .int) (C := RX11) (T := TX11) (N := 42) hx hb hts iX11 tyX11 tyX11_ok nmX11 hown hK hP hD hS 1 rfl rfl 10 (by decide) (hw (.fieldLink RX11 127 "MotionFloorModel$Hall" "why" "I") (List.mem_of_getElem? (i := 4) rfl)) (fun _ h9 => h9) rfl (by decide +kernel) rfl rfl (Nat.le_of_ble_eq_true rfl) dX11_act_35 (fun H locs hP hD hS => ?_)
    have hP : va_P G vwCl [(h1, .inl (K 0, 3600, .inl (fun _ => 0))), (h0, .inr (8, [.int 1, .int 0, .int (-1), .int 0, .int 0, .int (-1), .int 0, .int 0, .int 0, .int 0, .int 9, .ref h2, .ref h3, .ref h4, .ref h5, .ref h6, .ref h7, .ref h8, .ref h9, .ref h10, .ref h11, .ref h12, .ref h13, .ref h14, .ref h15, .ref h16, .ref h17, .ref h18, .ref h19, .ref h20, .int 0, .ref h21, .ref h22, .ref h23, .ref h24, .int 0, .int 0, .ref h25, .ref h26, .int (-1), .ref h1, .ref h27]))] _ := hP
    have hD : va_D A [(h1, .inl (K 0, 3600, .inl (fun _ => 0))), (h0, .inr (8, [.int 1, .int 0, .int (-1), .int 0, .int 0, .int (-1), .int 0, .int 0, .int 0, .int 0, .int 9, .ref h2, .ref h3, .ref h4, .ref h5, .ref h6, .ref h7, .ref h8, .ref h9, .ref h10, .ref h11, .ref h12, .ref h13, .ref h14, .ref h15, .ref h16, .ref h17, .ref h18, .ref h19, .ref h20, .int 0, .ref h21, .ref h22, .ref h23, .ref h24, .int 0, .int 0, .ref h25, .ref h26, .int (-1), .ref h1, .ref h27]))] := hD
    refine lv_iload hx hb dX11_act_38 (lv_at hl 0 rfl) ?_
    refine lv_if_le (tgt := 47) hx hb dX11_act_40 (by decide) (fun c_ => absurd c_ (by decide)) (fun _ => ?_)
    refine lv_iload hx hb dX11_act_43 (lv_at hl 0 rfl) ?_
    refine lv_ineg hx hb dX11_act_45 ?_
    refine wTop (v1 := .int (-9)) (congrArg Value.int (by decide)) ?_
    have hP9 := hP.sub (ws' := [(h0, .inr (8, [.int 1, .int 0, .int (-1), .int 0, .int 0, .int (-1), .int 0, .int 0, .int 0, .int 0, .int 9, .ref h2, .ref h3, .ref h4, .ref h5, .ref h6, .ref h7, .ref h8, .ref h9, .ref h10, .ref h11, .ref h12, .ref h13, .ref h14, .ref h15, .ref h16, .ref h17, .ref h18, .ref h19, .ref h20, .int 0, .ref h21, .ref h22, .ref h23, .ref h24, .int 0, .int 0, .ref h25, .ref h26, .int (-1), .ref h1, .ref h27])), (h1, .inl (K 0, 3600, .inl (fun _ => 0)))]) [1, 0] rfl
    have hD9 := hD.sub (ws' := [(h0, .inr (8, [.int 1, .int 0, .int (-1), .int 0, .int 0, .int (-1), .int 0, .int 0, .int 0, .int 0, .int 9, .ref h2, .ref h3, .ref h4, .ref h5, .ref h6, .ref h7, .ref h8, .ref h9, .ref h10, .ref h11, .ref h12, .ref h13, .ref h14, .ref h15, .ref h16, .ref h17, .ref h18, .ref h19, .ref h20, .int 0, .ref h21, .ref h22, .ref h23, .ref h24, .int 0, .int 0, .ref h25, .ref h26, .int (-1), .ref h1, .ref h27])), (h1, .inl (K 0, 3600, .inl (fun _ => 0)))]) [1, 0] (by decide) rfl
    exact W.iret (v := (-9)) hx hb hr (fun t ht hW => ⟨⟨(-9), _, rfl, Or.inl ⟨(by first | omega | decide | simp), rfl, rfl⟩, by rw [ht]; exact hP9, hD9⟩, hS.F ht⟩) hS.2.2 dX11_act_46
  · have c2 := c_w
    have hP : va_P G vwCl [(h1, .inl (K 0, 3600, .inl (fun _ => 0))), (h0, .inr (8, [.int 1, .int 0, .int (-1), .int 0, .int 0, .int (-1), .int 0, .int 0, .int 0, .int 0, .int 0, .ref h2, .ref h3, .ref h4, .ref h5, .ref h6, .ref h7, .ref h8, .ref h9, .ref h10, .ref h11, .ref h12, .ref h13, .ref h14, .ref h15, .ref h16, .ref h17, .ref h18, .ref h19, .ref h20, .int 0, .ref h21, .ref h22, .ref h23, .ref h24, .int 0, .int 0, .ref h25, .ref h26, .int (-1), .ref h1, .ref h27]))] _ := hP
    have hD : va_D A [(h1, .inl (K 0, 3600, .inl (fun _ => 0))), (h0, .inr (8, [.int 1, .int 0, .int (-1), .int 0, .int 0, .int (-1), .int 0, .int 0, .int 0, .int 0, .int 0, .ref h2, .ref h3, .ref h4, .ref h5, .ref h6, .ref h7, .ref h8, .ref h9, .ref h10, .ref h11, .ref h12, .ref h13, .ref h14, .ref h15, .ref h16, .ref h17, .ref h18, .ref h19, .ref h20, .int 0, .ref h21, .ref h22, .ref h23, .ref h24, .int 0, .int 0, .ref h25, .ref h26, .int (-1), .ref h1, .ref h27]))] := hD
    refine lv_istore (lv' := [(6, .int 0), (0, .ref h0), (1, .int 3), (2, .int p0), (3, .int 0), (4, .int 0), (5, .int 0)]) hx hb dX11_act_11 hl (by decide) rfl (fun ls hl => ?_)
    refine lv_iload hx hb dX11_act_13 (lv_at hl 0 rfl) ?_
    refine lv_if_ne (tgt := 32) hx hb dX11_act_15 (by decide) (fun c_ => absurd c_ (by decide)) (fun _ => ?_)
    refine lv_aload_n hx hb dX11_act_18 rfl (lv_at hl 1 rfl) ?_
    refine va_get (D := G) (ci := 8) (v := .int 0) (C := RX11) (T := TX11) (N := 42) hx hb hts iX11 hown hK hP 1 rfl rfl 7 (by decide) (hw (.fieldLink RX11 118 "MotionFloorModel$Hall" "entries" "I") (List.mem_of_getElem? (i := 5) rfl)) (fun _ h9 => h9) rfl dX11_act_19 ?_
    refine lv_sipush (v := 600) hx hb dX11_act_22 (by decide) ?_
    refine lv_icmp_ne (tgt := 32) hx hb dX11_act_25 (by decide) (fun _ => ?_) (fun c_ => absurd c_ (by decide))
    refine lv_aload_n hx hb dX11_act_32 rfl (lv_at hl 1 rfl) ?_
    refine lv_iload hx hb dX11_act_33 (lv_at hl 0 rfl) ?_
    refine va_put (D := G) (ci := 8) (v := .int 0) (ty := .int) (C := RX11) (T := TX11) (N := 42) hx hb hts iX11 tyX11 tyX11_ok nmX11 hown hK hP hD hS 1 rfl rfl 10 (by decide) (hw (.fieldLink RX11 127 "MotionFloorModel$Hall" "why" "I") (List.mem_of_getElem? (i := 4) rfl)) (fun _ h9 => h9) rfl (by decide +kernel) rfl rfl (Nat.le_of_ble_eq_true rfl) dX11_act_35 (fun H locs hP hD hS => ?_)
    have hP : va_P G vwCl [(h1, .inl (K 0, 3600, .inl (fun _ => 0))), (h0, .inr (8, [.int 1, .int 0, .int (-1), .int 0, .int 0, .int (-1), .int 0, .int 0, .int 0, .int 0, .int 0, .ref h2, .ref h3, .ref h4, .ref h5, .ref h6, .ref h7, .ref h8, .ref h9, .ref h10, .ref h11, .ref h12, .ref h13, .ref h14, .ref h15, .ref h16, .ref h17, .ref h18, .ref h19, .ref h20, .int 0, .ref h21, .ref h22, .ref h23, .ref h24, .int 0, .int 0, .ref h25, .ref h26, .int (-1), .ref h1, .ref h27]))] _ := hP
    have hD : va_D A [(h1, .inl (K 0, 3600, .inl (fun _ => 0))), (h0, .inr (8, [.int 1, .int 0, .int (-1), .int 0, .int 0, .int (-1), .int 0, .int 0, .int 0, .int 0, .int 0, .ref h2, .ref h3, .ref h4, .ref h5, .ref h6, .ref h7, .ref h8, .ref h9, .ref h10, .ref h11, .ref h12, .ref h13, .ref h14, .ref h15, .ref h16, .ref h17, .ref h18, .ref h19, .ref h20, .int 0, .ref h21, .ref h22, .ref h23, .ref h24, .int 0, .int 0, .ref h25, .ref h26, .int (-1), .ref h1, .ref h27]))] := hD
    refine lv_iload hx hb dX11_act_38 (lv_at hl 0 rfl) ?_
    refine lv_if_le (tgt := 47) hx hb dX11_act_40 (by decide) (fun _ => ?_) (fun c_ => absurd c_ (by decide))
    refine lv_aload_n hx hb dX11_act_47 rfl (lv_at hl 1 rfl) ?_
    refine lv_iload_n hx hb dX11_act_48 rfl (lv_at hl 2 rfl) ?_
    refine lv_iload_n hx hb dX11_act_49 rfl (lv_at hl 3 rfl) ?_
    refine lv_iload_n hx hb dX11_act_50 rfl (lv_at hl 4 rfl) ?_
    refine lv_iload hx hb dX11_act_51 (lv_at hl 5 rfl) ?_
    refine lv_iload hx hb dX11_act_53 (lv_at hl 6 rfl) ?_
    have hPc := hP.sub (ws' := [(h0, .inr (8, [.int 1, .int 0, .int (-1), .int 0, .int 0, .int (-1), .int 0, .int 0, .int 0, .int 0, .int 0, .ref h2, .ref h3, .ref h4, .ref h5, .ref h6, .ref h7, .ref h8, .ref h9, .ref h10, .ref h11, .ref h12, .ref h13, .ref h14, .ref h15, .ref h16, .ref h17, .ref h18, .ref h19, .ref h20, .int 0, .ref h21, .ref h22, .ref h23, .ref h24, .int 0, .int 0, .ref h25, .ref h26, .int (-1), .ref h1, .ref h27]))]) [1] rfl
    have hDc := hD.sub (ws' := [(h0, .inr (8, [.int 1, .int 0, .int (-1), .int 0, .int 0, .int (-1), .int 0, .int 0, .int 0, .int 0, .int 0, .ref h2, .ref h3, .ref h4, .ref h5, .ref h6, .ref h7, .ref h8, .ref h9, .ref h10, .ref h11, .ref h12, .ref h13, .ref h14, .ref h15, .ref h16, .ref h17, .ref h18, .ref h19, .ref h20, .int 0, .ref h21, .ref h22, .ref h23, .ref h24, .int 0, .int 0, .ref h25, .ref h26, .int (-1), .ref h1, .ref h27]))]) [1] (by decide) rfl
    refine wGoi (wc := [(h0, .inr (8, [.int 1, .int 0, .int (-1), .int 0, .int 0, .int (-1), .int 0, .int 0, .int 0, .int 0, .int 0, .ref h2, .ref h3, .ref h4, .ref h5, .ref h6, .ref h7, .ref h8, .ref h9, .ref h10, .ref h11, .ref h12, .ref h13, .ref h14, .ref h15, .ref h16, .ref h17, .ref h18, .ref h19, .ref h20, .int 0, .ref h21, .ref h22, .ref h23, .ref h24, .int 0, .int 0, .ref h25, .ref h26, .int (-1), .ref h1, .ref h27]))]) (wr := [(h1, .inl (K 0, 3600, .inl (fun _ => 0)))]) (va_runV (As := [.int 3, .int p0, .int 0, .int 0, .int 0]) (rest := []) ⟨hx, hb, hml, hown, hts⟩ (m_X11_does_1 l G K h0 h2 h3 h4 h5 h6 h7 h8 h9 h10 h11 h12 h13 h14 h15 h16 h17 h18 h19 h20 h21 h22 h23 h24 h25 h26 h1 h27 p0 _ (by omega)) (cwV 5 hts (wGV t_ (mw (.methodLink RX11 200 yX11_does) (List.mem_of_getElem? (i := 6) rfl)) (mw (.instanceMethod yX11_does) (List.mem_of_getElem? (i := 7) rfl)) (mw (.selects RX11 yX11_does yX11_does) (List.mem_of_getElem? (i := 8) rfl)) (mw (.initialized RX11) (List.mem_of_getElem? (i := 3) rfl)) j_X11_does_1) rfl rfl rfl (by decide +kernel) ⟨Nat.le_of_ble_eq_true rfl, Nat.le_of_ble_eq_true rfl⟩) (wPV hK hE hPc hDc 8 0 rfl rfl) rfl rfl hl.1 rfl (lv_room (Nat.le_of_ble_eq_true rfl)) dX11_act_55 ⟨Nat.le_of_ble_eq_true rfl, Nat.le_of_ble_eq_true rfl⟩) hP hD hS hA [1] [0] rfl rfl rfl (by decide) (fun r u H locs hw hP hD hS => ?_)
    rcases hw with ⟨rfl, rfl⟩
    have hP : va_P G vwCl [(h1, .inl (K 0, 3600, .inl (fun _ => 0))), (h0, .inr (8, [.int 1, .int 0, .int (-1), .int p0, .int 0, .int (-1), .int 0, .int 0, .int 0, .int 0, .int 0, .ref h2, .ref h3, .ref h4, .ref h5, .ref h6, .ref h7, .ref h8, .ref h9, .ref h10, .ref h11, .ref h12, .ref h13, .ref h14, .ref h15, .ref h16, .ref h17, .ref h18, .ref h19, .ref h20, .int 0, .ref h21, .ref h22, .ref h23, .ref h24, .int 0, .int 0, .ref h25, .ref h26, .int (-1), .ref h1, .ref h27]))] _ := hP
    have hD : va_D A [(h1, .inl (K 0, 3600, .inl (fun _ => 0))), (h0, .inr (8, [.int 1, .int 0, .int (-1), .int p0, .int 0, .int (-1), .int 0, .int 0, .int 0, .int 0, .int 0, .ref h2, .ref h3, .ref h4, .ref h5, .ref h6, .ref h7, .ref h8, .ref h9, .ref h10, .ref h11, .ref h12, .ref h13, .ref h14, .ref h15, .ref h16, .ref h17, .ref h18, .ref h19, .ref h20, .int 0, .ref h21, .ref h22, .ref h23, .ref h24, .int 0, .int 0, .ref h25, .ref h26, .int (-1), .ref h1, .ref h27]))] := hD
    refine lv_istore (lv' := [(7, .int p0), (6, .int 0), (0, .ref h0), (1, .int 3), (2, .int p0), (3, .int 0), (4, .int 0), (5, .int 0)]) hx hb dX11_act_58 hl (by decide) rfl (fun ls hl => ?_)
    refine lv_bipush (v := 6) hx hb dX11_act_60 (by decide) ?_
    refine lv_aload_n hx hb dX11_act_62 rfl (lv_at hl 2 rfl) ?_
    refine va_get (D := G) (ci := 8) (v := .int 0) (C := RX11) (T := TX11) (N := 42) hx hb hts iX11 hown hK hP 1 rfl rfl 7 (by decide) (hw (.fieldLink RX11 118 "MotionFloorModel$Hall" "entries" "I") (List.mem_of_getElem? (i := 5) rfl)) (fun _ h9 => h9) rfl dX11_act_63 ?_
    refine lv_imul hx hb dX11_act_66 ?_
    refine wTop (v1 := .int 0) (congrArg Value.int (by decide)) ?_
    refine lv_istore (lv' := [(8, .int 0), (7, .int p0), (6, .int 0), (0, .ref h0), (1, .int 3), (2, .int p0), (3, .int 0), (4, .int 0), (5, .int 0)]) hx hb dX11_act_67 hl (by decide) rfl (fun ls hl => ?_)
    refine lv_iload_n hx hb dX11_act_69 rfl (lv_at hl 4 rfl) ?_
    have hPc := hP.sub (ws' := []) [] rfl
    have hDc := hD.sub (ws' := []) [] (by decide) rfl
    refine wGoi (wc := []) (wr := [(h1, .inl (K 0, 3600, .inl (fun _ => 0))), (h0, .inr (8, [.int 1, .int 0, .int (-1), .int p0, .int 0, .int (-1), .int 0, .int 0, .int 0, .int 0, .int 0, .ref h2, .ref h3, .ref h4, .ref h5, .ref h6, .ref h7, .ref h8, .ref h9, .ref h10, .ref h11, .ref h12, .ref h13, .ref h14, .ref h15, .ref h16, .ref h17, .ref h18, .ref h19, .ref h20, .int 0, .ref h21, .ref h22, .ref h23, .ref h24, .int 0, .int 0, .ref h25, .ref h26, .int (-1), .ref h1, .ref h27]))]) (va_runSN (As := [.int 3]) (rest := []) ⟨hx, hb, hml, hown, hts⟩ (m_X12_numbers_1 l G K _) ⟨va_cnB (host := "MotionFloorModel") 1 hts (wGP t_ j_X12_numbers_1) rfl rfl rfl hE.2.2.2.2.2.2.2.2.2.2 (hw (.initialized RX12) (List.mem_of_getElem? (i := 9) rfl)) (by decide +kernel) ⟨Nat.le_of_ble_eq_true rfl, Nat.le_of_ble_eq_true rfl⟩, (hw (.static yX12_numbers) (List.mem_of_getElem? (i := 10) rfl)), trivial⟩ (wPS hK hE hPc hDc) rfl rfl hl.1 rfl (lv_room (Nat.le_of_ble_eq_true rfl)) dX11_act_70 ⟨Nat.le_of_ble_eq_true rfl, Nat.le_of_ble_eq_true rfl⟩) hP hD hS hA [] [0, 1] rfl rfl rfl (by decide) (fun r u H locs hw hP hD hS => ?_)
    rcases hw with ⟨rfl, rfl⟩
    have hP : va_P G vwCl [(h1, .inl (K 0, 3600, .inl (fun _ => 0))), (h0, .inr (8, [.int 1, .int 0, .int (-1), .int p0, .int 0, .int (-1), .int 0, .int 0, .int 0, .int 0, .int 0, .ref h2, .ref h3, .ref h4, .ref h5, .ref h6, .ref h7, .ref h8, .ref h9, .ref h10, .ref h11, .ref h12, .ref h13, .ref h14, .ref h15, .ref h16, .ref h17, .ref h18, .ref h19, .ref h20, .int 0, .ref h21, .ref h22, .ref h23, .ref h24, .int 0, .int 0, .ref h25, .ref h26, .int (-1), .ref h1, .ref h27]))] _ := hP
    have hD : va_D A [(h1, .inl (K 0, 3600, .inl (fun _ => 0))), (h0, .inr (8, [.int 1, .int 0, .int (-1), .int p0, .int 0, .int (-1), .int 0, .int 0, .int 0, .int 0, .int 0, .ref h2, .ref h3, .ref h4, .ref h5, .ref h6, .ref h7, .ref h8, .ref h9, .ref h10, .ref h11, .ref h12, .ref h13, .ref h14, .ref h15, .ref h16, .ref h17, .ref h18, .ref h19, .ref h20, .int 0, .ref h21, .ref h22, .ref h23, .ref h24, .int 0, .int 0, .ref h25, .ref h26, .int (-1), .ref h1, .ref h27]))] := hD
    refine lv_istore (lv' := [(9, .int 1), (8, .int 0), (7, .int p0), (6, .int 0), (0, .ref h0), (1, .int 3), (2, .int p0), (3, .int 0), (4, .int 0), (5, .int 0)]) hx hb dX11_act_73 hl (by decide) rfl (fun ls hl => ?_)
    refine lv_aload_n hx hb dX11_act_75 rfl (lv_at hl 4 rfl) ?_
    refine va_get (D := G) (ci := 8) (v := .ref h1) (C := RX11) (T := TX11) (N := 42) hx hb hts iX11 hown hK hP 1 rfl rfl 40 (by decide) (hw (.fieldLink RX11 90 "MotionFloorModel$Hall" "minutes" "[I") (List.mem_of_getElem? (i := 11) rfl)) (fun _ h9 => h9) rfl dX11_act_76 ?_
    refine lv_iload hx hb dX11_act_79 (lv_at hl 1 rfl) ?_
    refine lv_iload_n hx hb dX11_act_81 rfl (lv_at hl 5 rfl) ?_
    refine va_iast hx hb hK hP hD hS 0 0 rfl rfl (vp_in_iff.mpr (by decide)) dX11_act_82 (fun H locs hP hD hS => ?_)
    have hP : va_P G vwCl [(h1, .inl (K 0, 3600, .inl (upd (fun _ => 0) 0 3))), (h0, .inr (8, [.int 1, .int 0, .int (-1), .int p0, .int 0, .int (-1), .int 0, .int 0, .int 0, .int 0, .int 0, .ref h2, .ref h3, .ref h4, .ref h5, .ref h6, .ref h7, .ref h8, .ref h9, .ref h10, .ref h11, .ref h12, .ref h13, .ref h14, .ref h15, .ref h16, .ref h17, .ref h18, .ref h19, .ref h20, .int 0, .ref h21, .ref h22, .ref h23, .ref h24, .int 0, .int 0, .ref h25, .ref h26, .int (-1), .ref h1, .ref h27]))] _ := hP
    have hD : va_D A [(h1, .inl (K 0, 3600, .inl (upd (fun _ => 0) 0 3))), (h0, .inr (8, [.int 1, .int 0, .int (-1), .int p0, .int 0, .int (-1), .int 0, .int 0, .int 0, .int 0, .int 0, .ref h2, .ref h3, .ref h4, .ref h5, .ref h6, .ref h7, .ref h8, .ref h9, .ref h10, .ref h11, .ref h12, .ref h13, .ref h14, .ref h15, .ref h16, .ref h17, .ref h18, .ref h19, .ref h20, .int 0, .ref h21, .ref h22, .ref h23, .ref h24, .int 0, .int 0, .ref h25, .ref h26, .int (-1), .ref h1, .ref h27]))] := hD
    refine lv_aload_n hx hb dX11_act_83 rfl (lv_at hl 4 rfl) ?_
    refine va_get (D := G) (ci := 8) (v := .ref h1) (C := RX11) (T := TX11) (N := 42) hx hb hts iX11 hown hK hP 1 rfl rfl 40 (by decide) (hw (.fieldLink RX11 90 "MotionFloorModel$Hall" "minutes" "[I") (List.mem_of_getElem? (i := 11) rfl)) (fun _ h9 => h9) rfl dX11_act_84 ?_
    refine lv_iload hx hb dX11_act_87 (lv_at hl 1 rfl) ?_
    refine lv_iconst (v := 1) hx hb dX11_act_89 (by decide) ?_
    refine lv_iadd hx hb dX11_act_90 ?_
    refine wTop (v1 := .int 1) (congrArg Value.int (by decide)) ?_
    refine lv_iload hx hb dX11_act_91 (lv_at hl 0 rfl) ?_
    refine lv_if_le (tgt := 100) hx hb dX11_act_93 (by decide) (fun c_ => absurd c_ (by decide)) (fun _ => ?_)
    refine lv_iload_n hx hb dX11_act_96 rfl (lv_at hl 6 rfl) ?_
    refine lv_goto (tgt := 101) hx hb dX11_act_97 (by decide) ?_
    refine va_iast hx hb hK hP hD hS 0 0 rfl rfl (vp_in_iff.mpr (by decide)) dX11_act_101 (fun H locs hP hD hS => ?_)
    have hP : va_P G vwCl [(h1, .inl (K 0, 3600, .inl (upd (upd (fun _ => 0) 0 3) 1 p0))), (h0, .inr (8, [.int 1, .int 0, .int (-1), .int p0, .int 0, .int (-1), .int 0, .int 0, .int 0, .int 0, .int 0, .ref h2, .ref h3, .ref h4, .ref h5, .ref h6, .ref h7, .ref h8, .ref h9, .ref h10, .ref h11, .ref h12, .ref h13, .ref h14, .ref h15, .ref h16, .ref h17, .ref h18, .ref h19, .ref h20, .int 0, .ref h21, .ref h22, .ref h23, .ref h24, .int 0, .int 0, .ref h25, .ref h26, .int (-1), .ref h1, .ref h27]))] _ := hP
    have hD : va_D A [(h1, .inl (K 0, 3600, .inl (upd (upd (fun _ => 0) 0 3) 1 p0))), (h0, .inr (8, [.int 1, .int 0, .int (-1), .int p0, .int 0, .int (-1), .int 0, .int 0, .int 0, .int 0, .int 0, .ref h2, .ref h3, .ref h4, .ref h5, .ref h6, .ref h7, .ref h8, .ref h9, .ref h10, .ref h11, .ref h12, .ref h13, .ref h14, .ref h15, .ref h16, .ref h17, .ref h18, .ref h19, .ref h20, .int 0, .ref h21, .ref h22, .ref h23, .ref h24, .int 0, .int 0, .ref h25, .ref h26, .int (-1), .ref h1, .ref h27]))] := hD
    refine lv_aload_n hx hb dX11_act_102 rfl (lv_at hl 4 rfl) ?_
    refine va_get (D := G) (ci := 8) (v := .ref h1) (C := RX11) (T := TX11) (N := 42) hx hb hts iX11 hown hK hP 1 rfl rfl 40 (by decide) (hw (.fieldLink RX11 90 "MotionFloorModel$Hall" "minutes" "[I") (List.mem_of_getElem? (i := 11) rfl)) (fun _ h9 => h9) rfl dX11_act_103 ?_
    refine lv_iload hx hb dX11_act_106 (lv_at hl 1 rfl) ?_
    refine lv_iconst (v := 2) hx hb dX11_act_108 (by decide) ?_
    refine lv_iadd hx hb dX11_act_109 ?_
    refine wTop (v1 := .int 2) (congrArg Value.int (by decide)) ?_
    refine lv_iload hx hb dX11_act_110 (lv_at hl 0 rfl) ?_
    refine lv_iconst (v := 1) hx hb dX11_act_112 (by decide) ?_
    refine lv_icmp_le (tgt := 120) hx hb dX11_act_113 (by decide) (fun _ => ?_) (fun c_ => absurd c_ (by decide))
    refine lv_iconst (v := 0) hx hb dX11_act_120 (by decide) ?_
    refine va_iast hx hb hK hP hD hS 0 0 rfl rfl (vp_in_iff.mpr (by decide)) dX11_act_121 (fun H locs hP hD hS => ?_)
    have hP : va_P G vwCl [(h1, .inl (K 0, 3600, .inl (upd (upd (upd (fun _ => 0) 0 3) 1 p0) 2 0))), (h0, .inr (8, [.int 1, .int 0, .int (-1), .int p0, .int 0, .int (-1), .int 0, .int 0, .int 0, .int 0, .int 0, .ref h2, .ref h3, .ref h4, .ref h5, .ref h6, .ref h7, .ref h8, .ref h9, .ref h10, .ref h11, .ref h12, .ref h13, .ref h14, .ref h15, .ref h16, .ref h17, .ref h18, .ref h19, .ref h20, .int 0, .ref h21, .ref h22, .ref h23, .ref h24, .int 0, .int 0, .ref h25, .ref h26, .int (-1), .ref h1, .ref h27]))] _ := hP
    have hD : va_D A [(h1, .inl (K 0, 3600, .inl (upd (upd (upd (fun _ => 0) 0 3) 1 p0) 2 0))), (h0, .inr (8, [.int 1, .int 0, .int (-1), .int p0, .int 0, .int (-1), .int 0, .int 0, .int 0, .int 0, .int 0, .ref h2, .ref h3, .ref h4, .ref h5, .ref h6, .ref h7, .ref h8, .ref h9, .ref h10, .ref h11, .ref h12, .ref h13, .ref h14, .ref h15, .ref h16, .ref h17, .ref h18, .ref h19, .ref h20, .int 0, .ref h21, .ref h22, .ref h23, .ref h24, .int 0, .int 0, .ref h25, .ref h26, .int (-1), .ref h1, .ref h27]))] := hD
    refine lv_aload_n hx hb dX11_act_122 rfl (lv_at hl 4 rfl) ?_
    refine va_get (D := G) (ci := 8) (v := .ref h1) (C := RX11) (T := TX11) (N := 42) hx hb hts iX11 hown hK hP 1 rfl rfl 40 (by decide) (hw (.fieldLink RX11 90 "MotionFloorModel$Hall" "minutes" "[I") (List.mem_of_getElem? (i := 11) rfl)) (fun _ h9 => h9) rfl dX11_act_123 ?_
    refine lv_iload hx hb dX11_act_126 (lv_at hl 1 rfl) ?_
    refine lv_iconst (v := 3) hx hb dX11_act_128 (by decide) ?_
    refine lv_iadd hx hb dX11_act_129 ?_
    refine wTop (v1 := .int 3) (congrArg Value.int (by decide)) ?_
    refine lv_iload hx hb dX11_act_130 (lv_at hl 0 rfl) ?_
    refine lv_iconst (v := 2) hx hb dX11_act_132 (by decide) ?_
    refine lv_icmp_le (tgt := 141) hx hb dX11_act_133 (by decide) (fun _ => ?_) (fun c_ => absurd c_ (by decide))
    refine lv_iconst (v := 0) hx hb dX11_act_141 (by decide) ?_
    refine va_iast hx hb hK hP hD hS 0 0 rfl rfl (vp_in_iff.mpr (by decide)) dX11_act_142 (fun H locs hP hD hS => ?_)
    have hP : va_P G vwCl [(h1, .inl (K 0, 3600, .inl (upd (upd (upd (upd (fun _ => 0) 0 3) 1 p0) 2 0) 3 0))), (h0, .inr (8, [.int 1, .int 0, .int (-1), .int p0, .int 0, .int (-1), .int 0, .int 0, .int 0, .int 0, .int 0, .ref h2, .ref h3, .ref h4, .ref h5, .ref h6, .ref h7, .ref h8, .ref h9, .ref h10, .ref h11, .ref h12, .ref h13, .ref h14, .ref h15, .ref h16, .ref h17, .ref h18, .ref h19, .ref h20, .int 0, .ref h21, .ref h22, .ref h23, .ref h24, .int 0, .int 0, .ref h25, .ref h26, .int (-1), .ref h1, .ref h27]))] _ := hP
    have hD : va_D A [(h1, .inl (K 0, 3600, .inl (upd (upd (upd (upd (fun _ => 0) 0 3) 1 p0) 2 0) 3 0))), (h0, .inr (8, [.int 1, .int 0, .int (-1), .int p0, .int 0, .int (-1), .int 0, .int 0, .int 0, .int 0, .int 0, .ref h2, .ref h3, .ref h4, .ref h5, .ref h6, .ref h7, .ref h8, .ref h9, .ref h10, .ref h11, .ref h12, .ref h13, .ref h14, .ref h15, .ref h16, .ref h17, .ref h18, .ref h19, .ref h20, .int 0, .ref h21, .ref h22, .ref h23, .ref h24, .int 0, .int 0, .ref h25, .ref h26, .int (-1), .ref h1, .ref h27]))] := hD
    refine lv_aload_n hx hb dX11_act_143 rfl (lv_at hl 4 rfl) ?_
    refine va_get (D := G) (ci := 8) (v := .ref h1) (C := RX11) (T := TX11) (N := 42) hx hb hts iX11 hown hK hP 1 rfl rfl 40 (by decide) (hw (.fieldLink RX11 90 "MotionFloorModel$Hall" "minutes" "[I") (List.mem_of_getElem? (i := 11) rfl)) (fun _ h9 => h9) rfl dX11_act_144 ?_
    refine lv_iload hx hb dX11_act_147 (lv_at hl 1 rfl) ?_
    refine lv_iconst (v := 4) hx hb dX11_act_149 (by decide) ?_
    refine lv_iadd hx hb dX11_act_150 ?_
    refine wTop (v1 := .int 4) (congrArg Value.int (by decide)) ?_
    refine lv_iload hx hb dX11_act_151 (lv_at hl 0 rfl) ?_
    refine lv_iconst (v := 3) hx hb dX11_act_153 (by decide) ?_
    refine lv_icmp_le (tgt := 162) hx hb dX11_act_154 (by decide) (fun _ => ?_) (fun c_ => absurd c_ (by decide))
    refine lv_iconst (v := 0) hx hb dX11_act_162 (by decide) ?_
    refine va_iast hx hb hK hP hD hS 0 0 rfl rfl (vp_in_iff.mpr (by decide)) dX11_act_163 (fun H locs hP hD hS => ?_)
    have hP : va_P G vwCl [(h1, .inl (K 0, 3600, .inl (upd (upd (upd (upd (upd (fun _ => 0) 0 3) 1 p0) 2 0) 3 0) 4 0))), (h0, .inr (8, [.int 1, .int 0, .int (-1), .int p0, .int 0, .int (-1), .int 0, .int 0, .int 0, .int 0, .int 0, .ref h2, .ref h3, .ref h4, .ref h5, .ref h6, .ref h7, .ref h8, .ref h9, .ref h10, .ref h11, .ref h12, .ref h13, .ref h14, .ref h15, .ref h16, .ref h17, .ref h18, .ref h19, .ref h20, .int 0, .ref h21, .ref h22, .ref h23, .ref h24, .int 0, .int 0, .ref h25, .ref h26, .int (-1), .ref h1, .ref h27]))] _ := hP
    have hD : va_D A [(h1, .inl (K 0, 3600, .inl (upd (upd (upd (upd (upd (fun _ => 0) 0 3) 1 p0) 2 0) 3 0) 4 0))), (h0, .inr (8, [.int 1, .int 0, .int (-1), .int p0, .int 0, .int (-1), .int 0, .int 0, .int 0, .int 0, .int 0, .ref h2, .ref h3, .ref h4, .ref h5, .ref h6, .ref h7, .ref h8, .ref h9, .ref h10, .ref h11, .ref h12, .ref h13, .ref h14, .ref h15, .ref h16, .ref h17, .ref h18, .ref h19, .ref h20, .int 0, .ref h21, .ref h22, .ref h23, .ref h24, .int 0, .int 0, .ref h25, .ref h26, .int (-1), .ref h1, .ref h27]))] := hD
    refine lv_aload_n hx hb dX11_act_164 rfl (lv_at hl 4 rfl) ?_
    refine va_get (D := G) (ci := 8) (v := .ref h1) (C := RX11) (T := TX11) (N := 42) hx hb hts iX11 hown hK hP 1 rfl rfl 40 (by decide) (hw (.fieldLink RX11 90 "MotionFloorModel$Hall" "minutes" "[I") (List.mem_of_getElem? (i := 11) rfl)) (fun _ h9 => h9) rfl dX11_act_165 ?_
    refine lv_iload hx hb dX11_act_168 (lv_at hl 1 rfl) ?_
    refine lv_iconst (v := 5) hx hb dX11_act_170 (by decide) ?_
    refine lv_iadd hx hb dX11_act_171 ?_
    refine wTop (v1 := .int 5) (congrArg Value.int (by decide)) ?_
    refine lv_iload hx hb dX11_act_172 (lv_at hl 2 rfl) ?_
    refine va_iast hx hb hK hP hD hS 0 0 rfl rfl (vp_in_iff.mpr (by decide)) dX11_act_174 (fun H locs hP hD hS => ?_)
    have hP : va_P G vwCl [(h1, .inl (K 0, 3600, .inl (upd (upd (upd (upd (upd (upd (fun _ => 0) 0 3) 1 p0) 2 0) 3 0) 4 0) 5 p0))), (h0, .inr (8, [.int 1, .int 0, .int (-1), .int p0, .int 0, .int (-1), .int 0, .int 0, .int 0, .int 0, .int 0, .ref h2, .ref h3, .ref h4, .ref h5, .ref h6, .ref h7, .ref h8, .ref h9, .ref h10, .ref h11, .ref h12, .ref h13, .ref h14, .ref h15, .ref h16, .ref h17, .ref h18, .ref h19, .ref h20, .int 0, .ref h21, .ref h22, .ref h23, .ref h24, .int 0, .int 0, .ref h25, .ref h26, .int (-1), .ref h1, .ref h27]))] _ := hP
    have hD : va_D A [(h1, .inl (K 0, 3600, .inl (upd (upd (upd (upd (upd (upd (fun _ => 0) 0 3) 1 p0) 2 0) 3 0) 4 0) 5 p0))), (h0, .inr (8, [.int 1, .int 0, .int (-1), .int p0, .int 0, .int (-1), .int 0, .int 0, .int 0, .int 0, .int 0, .ref h2, .ref h3, .ref h4, .ref h5, .ref h6, .ref h7, .ref h8, .ref h9, .ref h10, .ref h11, .ref h12, .ref h13, .ref h14, .ref h15, .ref h16, .ref h17, .ref h18, .ref h19, .ref h20, .int 0, .ref h21, .ref h22, .ref h23, .ref h24, .int 0, .int 0, .ref h25, .ref h26, .int (-1), .ref h1, .ref h27]))] := hD
    refine lv_aload_n hx hb dX11_act_175 rfl (lv_at hl 4 rfl) ?_
    refine lv_dup hx hb dX11_act_176 rfl ?_
    refine va_get (D := G) (ci := 8) (v := .int 0) (C := RX11) (T := TX11) (N := 42) hx hb hts iX11 hown hK hP 1 rfl rfl 7 (by decide) (hw (.fieldLink RX11 118 "MotionFloorModel$Hall" "entries" "I") (List.mem_of_getElem? (i := 5) rfl)) (fun _ h9 => h9) rfl dX11_act_177 ?_
    refine lv_iconst (v := 1) hx hb dX11_act_180 (by decide) ?_
    refine lv_iadd hx hb dX11_act_181 ?_
    refine wTop (v1 := .int 1) (congrArg Value.int (by decide)) ?_
    refine va_put (D := G) (ci := 8) (v := .int 1) (ty := .int) (C := RX11) (T := TX11) (N := 42) hx hb hts iX11 tyX11 tyX11_ok nmX11 hown hK hP hD hS 1 rfl rfl 7 (by decide) (hw (.fieldLink RX11 118 "MotionFloorModel$Hall" "entries" "I") (List.mem_of_getElem? (i := 5) rfl)) (fun _ h9 => h9) rfl (by decide +kernel) rfl rfl (Nat.le_of_ble_eq_true rfl) dX11_act_182 (fun H locs hP hD hS => ?_)
    have hP : va_P G vwCl [(h1, .inl (K 0, 3600, .inl (upd (upd (upd (upd (upd (upd (fun _ => 0) 0 3) 1 p0) 2 0) 3 0) 4 0) 5 p0))), (h0, .inr (8, [.int 1, .int 0, .int (-1), .int p0, .int 0, .int (-1), .int 0, .int 1, .int 0, .int 0, .int 0, .ref h2, .ref h3, .ref h4, .ref h5, .ref h6, .ref h7, .ref h8, .ref h9, .ref h10, .ref h11, .ref h12, .ref h13, .ref h14, .ref h15, .ref h16, .ref h17, .ref h18, .ref h19, .ref h20, .int 0, .ref h21, .ref h22, .ref h23, .ref h24, .int 0, .int 0, .ref h25, .ref h26, .int (-1), .ref h1, .ref h27]))] _ := hP
    have hD : va_D A [(h1, .inl (K 0, 3600, .inl (upd (upd (upd (upd (upd (upd (fun _ => 0) 0 3) 1 p0) 2 0) 3 0) 4 0) 5 p0))), (h0, .inr (8, [.int 1, .int 0, .int (-1), .int p0, .int 0, .int (-1), .int 0, .int 1, .int 0, .int 0, .int 0, .ref h2, .ref h3, .ref h4, .ref h5, .ref h6, .ref h7, .ref h8, .ref h9, .ref h10, .ref h11, .ref h12, .ref h13, .ref h14, .ref h15, .ref h16, .ref h17, .ref h18, .ref h19, .ref h20, .int 0, .ref h21, .ref h22, .ref h23, .ref h24, .int 0, .int 0, .ref h25, .ref h26, .int (-1), .ref h1, .ref h27]))] := hD
    refine lv_iload hx hb dX11_act_185 (lv_at hl 2 rfl) ?_
    have hP9 := hP.sub (ws' := [(h0, .inr (8, [.int 1, .int 0, .int (-1), .int p0, .int 0, .int (-1), .int 0, .int 1, .int 0, .int 0, .int 0, .ref h2, .ref h3, .ref h4, .ref h5, .ref h6, .ref h7, .ref h8, .ref h9, .ref h10, .ref h11, .ref h12, .ref h13, .ref h14, .ref h15, .ref h16, .ref h17, .ref h18, .ref h19, .ref h20, .int 0, .ref h21, .ref h22, .ref h23, .ref h24, .int 0, .int 0, .ref h25, .ref h26, .int (-1), .ref h1, .ref h27])), (h1, .inl (K 0, 3600, .inl (upd (upd (upd (upd (upd (upd (fun _ => 0) 0 3) 1 p0) 2 0) 3 0) 4 0) 5 p0)))]) [1, 0] rfl
    have hD9 := hD.sub (ws' := [(h0, .inr (8, [.int 1, .int 0, .int (-1), .int p0, .int 0, .int (-1), .int 0, .int 1, .int 0, .int 0, .int 0, .ref h2, .ref h3, .ref h4, .ref h5, .ref h6, .ref h7, .ref h8, .ref h9, .ref h10, .ref h11, .ref h12, .ref h13, .ref h14, .ref h15, .ref h16, .ref h17, .ref h18, .ref h19, .ref h20, .int 0, .ref h21, .ref h22, .ref h23, .ref h24, .int 0, .int 0, .ref h25, .ref h26, .int (-1), .ref h1, .ref h27])), (h1, .inl (K 0, 3600, .inl (upd (upd (upd (upd (upd (upd (fun _ => 0) 0 3) 1 p0) 2 0) 3 0) 4 0) 5 p0)))]) [1, 0] (by decide) rfl
    exact W.iret (v := p0) hx hb hr (fun t ht hW => ⟨⟨p0, _, rfl, Or.inr (⟨(by first | omega | decide | simp), rfl, rfl⟩), by rw [ht]; exact hP9, hD9⟩, hS.F ht⟩) hS.2.2 dX11_act_187
def e_X12_quorum_0 : List Cond := [.fieldLink RX12 16 "MotionFloorModel" "hall" "LMotionFloorModel$Hall;", .methodLink RX12 40 yX11_act, .instanceMethod yX11_act, .selects RX11 yX11_act yX11_act, .initialized RX11]
def v_X12_quorum_0 : List Cond := .code yX12_quorum cX12_quorum 2 (some .int) :: (e_X12_quorum_0 ++ (wsX120 ++ (v_X11_act_4 ++ [])))
theorem te_X12_quorum_0 : GoodIn lw_tbl e_X12_quorum_0 := wGc z225 (wGc z368 (wGc z367 (wGc z366 (wGc z227 (wG0)))))
theorem t_X12_quorum_0 : GoodIn lw_tbl v_X12_quorum_0 := wGc z394 (wGa te_X12_quorum_0 (wGa zcX12 (wGa t_X11_act_4 (wG0))))
set_option maxHeartbeats 4000000 in
set_option maxRecDepth 100000 in
theorem m_X12_quorum_0 (l : Launch) (G : va_G) (K : Nat → ClassId) (h0 h1 h2 h3 h4 h5 h6 h7 h8 h9 h10 h11 h12 h13 h14 h15 h16 h17 h18 h19 h20 h21 h22 h23 h24 h25 h26 h27 h28 h29 h30 h31 h32 h33 : Nat) (p0 : Int32) (sz : Nat) : Met l yX12_quorum v_X12_quorum_0 ({ frames := 3, cells := 0, slots := 0, locals := 76 }) (va_Pc [.ref h0, .int p0] (wS G K sz [(h0, .inr (9, [.ref h1, .ref h3, .ref h4, .ref h5, .ref h6, .ref h7, .int 0])), (h1, .inr (8, [.int 1, .int 0, .int (-1), .int 0, .int 0, .int (-1), .int 0, .int 0, .int 0, .int 0, .int 0, .ref h8, .ref h9, .ref h10, .ref h11, .ref h12, .ref h13, .ref h14, .ref h15, .ref h16, .ref h17, .ref h18, .ref h19, .ref h20, .ref h21, .ref h22, .ref h23, .ref h24, .ref h25, .ref h26, .int 0, .ref h27, .ref h28, .ref h29, .ref h30, .int 0, .int 0, .ref h31, .ref h32, .int (-1), .ref h2, .ref h33])), (h2, .inl (K 0, 3600, .inl (fun _ => 0)))])) (va_Qi (fun (r : Int32) (u : va_W) => (((((p0.toInt < 0 ∨ (p0.toInt ≥ 0 ∧ p0.toInt > 200))))) ∧ (-9) = r ∧ u = [(h0, .inr (9, [.ref h1, .ref h3, .ref h4, .ref h5, .ref h6, .ref h7, .int 0])), (h1, .inr (8, [.int 1, .int 0, .int (-1), .int 0, .int 0, .int (-1), .int 0, .int 0, .int 0, .int 0, .int 9, .ref h8, .ref h9, .ref h10, .ref h11, .ref h12, .ref h13, .ref h14, .ref h15, .ref h16, .ref h17, .ref h18, .ref h19, .ref h20, .ref h21, .ref h22, .ref h23, .ref h24, .ref h25, .ref h26, .int 0, .ref h27, .ref h28, .ref h29, .ref h30, .int 0, .int 0, .ref h31, .ref h32, .int (-1), .ref h2, .ref h33])), (h2, .inl (K 0, 3600, .inl (fun _ => 0)))]) ∨ ((((((p0.toInt ≥ 0 ∧ p0.toInt ≤ 200))))) ∧ p0 = r ∧ u = [(h0, .inr (9, [.ref h1, .ref h3, .ref h4, .ref h5, .ref h6, .ref h7, .int 0])), (h1, .inr (8, [.int 1, .int 0, .int (-1), .int p0, .int 0, .int (-1), .int 0, .int 1, .int 0, .int 0, .int 0, .ref h8, .ref h9, .ref h10, .ref h11, .ref h12, .ref h13, .ref h14, .ref h15, .ref h16, .ref h17, .ref h18, .ref h19, .ref h20, .ref h21, .ref h22, .ref h23, .ref h24, .ref h25, .ref h26, .int 0, .ref h27, .ref h28, .ref h29, .ref h30, .int 0, .int 0, .ref h31, .ref h32, .int (-1), .ref h2, .ref h33])), (h2, .inl (K 0, 3600, .inl (upd (upd (upd (upd (upd (upd (fun _ => 0) 0 3) 1 p0) 2 0) 3 0) 4 0) 5 p0)))])) (wB G (va_A [(h0, .inr (9, [.ref h1, .ref h3, .ref h4, .ref h5, .ref h6, .ref h7, .int 0])), (h1, .inr (8, [.int 1, .int 0, .int (-1), .int 0, .int 0, .int (-1), .int 0, .int 0, .int 0, .int 0, .int 0, .ref h8, .ref h9, .ref h10, .ref h11, .ref h12, .ref h13, .ref h14, .ref h15, .ref h16, .ref h17, .ref h18, .ref h19, .ref h20, .ref h21, .ref h22, .ref h23, .ref h24, .ref h25, .ref h26, .int 0, .ref h27, .ref h28, .ref h29, .ref h30, .int 0, .int 0, .ref h31, .ref h32, .int (-1), .ref h2, .ref h33])), (h2, .inl (K 0, 3600, .inl (fun _ => 0)))] sz)) (va_A [(h0, .inr (9, [.ref h1, .ref h3, .ref h4, .ref h5, .ref h6, .ref h7, .int 0])), (h1, .inr (8, [.int 1, .int 0, .int (-1), .int 0, .int 0, .int (-1), .int 0, .int 0, .int 0, .int 0, .int 0, .ref h8, .ref h9, .ref h10, .ref h11, .ref h12, .ref h13, .ref h14, .ref h15, .ref h16, .ref h17, .ref h18, .ref h19, .ref h20, .ref h21, .ref h22, .ref h23, .ref h24, .ref h25, .ref h26, .int 0, .ref h27, .ref h28, .ref h29, .ref h30, .int 0, .int 0, .ref h31, .ref h32, .int (-1), .ref h2, .ref h33])), (h2, .inl (K 0, 3600, .inl (fun _ => 0)))] sz)) 0 0 (va_A [(h0, .inr (9, [.ref h1, .ref h3, .ref h4, .ref h5, .ref h6, .ref h7, .int 0])), (h1, .inr (8, [.int 1, .int 0, .int (-1), .int 0, .int 0, .int (-1), .int 0, .int 0, .int 0, .int 0, .int 0, .ref h8, .ref h9, .ref h10, .ref h11, .ref h12, .ref h13, .ref h14, .ref h15, .ref h16, .ref h17, .ref h18, .ref h19, .ref h20, .ref h21, .ref h22, .ref h23, .ref h24, .ref h25, .ref h26, .int 0, .ref h27, .ref h28, .ref h29, .ref h30, .int 0, .int 0, .ref h31, .ref h32, .int (-1), .ref h2, .ref h33])), (h2, .inl (K 0, 3600, .inl (fun _ => 0)))] sz) := by
  refine Met.ofW (cc := cX12_quorum) (maxL := 2) (ret := (some .int)) (by decide) rfl ?_
  intro p e s m args below meth c s₁ B hml hv
  obtain ⟨rfl, hsz, hP, hK, hD0, hE⟩ := hv
  have hx := B.exec
  have hb := B.bytes
  have hr := B.returns
  have hts := atoms_spec (ws := v_X12_quorum_0) B.pre
  have t_ := t_X12_quorum_0
  have mw : ∀ w ∈ e_X12_quorum_0, w ∈ v_X12_quorum_0 := fun w h => List.mem_cons_of_mem _ (List.mem_append_left _ h)
  have hw := fun w (h : w ∈ e_X12_quorum_0) => hts w (mw w h)
  have iX12 : ∀ w ∈ wsX120, w ∈ v_X12_quorum_0 := fun w h => List.mem_cons_of_mem _ (List.mem_append_right _ (List.mem_append_left _ h))
  have j_X11_act_4 : ∀ w ∈ v_X11_act_4, w ∈ v_X12_quorum_0 := fun w h => List.mem_cons_of_mem _ (List.mem_append_right _ (List.mem_append_right _ (List.mem_append_left _ h)))
  have hown : s.vm.findClass RX12 = some m.cls := findClass_of_methodNamed B.named
  have hlocks := B.notSynchronized
  subst hsz
  have hD := hD0.self (sz := s.heap.size)
  generalize hAe : va_A [(h0, .inr (9, [.ref h1, .ref h3, .ref h4, .ref h5, .ref h6, .ref h7, .int 0])), (h1, .inr (8, [.int 1, .int 0, .int (-1), .int 0, .int 0, .int (-1), .int 0, .int 0, .int 0, .int 0, .int 0, .ref h8, .ref h9, .ref h10, .ref h11, .ref h12, .ref h13, .ref h14, .ref h15, .ref h16, .ref h17, .ref h18, .ref h19, .ref h20, .ref h21, .ref h22, .ref h23, .ref h24, .ref h25, .ref h26, .int 0, .ref h27, .ref h28, .ref h29, .ref h30, .int 0, .int 0, .ref h31, .ref h32, .int (-1), .ref h2, .ref h33])), (h2, .inl (K 0, 3600, .inl (fun _ => 0)))] s.heap.size = A at hD ⊢
  have hA : ∀ q : Nat, s.heap.size ≤ q → A q := fun q h => by rw [← hAe]; exact Or.inr h
  have hS : va_S A s.heap s.heap [] := va_S.rf
  have hP : va_P G vwCl [(h0, .inr (9, [.ref h1, .ref h3, .ref h4, .ref h5, .ref h6, .ref h7, .int 0])), (h1, .inr (8, [.int 1, .int 0, .int (-1), .int 0, .int 0, .int (-1), .int 0, .int 0, .int 0, .int 0, .int 0, .ref h8, .ref h9, .ref h10, .ref h11, .ref h12, .ref h13, .ref h14, .ref h15, .ref h16, .ref h17, .ref h18, .ref h19, .ref h20, .ref h21, .ref h22, .ref h23, .ref h24, .ref h25, .ref h26, .int 0, .ref h27, .ref h28, .ref h29, .ref h30, .int 0, .int 0, .ref h31, .ref h32, .int (-1), .ref h2, .ref h33])), (h2, .inl (K 0, 3600, .inl (fun _ => 0)))] s.heap := hP
  have hl := lv_entry ([.ref h0, .int p0]) (n := 2) (Nat.le_of_ble_eq_true rfl)
  rw [lg_entry_eq]
  generalize (lg_sl ([.ref h0, .int p0]) ++ List.replicate (2 - (lg_sl ([.ref h0, .int p0])).length) Slot.unset).toArray = ls at hl ⊢
  have hl : lv_has ls 2 [(0, .ref h0), (1, .int p0)] := hl
  refine lv_aload_n hx hb dX12_quorum_0 rfl (lv_at hl 0 rfl) ?_
  refine va_get (D := G) (ci := 9) (v := .ref h1) (C := RX12) (T := TX12) (N := 7) hx hb hts iX12 hown hK hP 0 rfl rfl 0 (by decide) (hw (.fieldLink RX12 16 "MotionFloorModel" "hall" "LMotionFloorModel$Hall;") (List.mem_of_getElem? (i := 0) rfl)) (fun _ h9 => h9) rfl dX12_quorum_1 ?_
  refine lv_iconst (v := 3) hx hb dX12_quorum_4 (by decide) ?_
  refine lv_iload_n hx hb dX12_quorum_5 rfl (lv_at hl 1 rfl) ?_
  refine lv_iconst (v := 0) hx hb dX12_quorum_6 (by decide) ?_
  refine lv_iconst (v := 0) hx hb dX12_quorum_7 (by decide) ?_
  refine lv_iconst (v := 0) hx hb dX12_quorum_8 (by decide) ?_
  have hPc := hP.sub (ws' := [(h1, .inr (8, [.int 1, .int 0, .int (-1), .int 0, .int 0, .int (-1), .int 0, .int 0, .int 0, .int 0, .int 0, .ref h8, .ref h9, .ref h10, .ref h11, .ref h12, .ref h13, .ref h14, .ref h15, .ref h16, .ref h17, .ref h18, .ref h19, .ref h20, .ref h21, .ref h22, .ref h23, .ref h24, .ref h25, .ref h26, .int 0, .ref h27, .ref h28, .ref h29, .ref h30, .int 0, .int 0, .ref h31, .ref h32, .int (-1), .ref h2, .ref h33])), (h2, .inl (K 0, 3600, .inl (fun _ => 0)))]) [1, 2] rfl
  have hDc := hD.sub (ws' := [(h1, .inr (8, [.int 1, .int 0, .int (-1), .int 0, .int 0, .int (-1), .int 0, .int 0, .int 0, .int 0, .int 0, .ref h8, .ref h9, .ref h10, .ref h11, .ref h12, .ref h13, .ref h14, .ref h15, .ref h16, .ref h17, .ref h18, .ref h19, .ref h20, .ref h21, .ref h22, .ref h23, .ref h24, .ref h25, .ref h26, .int 0, .ref h27, .ref h28, .ref h29, .ref h30, .int 0, .int 0, .ref h31, .ref h32, .int (-1), .ref h2, .ref h33])), (h2, .inl (K 0, 3600, .inl (fun _ => 0)))]) [1, 2] (by decide) rfl
  refine wGoi (wc := [(h1, .inr (8, [.int 1, .int 0, .int (-1), .int 0, .int 0, .int (-1), .int 0, .int 0, .int 0, .int 0, .int 0, .ref h8, .ref h9, .ref h10, .ref h11, .ref h12, .ref h13, .ref h14, .ref h15, .ref h16, .ref h17, .ref h18, .ref h19, .ref h20, .ref h21, .ref h22, .ref h23, .ref h24, .ref h25, .ref h26, .int 0, .ref h27, .ref h28, .ref h29, .ref h30, .int 0, .int 0, .ref h31, .ref h32, .int (-1), .ref h2, .ref h33])), (h2, .inl (K 0, 3600, .inl (fun _ => 0)))]) (wr := [(h0, .inr (9, [.ref h1, .ref h3, .ref h4, .ref h5, .ref h6, .ref h7, .int 0]))]) (va_runV (As := [.int 3, .int p0, .int 0, .int 0, .int 0]) (rest := []) ⟨hx, hb, hml, hown, hts⟩ (m_X11_act_4 l G K h1 h2 h8 h9 h10 h11 h12 h13 h14 h15 h16 h17 h18 h19 h20 h21 h22 h23 h24 h25 h26 h27 h28 h29 h30 h31 h32 h33 p0 _) (cwV 5 hts (wGV t_ (mw (.methodLink RX12 40 yX11_act) (List.mem_of_getElem? (i := 1) rfl)) (mw (.instanceMethod yX11_act) (List.mem_of_getElem? (i := 2) rfl)) (mw (.selects RX11 yX11_act yX11_act) (List.mem_of_getElem? (i := 3) rfl)) (mw (.initialized RX11) (List.mem_of_getElem? (i := 4) rfl)) j_X11_act_4) rfl rfl rfl (by decide +kernel) ⟨Nat.le_of_ble_eq_true rfl, Nat.le_of_ble_eq_true rfl⟩) (wPV hK hE hPc hDc 8 0 rfl rfl) rfl rfl hl.1 rfl (lv_room (Nat.le_of_ble_eq_true rfl)) dX12_quorum_9 ⟨Nat.le_of_ble_eq_true rfl, Nat.le_of_ble_eq_true rfl⟩) hP hD hS hA [1, 2] [0] rfl rfl rfl (by decide) (fun r u H locs hw hP hD hS => ?_)
  rcases hw with ⟨c_w, rfl, rfl⟩ | ⟨c_w, rfl, rfl⟩
  · have c1 := c_w
    have hP : va_P G vwCl [(h0, .inr (9, [.ref h1, .ref h3, .ref h4, .ref h5, .ref h6, .ref h7, .int 0])), (h1, .inr (8, [.int 1, .int 0, .int (-1), .int 0, .int 0, .int (-1), .int 0, .int 0, .int 0, .int 0, .int 9, .ref h8, .ref h9, .ref h10, .ref h11, .ref h12, .ref h13, .ref h14, .ref h15, .ref h16, .ref h17, .ref h18, .ref h19, .ref h20, .ref h21, .ref h22, .ref h23, .ref h24, .ref h25, .ref h26, .int 0, .ref h27, .ref h28, .ref h29, .ref h30, .int 0, .int 0, .ref h31, .ref h32, .int (-1), .ref h2, .ref h33])), (h2, .inl (K 0, 3600, .inl (fun _ => 0)))] _ := hP
    have hD : va_D A [(h0, .inr (9, [.ref h1, .ref h3, .ref h4, .ref h5, .ref h6, .ref h7, .int 0])), (h1, .inr (8, [.int 1, .int 0, .int (-1), .int 0, .int 0, .int (-1), .int 0, .int 0, .int 0, .int 0, .int 9, .ref h8, .ref h9, .ref h10, .ref h11, .ref h12, .ref h13, .ref h14, .ref h15, .ref h16, .ref h17, .ref h18, .ref h19, .ref h20, .ref h21, .ref h22, .ref h23, .ref h24, .ref h25, .ref h26, .int 0, .ref h27, .ref h28, .ref h29, .ref h30, .int 0, .int 0, .ref h31, .ref h32, .int (-1), .ref h2, .ref h33])), (h2, .inl (K 0, 3600, .inl (fun _ => 0)))] := hD
    have hP9 : va_P G vwCl [(h0, .inr (9, [.ref h1, .ref h3, .ref h4, .ref h5, .ref h6, .ref h7, .int 0])), (h1, .inr (8, [.int 1, .int 0, .int (-1), .int 0, .int 0, .int (-1), .int 0, .int 0, .int 0, .int 0, .int 9, .ref h8, .ref h9, .ref h10, .ref h11, .ref h12, .ref h13, .ref h14, .ref h15, .ref h16, .ref h17, .ref h18, .ref h19, .ref h20, .ref h21, .ref h22, .ref h23, .ref h24, .ref h25, .ref h26, .int 0, .ref h27, .ref h28, .ref h29, .ref h30, .int 0, .int 0, .ref h31, .ref h32, .int (-1), .ref h2, .ref h33])), (h2, .inl (K 0, 3600, .inl (fun _ => 0)))] _ := hP
    have hD9 : va_D A [(h0, .inr (9, [.ref h1, .ref h3, .ref h4, .ref h5, .ref h6, .ref h7, .int 0])), (h1, .inr (8, [.int 1, .int 0, .int (-1), .int 0, .int 0, .int (-1), .int 0, .int 0, .int 0, .int 0, .int 9, .ref h8, .ref h9, .ref h10, .ref h11, .ref h12, .ref h13, .ref h14, .ref h15, .ref h16, .ref h17, .ref h18, .ref h19, .ref h20, .ref h21, .ref h22, .ref h23, .ref h24, .ref h25, .ref h26, .int 0, .ref h27, .ref h28, .ref h29, .ref h30, .int 0, .int 0, .ref h31, .ref h32, .int (-1), .ref h2, .ref h33])), (h2, .inl (K 0, 3600, .inl (fun _ => 0)))] := hD
    exact W.iret (v := (-9)) hx hb hr (fun t ht hW => ⟨⟨(-9), _, rfl, Or.inl ⟨(by first | omega | decide | simp), rfl, rfl⟩, by rw [ht]; exact hP9, hD9⟩, hS.F ht⟩) hS.2.2 dX12_quorum_12
  · have c2 := c_w
    have hP : va_P G vwCl [(h0, .inr (9, [.ref h1, .ref h3, .ref h4, .ref h5, .ref h6, .ref h7, .int 0])), (h1, .inr (8, [.int 1, .int 0, .int (-1), .int p0, .int 0, .int (-1), .int 0, .int 1, .int 0, .int 0, .int 0, .ref h8, .ref h9, .ref h10, .ref h11, .ref h12, .ref h13, .ref h14, .ref h15, .ref h16, .ref h17, .ref h18, .ref h19, .ref h20, .ref h21, .ref h22, .ref h23, .ref h24, .ref h25, .ref h26, .int 0, .ref h27, .ref h28, .ref h29, .ref h30, .int 0, .int 0, .ref h31, .ref h32, .int (-1), .ref h2, .ref h33])), (h2, .inl (K 0, 3600, .inl (upd (upd (upd (upd (upd (upd (fun _ => 0) 0 3) 1 p0) 2 0) 3 0) 4 0) 5 p0)))] _ := hP
    have hD : va_D A [(h0, .inr (9, [.ref h1, .ref h3, .ref h4, .ref h5, .ref h6, .ref h7, .int 0])), (h1, .inr (8, [.int 1, .int 0, .int (-1), .int p0, .int 0, .int (-1), .int 0, .int 1, .int 0, .int 0, .int 0, .ref h8, .ref h9, .ref h10, .ref h11, .ref h12, .ref h13, .ref h14, .ref h15, .ref h16, .ref h17, .ref h18, .ref h19, .ref h20, .ref h21, .ref h22, .ref h23, .ref h24, .ref h25, .ref h26, .int 0, .ref h27, .ref h28, .ref h29, .ref h30, .int 0, .int 0, .ref h31, .ref h32, .int (-1), .ref h2, .ref h33])), (h2, .inl (K 0, 3600, .inl (upd (upd (upd (upd (upd (upd (fun _ => 0) 0 3) 1 p0) 2 0) 3 0) 4 0) 5 p0)))] := hD
    have hP9 : va_P G vwCl [(h0, .inr (9, [.ref h1, .ref h3, .ref h4, .ref h5, .ref h6, .ref h7, .int 0])), (h1, .inr (8, [.int 1, .int 0, .int (-1), .int p0, .int 0, .int (-1), .int 0, .int 1, .int 0, .int 0, .int 0, .ref h8, .ref h9, .ref h10, .ref h11, .ref h12, .ref h13, .ref h14, .ref h15, .ref h16, .ref h17, .ref h18, .ref h19, .ref h20, .ref h21, .ref h22, .ref h23, .ref h24, .ref h25, .ref h26, .int 0, .ref h27, .ref h28, .ref h29, .ref h30, .int 0, .int 0, .ref h31, .ref h32, .int (-1), .ref h2, .ref h33])), (h2, .inl (K 0, 3600, .inl (upd (upd (upd (upd (upd (upd (fun _ => 0) 0 3) 1 p0) 2 0) 3 0) 4 0) 5 p0)))] _ := hP
    have hD9 : va_D A [(h0, .inr (9, [.ref h1, .ref h3, .ref h4, .ref h5, .ref h6, .ref h7, .int 0])), (h1, .inr (8, [.int 1, .int 0, .int (-1), .int p0, .int 0, .int (-1), .int 0, .int 1, .int 0, .int 0, .int 0, .ref h8, .ref h9, .ref h10, .ref h11, .ref h12, .ref h13, .ref h14, .ref h15, .ref h16, .ref h17, .ref h18, .ref h19, .ref h20, .ref h21, .ref h22, .ref h23, .ref h24, .ref h25, .ref h26, .int 0, .ref h27, .ref h28, .ref h29, .ref h30, .int 0, .int 0, .ref h31, .ref h32, .int (-1), .ref h2, .ref h33])), (h2, .inl (K 0, 3600, .inl (upd (upd (upd (upd (upd (upd (fun _ => 0) 0 3) 1 p0) 2 0) 3 0) 4 0) 5 p0)))] := hD
    exact W.iret (v := p0) hx hb hr (fun t ht hW => ⟨⟨p0, _, rfl, Or.inr (⟨(by first | omega | decide | simp), rfl, rfl⟩), by rw [ht]; exact hP9, hD9⟩, hS.F ht⟩) hS.2.2 dX12_quorum_12
def e_X12_in_7 : List Cond := []
def v_X12_in_7 : List Cond := .code yX12_in cX12_in 3 (some .boolean) :: (e_X12_in_7 ++ [])
theorem te_X12_in_7 : GoodIn lw_tbl e_X12_in_7 := wG0
theorem t_X12_in_7 : GoodIn lw_tbl v_X12_in_7 := wGc z276 (wGa te_X12_in_7 (wG0))
set_option maxHeartbeats 4000000 in
set_option maxRecDepth 100000 in
theorem m_X12_in_7 (l : Launch) (G : va_G) (K : Nat → ClassId) (p0 : Int32) (sz : Nat) (bp0 : 0 ≤ p0.toInt ∧ p0.toInt ≤ 200) : Met l yX12_in v_X12_in_7 ({ frames := 0, cells := 0, slots := 0, locals := 0 }) (va_Pc [.int p0, .int 0, .int 200] (wS G K sz [])) (va_Qi (fun (r : Int32) (u : va_W) => (1 = r ∧ u = [])) (wB G (va_A [] sz)) (va_A [] sz)) 0 0 (va_A [] sz) := by
  refine Met.ofW (cc := cX12_in) (maxL := 3) (ret := (some .boolean)) (by decide) rfl ?_
  intro p e s m args below meth c s₁ B hml hv
  obtain ⟨rfl, hsz, hP, hK, hD0, hE⟩ := hv
  have hx := B.exec
  have hb := B.bytes
  have hr := B.returns
  have hts := atoms_spec (ws := v_X12_in_7) B.pre
  have t_ := t_X12_in_7
  have mw : ∀ w ∈ e_X12_in_7, w ∈ v_X12_in_7 := fun w h => List.mem_cons_of_mem _ (List.mem_append_left _ h)
  have hw := fun w (h : w ∈ e_X12_in_7) => hts w (mw w h)
  have hown : s.vm.findClass RX12 = some m.cls := findClass_of_methodNamed B.named
  have hlocks := B.notSynchronized
  subst hsz
  have hD := hD0.self (sz := s.heap.size)
  generalize hAe : va_A [] s.heap.size = A at hD ⊢
  have hA : ∀ q : Nat, s.heap.size ≤ q → A q := fun q h => by rw [← hAe]; exact Or.inr h
  have hS : va_S A s.heap s.heap [] := va_S.rf
  have hP : va_P G vwCl [] s.heap := hP
  have hl := lv_entry ([.int p0, .int 0, .int 200]) (n := 3) (Nat.le_of_ble_eq_true rfl)
  rw [lg_entry_eq]
  generalize (lg_sl ([.int p0, .int 0, .int 200]) ++ List.replicate (3 - (lg_sl ([.int p0, .int 0, .int 200])).length) Slot.unset).toArray = ls at hl ⊢
  have hl : lv_has ls 3 [(0, .int p0), (1, .int 0), (2, .int 200)] := hl
  refine lv_iload_n hx hb dX12_in_0 rfl (lv_at hl 0 rfl) ?_
  refine lv_iload_n hx hb dX12_in_1 rfl (lv_at hl 1 rfl) ?_
  refine lv_icmp_lt (tgt := 14) hx hb dX12_in_2 (by decide) (fun c1 => by have c1 : p0.toInt < 0 := wLt rfl (by decide) c1; omega) (fun c1 => ?_)
  have c1 : p0.toInt ≥ 0 := wNlt rfl (by decide) c1
  refine lv_iload_n hx hb dX12_in_5 rfl (lv_at hl 0 rfl) ?_
  refine lv_iload_n hx hb dX12_in_6 rfl (lv_at hl 2 rfl) ?_
  refine lv_icmp_gt (tgt := 14) hx hb dX12_in_7 (by decide) (fun c2 => by have c2 : 200 < p0.toInt := wLt (by decide) rfl c2; omega) (fun c2 => ?_)
  have c2 : 200 ≥ p0.toInt := wNlt (by decide) rfl c2
  refine lv_iconst (v := 1) hx hb dX12_in_10 (by decide) ?_
  refine lv_goto (tgt := 15) hx hb dX12_in_11 (by decide) ?_
  have hP9 : va_P G vwCl [] _ := hP
  have hD9 : va_D A [] := hD
  exact W.zret (v := 1) (ty := .boolean) hx hb hr rfl (fun t ht hW => ⟨⟨1, _, rfl, ⟨rfl, rfl⟩, by rw [ht]; exact hP9, hD9⟩, hS.F ht⟩) hS.2.2 dX12_in_15
def e_X11_reason_5 : List Cond := [.initialized RX12, .static yX12_in, .fieldLink RX11 115 "MotionFloorModel$Hall" "pending" "I"]
def v_X11_reason_5 : List Cond := .code yX11_reason cX11_reason 6 (some .int) :: (e_X11_reason_5 ++ (wsX110 ++ (v_X12_in_7 ++ [])))
theorem te_X11_reason_5 : GoodIn lw_tbl e_X11_reason_5 := wGc z277 (wGc z278 (wGc z202 (wG0)))
theorem t_X11_reason_5 : GoodIn lw_tbl v_X11_reason_5 := wGc z355 (wGa te_X11_reason_5 (wGa zcX11 (wGa t_X12_in_7 (wG0))))
set_option maxHeartbeats 4000000 in
set_option maxRecDepth 100000 in
theorem m_X11_reason_5 (l : Launch) (G : va_G) (K : Nat → ClassId) (h0 h1 h2 h3 h4 h5 h6 h7 h8 h9 h10 h11 h12 h13 h14 h15 h16 h17 h18 h19 h20 h21 h22 h23 h24 h25 h26 h27 : Nat) (p0 : Int32) (sz : Nat) (bp0 : 0 ≤ p0.toInt ∧ p0.toInt ≤ 200) : Met l yX11_reason v_X11_reason_5 ({ frames := 1, cells := 0, slots := 0, locals := 22 }) (va_Pc [.ref h0, .int 3, .int p0, .int 0, .int 0, .int 0] (wS G K sz [(h0, .inr (8, [.int 1, .int 0, .int (-1), .int 0, .int 0, .int (-1), .int 0, .int 0, .int 0, .int 0, .int 0, .ref h1, .ref h2, .ref h3, .ref h4, .ref h5, .ref h6, .ref h7, .ref h8, .ref h9, .ref h10, .ref h11, .ref h12, .ref h13, .ref h14, .ref h15, .ref h16, .ref h17, .ref h18, .ref h19, .int 0, .ref h20, .ref h21, .ref h22, .ref h23, .int 0, .int 0, .ref h24, .ref h25, .int (-1), .ref h26, .ref h27]))])) (va_Qi (fun (r : Int32) (u : va_W) => (0 = r ∧ u = [(h0, .inr (8, [.int 1, .int 0, .int (-1), .int 0, .int 0, .int (-1), .int 0, .int 0, .int 0, .int 0, .int 0, .ref h1, .ref h2, .ref h3, .ref h4, .ref h5, .ref h6, .ref h7, .ref h8, .ref h9, .ref h10, .ref h11, .ref h12, .ref h13, .ref h14, .ref h15, .ref h16, .ref h17, .ref h18, .ref h19, .int 0, .ref h20, .ref h21, .ref h22, .ref h23, .int 0, .int 0, .ref h24, .ref h25, .int (-1), .ref h26, .ref h27]))])) (wB G (va_A [(h0, .inr (8, [.int 1, .int 0, .int (-1), .int 0, .int 0, .int (-1), .int 0, .int 0, .int 0, .int 0, .int 0, .ref h1, .ref h2, .ref h3, .ref h4, .ref h5, .ref h6, .ref h7, .ref h8, .ref h9, .ref h10, .ref h11, .ref h12, .ref h13, .ref h14, .ref h15, .ref h16, .ref h17, .ref h18, .ref h19, .int 0, .ref h20, .ref h21, .ref h22, .ref h23, .int 0, .int 0, .ref h24, .ref h25, .int (-1), .ref h26, .ref h27]))] sz)) (va_A [(h0, .inr (8, [.int 1, .int 0, .int (-1), .int 0, .int 0, .int (-1), .int 0, .int 0, .int 0, .int 0, .int 0, .ref h1, .ref h2, .ref h3, .ref h4, .ref h5, .ref h6, .ref h7, .ref h8, .ref h9, .ref h10, .ref h11, .ref h12, .ref h13, .ref h14, .ref h15, .ref h16, .ref h17, .ref h18, .ref h19, .int 0, .ref h20, .ref h21, .ref h22, .ref h23, .int 0, .int 0, .ref h24, .ref h25, .int (-1), .ref h26, .ref h27]))] sz)) 0 0 (va_A [(h0, .inr (8, [.int 1, .int 0, .int (-1), .int 0, .int 0, .int (-1), .int 0, .int 0, .int 0, .int 0, .int 0, .ref h1, .ref h2, .ref h3, .ref h4, .ref h5, .ref h6, .ref h7, .ref h8, .ref h9, .ref h10, .ref h11, .ref h12, .ref h13, .ref h14, .ref h15, .ref h16, .ref h17, .ref h18, .ref h19, .int 0, .ref h20, .ref h21, .ref h22, .ref h23, .int 0, .int 0, .ref h24, .ref h25, .int (-1), .ref h26, .ref h27]))] sz) := by
  refine Met.ofW (cc := cX11_reason) (maxL := 6) (ret := (some .int)) (by decide) rfl ?_
  intro p e s m args below meth c s₁ B hml hv
  obtain ⟨rfl, hsz, hP, hK, hD0, hE⟩ := hv
  have hx := B.exec
  have hb := B.bytes
  have hr := B.returns
  have hts := atoms_spec (ws := v_X11_reason_5) B.pre
  have t_ := t_X11_reason_5
  have mw : ∀ w ∈ e_X11_reason_5, w ∈ v_X11_reason_5 := fun w h => List.mem_cons_of_mem _ (List.mem_append_left _ h)
  have hw := fun w (h : w ∈ e_X11_reason_5) => hts w (mw w h)
  have iX11 : ∀ w ∈ wsX110, w ∈ v_X11_reason_5 := fun w h => List.mem_cons_of_mem _ (List.mem_append_right _ (List.mem_append_left _ h))
  have j_X12_in_7 : ∀ w ∈ v_X12_in_7, w ∈ v_X11_reason_5 := fun w h => List.mem_cons_of_mem _ (List.mem_append_right _ (List.mem_append_right _ (List.mem_append_left _ h)))
  have hown : s.vm.findClass RX11 = some m.cls := findClass_of_methodNamed B.named
  have hlocks := B.notSynchronized
  subst hsz
  have hD := hD0.self (sz := s.heap.size)
  generalize hAe : va_A [(h0, .inr (8, [.int 1, .int 0, .int (-1), .int 0, .int 0, .int (-1), .int 0, .int 0, .int 0, .int 0, .int 0, .ref h1, .ref h2, .ref h3, .ref h4, .ref h5, .ref h6, .ref h7, .ref h8, .ref h9, .ref h10, .ref h11, .ref h12, .ref h13, .ref h14, .ref h15, .ref h16, .ref h17, .ref h18, .ref h19, .int 0, .ref h20, .ref h21, .ref h22, .ref h23, .int 0, .int 0, .ref h24, .ref h25, .int (-1), .ref h26, .ref h27]))] s.heap.size = A at hD ⊢
  have hA : ∀ q : Nat, s.heap.size ≤ q → A q := fun q h => by rw [← hAe]; exact Or.inr h
  have hS : va_S A s.heap s.heap [] := va_S.rf
  have hP : va_P G vwCl [(h0, .inr (8, [.int 1, .int 0, .int (-1), .int 0, .int 0, .int (-1), .int 0, .int 0, .int 0, .int 0, .int 0, .ref h1, .ref h2, .ref h3, .ref h4, .ref h5, .ref h6, .ref h7, .ref h8, .ref h9, .ref h10, .ref h11, .ref h12, .ref h13, .ref h14, .ref h15, .ref h16, .ref h17, .ref h18, .ref h19, .int 0, .ref h20, .ref h21, .ref h22, .ref h23, .int 0, .int 0, .ref h24, .ref h25, .int (-1), .ref h26, .ref h27]))] s.heap := hP
  have hl := lv_entry ([.ref h0, .int 3, .int p0, .int 0, .int 0, .int 0]) (n := 6) (Nat.le_of_ble_eq_true rfl)
  rw [lg_entry_eq]
  generalize (lg_sl ([.ref h0, .int 3, .int p0, .int 0, .int 0, .int 0]) ++ List.replicate (6 - (lg_sl ([.ref h0, .int 3, .int p0, .int 0, .int 0, .int 0])).length) Slot.unset).toArray = ls at hl ⊢
  have hl : lv_has ls 6 [(0, .ref h0), (1, .int 3), (2, .int p0), (3, .int 0), (4, .int 0), (5, .int 0)] := hl
  refine lv_iload_n hx hb dX11_reason_0 rfl (lv_at hl 1 rfl) ?_
  refine lv_tableIn (off := 157) (tgt := 158) hx hb dX11_reason_1 (by decide) (by decide) (by decide) (by decide) ?_
  refine lv_iload_n hx hb dX11_reason_158 rfl (lv_at hl 2 rfl) ?_
  refine lv_iconst (v := 0) hx hb dX11_reason_159 (by decide) ?_
  refine lv_sipush (v := 200) hx hb dX11_reason_160 (by decide) ?_
  have hPc := hP.sub (ws' := []) [] rfl
  have hDc := hD.sub (ws' := []) [] (by decide) rfl
  refine wGoi (wc := []) (wr := [(h0, .inr (8, [.int 1, .int 0, .int (-1), .int 0, .int 0, .int (-1), .int 0, .int 0, .int 0, .int 0, .int 0, .ref h1, .ref h2, .ref h3, .ref h4, .ref h5, .ref h6, .ref h7, .ref h8, .ref h9, .ref h10, .ref h11, .ref h12, .ref h13, .ref h14, .ref h15, .ref h16, .ref h17, .ref h18, .ref h19, .int 0, .ref h20, .ref h21, .ref h22, .ref h23, .int 0, .int 0, .ref h24, .ref h25, .int (-1), .ref h26, .ref h27]))]) (va_runSN (As := [.int p0, .int 0, .int 200]) (rest := []) ⟨hx, hb, hml, hown, hts⟩ (m_X12_in_7 l G K p0 _ (by omega)) ⟨va_cnB (host := "MotionFloorModel") 3 hts (wGP t_ j_X12_in_7) rfl rfl rfl hE.2.2.2.2.2.2.2.2.2.1 (hw (.initialized RX12) (List.mem_of_getElem? (i := 0) rfl)) (by decide +kernel) ⟨Nat.le_of_ble_eq_true rfl, Nat.le_of_ble_eq_true rfl⟩, (hw (.static yX12_in) (List.mem_of_getElem? (i := 1) rfl)), trivial⟩ (wPS hK hE hPc hDc) rfl rfl hl.1 rfl (lv_room (Nat.le_of_ble_eq_true rfl)) dX11_reason_163 ⟨Nat.le_of_ble_eq_true rfl, Nat.le_of_ble_eq_true rfl⟩) hP hD hS hA [] [0] rfl rfl rfl (by decide) (fun r u H locs hw hP hD hS => ?_)
  rcases hw with ⟨rfl, rfl⟩
  have hP : va_P G vwCl [(h0, .inr (8, [.int 1, .int 0, .int (-1), .int 0, .int 0, .int (-1), .int 0, .int 0, .int 0, .int 0, .int 0, .ref h1, .ref h2, .ref h3, .ref h4, .ref h5, .ref h6, .ref h7, .ref h8, .ref h9, .ref h10, .ref h11, .ref h12, .ref h13, .ref h14, .ref h15, .ref h16, .ref h17, .ref h18, .ref h19, .int 0, .ref h20, .ref h21, .ref h22, .ref h23, .int 0, .int 0, .ref h24, .ref h25, .int (-1), .ref h26, .ref h27]))] _ := hP
  have hD : va_D A [(h0, .inr (8, [.int 1, .int 0, .int (-1), .int 0, .int 0, .int (-1), .int 0, .int 0, .int 0, .int 0, .int 0, .ref h1, .ref h2, .ref h3, .ref h4, .ref h5, .ref h6, .ref h7, .ref h8, .ref h9, .ref h10, .ref h11, .ref h12, .ref h13, .ref h14, .ref h15, .ref h16, .ref h17, .ref h18, .ref h19, .int 0, .ref h20, .ref h21, .ref h22, .ref h23, .int 0, .int 0, .ref h24, .ref h25, .int (-1), .ref h26, .ref h27]))] := hD
  refine lv_if_ne (tgt := 174) hx hb dX11_reason_166 (by decide) (fun _ => ?_) (fun c_ => absurd c_ (by decide))
  refine lv_aload_n hx hb dX11_reason_174 rfl (lv_at hl 0 rfl) ?_
  refine va_get (D := G) (ci := 8) (v := .int 0) (C := RX11) (T := TX11) (N := 42) hx hb hts iX11 hown hK hP 0 rfl rfl 6 (by decide) (hw (.fieldLink RX11 115 "MotionFloorModel$Hall" "pending" "I") (List.mem_of_getElem? (i := 2) rfl)) (fun _ h9 => h9) rfl dX11_reason_175 ?_
  refine lv_if_le (tgt := 186) hx hb dX11_reason_178 (by decide) (fun _ => ?_) (fun c_ => absurd c_ (by decide))
  refine lv_iconst (v := 0) hx hb dX11_reason_186 (by decide) ?_
  have hP9 : va_P G vwCl [(h0, .inr (8, [.int 1, .int 0, .int (-1), .int 0, .int 0, .int (-1), .int 0, .int 0, .int 0, .int 0, .int 0, .ref h1, .ref h2, .ref h3, .ref h4, .ref h5, .ref h6, .ref h7, .ref h8, .ref h9, .ref h10, .ref h11, .ref h12, .ref h13, .ref h14, .ref h15, .ref h16, .ref h17, .ref h18, .ref h19, .int 0, .ref h20, .ref h21, .ref h22, .ref h23, .int 0, .int 0, .ref h24, .ref h25, .int (-1), .ref h26, .ref h27]))] _ := hP
  have hD9 : va_D A [(h0, .inr (8, [.int 1, .int 0, .int (-1), .int 0, .int 0, .int (-1), .int 0, .int 0, .int 0, .int 0, .int 0, .ref h1, .ref h2, .ref h3, .ref h4, .ref h5, .ref h6, .ref h7, .ref h8, .ref h9, .ref h10, .ref h11, .ref h12, .ref h13, .ref h14, .ref h15, .ref h16, .ref h17, .ref h18, .ref h19, .int 0, .ref h20, .ref h21, .ref h22, .ref h23, .int 0, .int 0, .ref h24, .ref h25, .int (-1), .ref h26, .ref h27]))] := hD
  exact W.iret (v := 0) hx hb hr (fun t ht hW => ⟨⟨0, _, rfl, ⟨rfl, rfl⟩, by rw [ht]; exact hP9, hD9⟩, hS.F ht⟩) hS.2.2 dX11_reason_187
def e_X11_act_5 : List Cond := [.methodLink RX11 196 yX11_reason, .instanceMethod yX11_reason, .selects RX11 yX11_reason yX11_reason, .initialized RX11, .fieldLink RX11 118 "MotionFloorModel$Hall" "entries" "I", .fieldLink RX11 127 "MotionFloorModel$Hall" "why" "I", .methodLink RX11 200 yX11_does, .instanceMethod yX11_does, .selects RX11 yX11_does yX11_does, .initialized RX12, .static yX12_numbers, .fieldLink RX11 90 "MotionFloorModel$Hall" "minutes" "[I"]
def v_X11_act_5 : List Cond := .code yX11_act cX11_act 10 (some .int) :: (e_X11_act_5 ++ (wsX110 ++ (v_X11_reason_5 ++ (v_X11_does_1 ++ (v_X12_numbers_1 ++ [])))))
theorem te_X11_act_5 : GoodIn lw_tbl e_X11_act_5 := wGc z364 (wGc z363 (wGc z362 (wGc z227 (wGc z201 (wGc z198 (wGc z361 (wGc z360 (wGc z359 (wGc z277 (wGc z358 (wGc z166 (wG0))))))))))))
theorem t_X11_act_5 : GoodIn lw_tbl v_X11_act_5 := wGc z365 (wGa te_X11_act_5 (wGa zcX11 (wGa t_X11_reason_5 (wGa t_X11_does_1 (wGa t_X12_numbers_1 (wG0))))))
set_option maxHeartbeats 4000000 in
set_option maxRecDepth 100000 in
theorem m_X11_act_5 (l : Launch) (G : va_G) (K : Nat → ClassId) (h0 h1 h2 h3 h4 h5 h6 h7 h8 h9 h10 h11 h12 h13 h14 h15 h16 h17 h18 h19 h20 h21 h22 h23 h24 h25 h26 h27 : Nat) (p0 : Int32) (sz : Nat) (bp0 : 0 ≤ p0.toInt ∧ p0.toInt ≤ 200) : Met l yX11_act v_X11_act_5 ({ frames := 2, cells := 0, slots := 0, locals := 47 }) (va_Pc [.ref h0, .int 3, .int p0, .int 0, .int 0, .int 0] (wS G K sz [(h0, .inr (8, [.int 1, .int 0, .int (-1), .int 0, .int 0, .int (-1), .int 0, .int 0, .int 0, .int 0, .int 0, .ref h2, .ref h3, .ref h4, .ref h5, .ref h6, .ref h7, .ref h8, .ref h9, .ref h10, .ref h11, .ref h12, .ref h13, .ref h14, .ref h15, .ref h16, .ref h17, .ref h18, .ref h19, .ref h20, .int 0, .ref h21, .ref h22, .ref h23, .ref h24, .int 0, .int 0, .ref h25, .ref h26, .int (-1), .ref h1, .ref h27])), (h1, .inl (K 0, 3600, .inl (fun _ => 0)))])) (va_Qi (fun (r : Int32) (u : va_W) => (p0 = r ∧ u = [(h0, .inr (8, [.int 1, .int 0, .int (-1), .int p0, .int 0, .int (-1), .int 0, .int 1, .int 0, .int 0, .int 0, .ref h2, .ref h3, .ref h4, .ref h5, .ref h6, .ref h7, .ref h8, .ref h9, .ref h10, .ref h11, .ref h12, .ref h13, .ref h14, .ref h15, .ref h16, .ref h17, .ref h18, .ref h19, .ref h20, .int 0, .ref h21, .ref h22, .ref h23, .ref h24, .int 0, .int 0, .ref h25, .ref h26, .int (-1), .ref h1, .ref h27])), (h1, .inl (K 0, 3600, .inl (upd (upd (upd (upd (upd (upd (fun _ => 0) 0 3) 1 p0) 2 0) 3 0) 4 0) 5 p0)))])) (wB G (va_A [(h0, .inr (8, [.int 1, .int 0, .int (-1), .int 0, .int 0, .int (-1), .int 0, .int 0, .int 0, .int 0, .int 0, .ref h2, .ref h3, .ref h4, .ref h5, .ref h6, .ref h7, .ref h8, .ref h9, .ref h10, .ref h11, .ref h12, .ref h13, .ref h14, .ref h15, .ref h16, .ref h17, .ref h18, .ref h19, .ref h20, .int 0, .ref h21, .ref h22, .ref h23, .ref h24, .int 0, .int 0, .ref h25, .ref h26, .int (-1), .ref h1, .ref h27])), (h1, .inl (K 0, 3600, .inl (fun _ => 0)))] sz)) (va_A [(h0, .inr (8, [.int 1, .int 0, .int (-1), .int 0, .int 0, .int (-1), .int 0, .int 0, .int 0, .int 0, .int 0, .ref h2, .ref h3, .ref h4, .ref h5, .ref h6, .ref h7, .ref h8, .ref h9, .ref h10, .ref h11, .ref h12, .ref h13, .ref h14, .ref h15, .ref h16, .ref h17, .ref h18, .ref h19, .ref h20, .int 0, .ref h21, .ref h22, .ref h23, .ref h24, .int 0, .int 0, .ref h25, .ref h26, .int (-1), .ref h1, .ref h27])), (h1, .inl (K 0, 3600, .inl (fun _ => 0)))] sz)) 0 0 (va_A [(h0, .inr (8, [.int 1, .int 0, .int (-1), .int 0, .int 0, .int (-1), .int 0, .int 0, .int 0, .int 0, .int 0, .ref h2, .ref h3, .ref h4, .ref h5, .ref h6, .ref h7, .ref h8, .ref h9, .ref h10, .ref h11, .ref h12, .ref h13, .ref h14, .ref h15, .ref h16, .ref h17, .ref h18, .ref h19, .ref h20, .int 0, .ref h21, .ref h22, .ref h23, .ref h24, .int 0, .int 0, .ref h25, .ref h26, .int (-1), .ref h1, .ref h27])), (h1, .inl (K 0, 3600, .inl (fun _ => 0)))] sz) := by
  refine Met.ofW (cc := cX11_act) (maxL := 10) (ret := (some .int)) (by decide) rfl ?_
  intro p e s m args below meth c s₁ B hml hv
  obtain ⟨rfl, hsz, hP, hK, hD0, hE⟩ := hv
  have hx := B.exec
  have hb := B.bytes
  have hr := B.returns
  have hts := atoms_spec (ws := v_X11_act_5) B.pre
  have t_ := t_X11_act_5
  have mw : ∀ w ∈ e_X11_act_5, w ∈ v_X11_act_5 := fun w h => List.mem_cons_of_mem _ (List.mem_append_left _ h)
  have hw := fun w (h : w ∈ e_X11_act_5) => hts w (mw w h)
  have iX11 : ∀ w ∈ wsX110, w ∈ v_X11_act_5 := fun w h => List.mem_cons_of_mem _ (List.mem_append_right _ (List.mem_append_left _ h))
  have j_X11_reason_5 : ∀ w ∈ v_X11_reason_5, w ∈ v_X11_act_5 := fun w h => List.mem_cons_of_mem _ (List.mem_append_right _ (List.mem_append_right _ (List.mem_append_left _ h)))
  have j_X11_does_1 : ∀ w ∈ v_X11_does_1, w ∈ v_X11_act_5 := fun w h => List.mem_cons_of_mem _ (List.mem_append_right _ (List.mem_append_right _ (List.mem_append_right _ (List.mem_append_left _ h))))
  have j_X12_numbers_1 : ∀ w ∈ v_X12_numbers_1, w ∈ v_X11_act_5 := fun w h => List.mem_cons_of_mem _ (List.mem_append_right _ (List.mem_append_right _ (List.mem_append_right _ (List.mem_append_right _ (List.mem_append_left _ h)))))
  have hown : s.vm.findClass RX11 = some m.cls := findClass_of_methodNamed B.named
  have hlocks := B.notSynchronized
  subst hsz
  have hD := hD0.self (sz := s.heap.size)
  generalize hAe : va_A [(h0, .inr (8, [.int 1, .int 0, .int (-1), .int 0, .int 0, .int (-1), .int 0, .int 0, .int 0, .int 0, .int 0, .ref h2, .ref h3, .ref h4, .ref h5, .ref h6, .ref h7, .ref h8, .ref h9, .ref h10, .ref h11, .ref h12, .ref h13, .ref h14, .ref h15, .ref h16, .ref h17, .ref h18, .ref h19, .ref h20, .int 0, .ref h21, .ref h22, .ref h23, .ref h24, .int 0, .int 0, .ref h25, .ref h26, .int (-1), .ref h1, .ref h27])), (h1, .inl (K 0, 3600, .inl (fun _ => 0)))] s.heap.size = A at hD ⊢
  have hA : ∀ q : Nat, s.heap.size ≤ q → A q := fun q h => by rw [← hAe]; exact Or.inr h
  have hS : va_S A s.heap s.heap [] := va_S.rf
  have hP : va_P G vwCl [(h0, .inr (8, [.int 1, .int 0, .int (-1), .int 0, .int 0, .int (-1), .int 0, .int 0, .int 0, .int 0, .int 0, .ref h2, .ref h3, .ref h4, .ref h5, .ref h6, .ref h7, .ref h8, .ref h9, .ref h10, .ref h11, .ref h12, .ref h13, .ref h14, .ref h15, .ref h16, .ref h17, .ref h18, .ref h19, .ref h20, .int 0, .ref h21, .ref h22, .ref h23, .ref h24, .int 0, .int 0, .ref h25, .ref h26, .int (-1), .ref h1, .ref h27])), (h1, .inl (K 0, 3600, .inl (fun _ => 0)))] s.heap := hP
  have hl := lv_entry ([.ref h0, .int 3, .int p0, .int 0, .int 0, .int 0]) (n := 10) (Nat.le_of_ble_eq_true rfl)
  rw [lg_entry_eq]
  generalize (lg_sl ([.ref h0, .int 3, .int p0, .int 0, .int 0, .int 0]) ++ List.replicate (10 - (lg_sl ([.ref h0, .int 3, .int p0, .int 0, .int 0, .int 0])).length) Slot.unset).toArray = ls at hl ⊢
  have hl : lv_has ls 10 [(0, .ref h0), (1, .int 3), (2, .int p0), (3, .int 0), (4, .int 0), (5, .int 0)] := hl
  refine lv_aload_n hx hb dX11_act_0 rfl (lv_at hl 0 rfl) ?_
  refine lv_iload_n hx hb dX11_act_1 rfl (lv_at hl 1 rfl) ?_
  refine lv_iload_n hx hb dX11_act_2 rfl (lv_at hl 2 rfl) ?_
  refine lv_iload_n hx hb dX11_act_3 rfl (lv_at hl 3 rfl) ?_
  refine lv_iload hx hb dX11_act_4 (lv_at hl 4 rfl) ?_
  refine lv_iload hx hb dX11_act_6 (lv_at hl 5 rfl) ?_
  have hPc := hP.sub (ws' := [(h0, .inr (8, [.int 1, .int 0, .int (-1), .int 0, .int 0, .int (-1), .int 0, .int 0, .int 0, .int 0, .int 0, .ref h2, .ref h3, .ref h4, .ref h5, .ref h6, .ref h7, .ref h8, .ref h9, .ref h10, .ref h11, .ref h12, .ref h13, .ref h14, .ref h15, .ref h16, .ref h17, .ref h18, .ref h19, .ref h20, .int 0, .ref h21, .ref h22, .ref h23, .ref h24, .int 0, .int 0, .ref h25, .ref h26, .int (-1), .ref h1, .ref h27]))]) [0] rfl
  have hDc := hD.sub (ws' := [(h0, .inr (8, [.int 1, .int 0, .int (-1), .int 0, .int 0, .int (-1), .int 0, .int 0, .int 0, .int 0, .int 0, .ref h2, .ref h3, .ref h4, .ref h5, .ref h6, .ref h7, .ref h8, .ref h9, .ref h10, .ref h11, .ref h12, .ref h13, .ref h14, .ref h15, .ref h16, .ref h17, .ref h18, .ref h19, .ref h20, .int 0, .ref h21, .ref h22, .ref h23, .ref h24, .int 0, .int 0, .ref h25, .ref h26, .int (-1), .ref h1, .ref h27]))]) [0] (by decide) rfl
  refine wGoi (wc := [(h0, .inr (8, [.int 1, .int 0, .int (-1), .int 0, .int 0, .int (-1), .int 0, .int 0, .int 0, .int 0, .int 0, .ref h2, .ref h3, .ref h4, .ref h5, .ref h6, .ref h7, .ref h8, .ref h9, .ref h10, .ref h11, .ref h12, .ref h13, .ref h14, .ref h15, .ref h16, .ref h17, .ref h18, .ref h19, .ref h20, .int 0, .ref h21, .ref h22, .ref h23, .ref h24, .int 0, .int 0, .ref h25, .ref h26, .int (-1), .ref h1, .ref h27]))]) (wr := [(h1, .inl (K 0, 3600, .inl (fun _ => 0)))]) (va_runV (As := [.int 3, .int p0, .int 0, .int 0, .int 0]) (rest := []) ⟨hx, hb, hml, hown, hts⟩ (m_X11_reason_5 l G K h0 h2 h3 h4 h5 h6 h7 h8 h9 h10 h11 h12 h13 h14 h15 h16 h17 h18 h19 h20 h21 h22 h23 h24 h25 h26 h1 h27 p0 _ (by omega)) (cwV 5 hts (wGV t_ (mw (.methodLink RX11 196 yX11_reason) (List.mem_of_getElem? (i := 0) rfl)) (mw (.instanceMethod yX11_reason) (List.mem_of_getElem? (i := 1) rfl)) (mw (.selects RX11 yX11_reason yX11_reason) (List.mem_of_getElem? (i := 2) rfl)) (mw (.initialized RX11) (List.mem_of_getElem? (i := 3) rfl)) j_X11_reason_5) rfl rfl rfl (by decide +kernel) ⟨Nat.le_of_ble_eq_true rfl, Nat.le_of_ble_eq_true rfl⟩) (wPV hK hE hPc hDc 8 0 rfl rfl) rfl rfl hl.1 rfl (lv_room (Nat.le_of_ble_eq_true rfl)) dX11_act_8 ⟨Nat.le_of_ble_eq_true rfl, Nat.le_of_ble_eq_true rfl⟩) hP hD hS hA [0] [1] rfl rfl rfl (by decide) (fun r u H locs hw hP hD hS => ?_)
  rcases hw with ⟨rfl, rfl⟩
  have hP : va_P G vwCl [(h1, .inl (K 0, 3600, .inl (fun _ => 0))), (h0, .inr (8, [.int 1, .int 0, .int (-1), .int 0, .int 0, .int (-1), .int 0, .int 0, .int 0, .int 0, .int 0, .ref h2, .ref h3, .ref h4, .ref h5, .ref h6, .ref h7, .ref h8, .ref h9, .ref h10, .ref h11, .ref h12, .ref h13, .ref h14, .ref h15, .ref h16, .ref h17, .ref h18, .ref h19, .ref h20, .int 0, .ref h21, .ref h22, .ref h23, .ref h24, .int 0, .int 0, .ref h25, .ref h26, .int (-1), .ref h1, .ref h27]))] _ := hP
  have hD : va_D A [(h1, .inl (K 0, 3600, .inl (fun _ => 0))), (h0, .inr (8, [.int 1, .int 0, .int (-1), .int 0, .int 0, .int (-1), .int 0, .int 0, .int 0, .int 0, .int 0, .ref h2, .ref h3, .ref h4, .ref h5, .ref h6, .ref h7, .ref h8, .ref h9, .ref h10, .ref h11, .ref h12, .ref h13, .ref h14, .ref h15, .ref h16, .ref h17, .ref h18, .ref h19, .ref h20, .int 0, .ref h21, .ref h22, .ref h23, .ref h24, .int 0, .int 0, .ref h25, .ref h26, .int (-1), .ref h1, .ref h27]))] := hD
  refine lv_istore (lv' := [(6, .int 0), (0, .ref h0), (1, .int 3), (2, .int p0), (3, .int 0), (4, .int 0), (5, .int 0)]) hx hb dX11_act_11 hl (by decide) rfl (fun ls hl => ?_)
  refine lv_iload hx hb dX11_act_13 (lv_at hl 0 rfl) ?_
  refine lv_if_ne (tgt := 32) hx hb dX11_act_15 (by decide) (fun c_ => absurd c_ (by decide)) (fun _ => ?_)
  refine lv_aload_n hx hb dX11_act_18 rfl (lv_at hl 1 rfl) ?_
  refine va_get (D := G) (ci := 8) (v := .int 0) (C := RX11) (T := TX11) (N := 42) hx hb hts iX11 hown hK hP 1 rfl rfl 7 (by decide) (hw (.fieldLink RX11 118 "MotionFloorModel$Hall" "entries" "I") (List.mem_of_getElem? (i := 4) rfl)) (fun _ h9 => h9) rfl dX11_act_19 ?_
  refine lv_sipush (v := 600) hx hb dX11_act_22 (by decide) ?_
  refine lv_icmp_ne (tgt := 32) hx hb dX11_act_25 (by decide) (fun _ => ?_) (fun c_ => absurd c_ (by decide))
  refine lv_aload_n hx hb dX11_act_32 rfl (lv_at hl 1 rfl) ?_
  refine lv_iload hx hb dX11_act_33 (lv_at hl 0 rfl) ?_
  refine va_put (D := G) (ci := 8) (v := .int 0) (ty := .int) (C := RX11) (T := TX11) (N := 42) hx hb hts iX11 tyX11 tyX11_ok nmX11 hown hK hP hD hS 1 rfl rfl 10 (by decide) (hw (.fieldLink RX11 127 "MotionFloorModel$Hall" "why" "I") (List.mem_of_getElem? (i := 5) rfl)) (fun _ h9 => h9) rfl (by decide +kernel) rfl rfl (Nat.le_of_ble_eq_true rfl) dX11_act_35 (fun H locs hP hD hS => ?_)
  have hP : va_P G vwCl [(h1, .inl (K 0, 3600, .inl (fun _ => 0))), (h0, .inr (8, [.int 1, .int 0, .int (-1), .int 0, .int 0, .int (-1), .int 0, .int 0, .int 0, .int 0, .int 0, .ref h2, .ref h3, .ref h4, .ref h5, .ref h6, .ref h7, .ref h8, .ref h9, .ref h10, .ref h11, .ref h12, .ref h13, .ref h14, .ref h15, .ref h16, .ref h17, .ref h18, .ref h19, .ref h20, .int 0, .ref h21, .ref h22, .ref h23, .ref h24, .int 0, .int 0, .ref h25, .ref h26, .int (-1), .ref h1, .ref h27]))] _ := hP
  have hD : va_D A [(h1, .inl (K 0, 3600, .inl (fun _ => 0))), (h0, .inr (8, [.int 1, .int 0, .int (-1), .int 0, .int 0, .int (-1), .int 0, .int 0, .int 0, .int 0, .int 0, .ref h2, .ref h3, .ref h4, .ref h5, .ref h6, .ref h7, .ref h8, .ref h9, .ref h10, .ref h11, .ref h12, .ref h13, .ref h14, .ref h15, .ref h16, .ref h17, .ref h18, .ref h19, .ref h20, .int 0, .ref h21, .ref h22, .ref h23, .ref h24, .int 0, .int 0, .ref h25, .ref h26, .int (-1), .ref h1, .ref h27]))] := hD
  refine lv_iload hx hb dX11_act_38 (lv_at hl 0 rfl) ?_
  refine lv_if_le (tgt := 47) hx hb dX11_act_40 (by decide) (fun _ => ?_) (fun c_ => absurd c_ (by decide))
  refine lv_aload_n hx hb dX11_act_47 rfl (lv_at hl 1 rfl) ?_
  refine lv_iload_n hx hb dX11_act_48 rfl (lv_at hl 2 rfl) ?_
  refine lv_iload_n hx hb dX11_act_49 rfl (lv_at hl 3 rfl) ?_
  refine lv_iload_n hx hb dX11_act_50 rfl (lv_at hl 4 rfl) ?_
  refine lv_iload hx hb dX11_act_51 (lv_at hl 5 rfl) ?_
  refine lv_iload hx hb dX11_act_53 (lv_at hl 6 rfl) ?_
  have hPc := hP.sub (ws' := [(h0, .inr (8, [.int 1, .int 0, .int (-1), .int 0, .int 0, .int (-1), .int 0, .int 0, .int 0, .int 0, .int 0, .ref h2, .ref h3, .ref h4, .ref h5, .ref h6, .ref h7, .ref h8, .ref h9, .ref h10, .ref h11, .ref h12, .ref h13, .ref h14, .ref h15, .ref h16, .ref h17, .ref h18, .ref h19, .ref h20, .int 0, .ref h21, .ref h22, .ref h23, .ref h24, .int 0, .int 0, .ref h25, .ref h26, .int (-1), .ref h1, .ref h27]))]) [1] rfl
  have hDc := hD.sub (ws' := [(h0, .inr (8, [.int 1, .int 0, .int (-1), .int 0, .int 0, .int (-1), .int 0, .int 0, .int 0, .int 0, .int 0, .ref h2, .ref h3, .ref h4, .ref h5, .ref h6, .ref h7, .ref h8, .ref h9, .ref h10, .ref h11, .ref h12, .ref h13, .ref h14, .ref h15, .ref h16, .ref h17, .ref h18, .ref h19, .ref h20, .int 0, .ref h21, .ref h22, .ref h23, .ref h24, .int 0, .int 0, .ref h25, .ref h26, .int (-1), .ref h1, .ref h27]))]) [1] (by decide) rfl
  refine wGoi (wc := [(h0, .inr (8, [.int 1, .int 0, .int (-1), .int 0, .int 0, .int (-1), .int 0, .int 0, .int 0, .int 0, .int 0, .ref h2, .ref h3, .ref h4, .ref h5, .ref h6, .ref h7, .ref h8, .ref h9, .ref h10, .ref h11, .ref h12, .ref h13, .ref h14, .ref h15, .ref h16, .ref h17, .ref h18, .ref h19, .ref h20, .int 0, .ref h21, .ref h22, .ref h23, .ref h24, .int 0, .int 0, .ref h25, .ref h26, .int (-1), .ref h1, .ref h27]))]) (wr := [(h1, .inl (K 0, 3600, .inl (fun _ => 0)))]) (va_runV (As := [.int 3, .int p0, .int 0, .int 0, .int 0]) (rest := []) ⟨hx, hb, hml, hown, hts⟩ (m_X11_does_1 l G K h0 h2 h3 h4 h5 h6 h7 h8 h9 h10 h11 h12 h13 h14 h15 h16 h17 h18 h19 h20 h21 h22 h23 h24 h25 h26 h1 h27 p0 _ (by omega)) (cwV 5 hts (wGV t_ (mw (.methodLink RX11 200 yX11_does) (List.mem_of_getElem? (i := 6) rfl)) (mw (.instanceMethod yX11_does) (List.mem_of_getElem? (i := 7) rfl)) (mw (.selects RX11 yX11_does yX11_does) (List.mem_of_getElem? (i := 8) rfl)) (mw (.initialized RX11) (List.mem_of_getElem? (i := 3) rfl)) j_X11_does_1) rfl rfl rfl (by decide +kernel) ⟨Nat.le_of_ble_eq_true rfl, Nat.le_of_ble_eq_true rfl⟩) (wPV hK hE hPc hDc 8 0 rfl rfl) rfl rfl hl.1 rfl (lv_room (Nat.le_of_ble_eq_true rfl)) dX11_act_55 ⟨Nat.le_of_ble_eq_true rfl, Nat.le_of_ble_eq_true rfl⟩) hP hD hS hA [1] [0] rfl rfl rfl (by decide) (fun r u H locs hw hP hD hS => ?_)
  rcases hw with ⟨rfl, rfl⟩
  have hP : va_P G vwCl [(h1, .inl (K 0, 3600, .inl (fun _ => 0))), (h0, .inr (8, [.int 1, .int 0, .int (-1), .int p0, .int 0, .int (-1), .int 0, .int 0, .int 0, .int 0, .int 0, .ref h2, .ref h3, .ref h4, .ref h5, .ref h6, .ref h7, .ref h8, .ref h9, .ref h10, .ref h11, .ref h12, .ref h13, .ref h14, .ref h15, .ref h16, .ref h17, .ref h18, .ref h19, .ref h20, .int 0, .ref h21, .ref h22, .ref h23, .ref h24, .int 0, .int 0, .ref h25, .ref h26, .int (-1), .ref h1, .ref h27]))] _ := hP
  have hD : va_D A [(h1, .inl (K 0, 3600, .inl (fun _ => 0))), (h0, .inr (8, [.int 1, .int 0, .int (-1), .int p0, .int 0, .int (-1), .int 0, .int 0, .int 0, .int 0, .int 0, .ref h2, .ref h3, .ref h4, .ref h5, .ref h6, .ref h7, .ref h8, .ref h9, .ref h10, .ref h11, .ref h12, .ref h13, .ref h14, .ref h15, .ref h16, .ref h17, .ref h18, .ref h19, .ref h20, .int 0, .ref h21, .ref h22, .ref h23, .ref h24, .int 0, .int 0, .ref h25, .ref h26, .int (-1), .ref h1, .ref h27]))] := hD
  refine lv_istore (lv' := [(7, .int p0), (6, .int 0), (0, .ref h0), (1, .int 3), (2, .int p0), (3, .int 0), (4, .int 0), (5, .int 0)]) hx hb dX11_act_58 hl (by decide) rfl (fun ls hl => ?_)
  refine lv_bipush (v := 6) hx hb dX11_act_60 (by decide) ?_
  refine lv_aload_n hx hb dX11_act_62 rfl (lv_at hl 2 rfl) ?_
  refine va_get (D := G) (ci := 8) (v := .int 0) (C := RX11) (T := TX11) (N := 42) hx hb hts iX11 hown hK hP 1 rfl rfl 7 (by decide) (hw (.fieldLink RX11 118 "MotionFloorModel$Hall" "entries" "I") (List.mem_of_getElem? (i := 4) rfl)) (fun _ h9 => h9) rfl dX11_act_63 ?_
  refine lv_imul hx hb dX11_act_66 ?_
  refine wTop (v1 := .int 0) (congrArg Value.int (by decide)) ?_
  refine lv_istore (lv' := [(8, .int 0), (7, .int p0), (6, .int 0), (0, .ref h0), (1, .int 3), (2, .int p0), (3, .int 0), (4, .int 0), (5, .int 0)]) hx hb dX11_act_67 hl (by decide) rfl (fun ls hl => ?_)
  refine lv_iload_n hx hb dX11_act_69 rfl (lv_at hl 4 rfl) ?_
  have hPc := hP.sub (ws' := []) [] rfl
  have hDc := hD.sub (ws' := []) [] (by decide) rfl
  refine wGoi (wc := []) (wr := [(h1, .inl (K 0, 3600, .inl (fun _ => 0))), (h0, .inr (8, [.int 1, .int 0, .int (-1), .int p0, .int 0, .int (-1), .int 0, .int 0, .int 0, .int 0, .int 0, .ref h2, .ref h3, .ref h4, .ref h5, .ref h6, .ref h7, .ref h8, .ref h9, .ref h10, .ref h11, .ref h12, .ref h13, .ref h14, .ref h15, .ref h16, .ref h17, .ref h18, .ref h19, .ref h20, .int 0, .ref h21, .ref h22, .ref h23, .ref h24, .int 0, .int 0, .ref h25, .ref h26, .int (-1), .ref h1, .ref h27]))]) (va_runSN (As := [.int 3]) (rest := []) ⟨hx, hb, hml, hown, hts⟩ (m_X12_numbers_1 l G K _) ⟨va_cnB (host := "MotionFloorModel") 1 hts (wGP t_ j_X12_numbers_1) rfl rfl rfl hE.2.2.2.2.2.2.2.2.2.2 (hw (.initialized RX12) (List.mem_of_getElem? (i := 9) rfl)) (by decide +kernel) ⟨Nat.le_of_ble_eq_true rfl, Nat.le_of_ble_eq_true rfl⟩, (hw (.static yX12_numbers) (List.mem_of_getElem? (i := 10) rfl)), trivial⟩ (wPS hK hE hPc hDc) rfl rfl hl.1 rfl (lv_room (Nat.le_of_ble_eq_true rfl)) dX11_act_70 ⟨Nat.le_of_ble_eq_true rfl, Nat.le_of_ble_eq_true rfl⟩) hP hD hS hA [] [0, 1] rfl rfl rfl (by decide) (fun r u H locs hw hP hD hS => ?_)
  rcases hw with ⟨rfl, rfl⟩
  have hP : va_P G vwCl [(h1, .inl (K 0, 3600, .inl (fun _ => 0))), (h0, .inr (8, [.int 1, .int 0, .int (-1), .int p0, .int 0, .int (-1), .int 0, .int 0, .int 0, .int 0, .int 0, .ref h2, .ref h3, .ref h4, .ref h5, .ref h6, .ref h7, .ref h8, .ref h9, .ref h10, .ref h11, .ref h12, .ref h13, .ref h14, .ref h15, .ref h16, .ref h17, .ref h18, .ref h19, .ref h20, .int 0, .ref h21, .ref h22, .ref h23, .ref h24, .int 0, .int 0, .ref h25, .ref h26, .int (-1), .ref h1, .ref h27]))] _ := hP
  have hD : va_D A [(h1, .inl (K 0, 3600, .inl (fun _ => 0))), (h0, .inr (8, [.int 1, .int 0, .int (-1), .int p0, .int 0, .int (-1), .int 0, .int 0, .int 0, .int 0, .int 0, .ref h2, .ref h3, .ref h4, .ref h5, .ref h6, .ref h7, .ref h8, .ref h9, .ref h10, .ref h11, .ref h12, .ref h13, .ref h14, .ref h15, .ref h16, .ref h17, .ref h18, .ref h19, .ref h20, .int 0, .ref h21, .ref h22, .ref h23, .ref h24, .int 0, .int 0, .ref h25, .ref h26, .int (-1), .ref h1, .ref h27]))] := hD
  refine lv_istore (lv' := [(9, .int 1), (8, .int 0), (7, .int p0), (6, .int 0), (0, .ref h0), (1, .int 3), (2, .int p0), (3, .int 0), (4, .int 0), (5, .int 0)]) hx hb dX11_act_73 hl (by decide) rfl (fun ls hl => ?_)
  refine lv_aload_n hx hb dX11_act_75 rfl (lv_at hl 4 rfl) ?_
  refine va_get (D := G) (ci := 8) (v := .ref h1) (C := RX11) (T := TX11) (N := 42) hx hb hts iX11 hown hK hP 1 rfl rfl 40 (by decide) (hw (.fieldLink RX11 90 "MotionFloorModel$Hall" "minutes" "[I") (List.mem_of_getElem? (i := 11) rfl)) (fun _ h9 => h9) rfl dX11_act_76 ?_
  refine lv_iload hx hb dX11_act_79 (lv_at hl 1 rfl) ?_
  refine lv_iload_n hx hb dX11_act_81 rfl (lv_at hl 5 rfl) ?_
  refine va_iast hx hb hK hP hD hS 0 0 rfl rfl (vp_in_iff.mpr (by decide)) dX11_act_82 (fun H locs hP hD hS => ?_)
  have hP : va_P G vwCl [(h1, .inl (K 0, 3600, .inl (upd (fun _ => 0) 0 3))), (h0, .inr (8, [.int 1, .int 0, .int (-1), .int p0, .int 0, .int (-1), .int 0, .int 0, .int 0, .int 0, .int 0, .ref h2, .ref h3, .ref h4, .ref h5, .ref h6, .ref h7, .ref h8, .ref h9, .ref h10, .ref h11, .ref h12, .ref h13, .ref h14, .ref h15, .ref h16, .ref h17, .ref h18, .ref h19, .ref h20, .int 0, .ref h21, .ref h22, .ref h23, .ref h24, .int 0, .int 0, .ref h25, .ref h26, .int (-1), .ref h1, .ref h27]))] _ := hP
  have hD : va_D A [(h1, .inl (K 0, 3600, .inl (upd (fun _ => 0) 0 3))), (h0, .inr (8, [.int 1, .int 0, .int (-1), .int p0, .int 0, .int (-1), .int 0, .int 0, .int 0, .int 0, .int 0, .ref h2, .ref h3, .ref h4, .ref h5, .ref h6, .ref h7, .ref h8, .ref h9, .ref h10, .ref h11, .ref h12, .ref h13, .ref h14, .ref h15, .ref h16, .ref h17, .ref h18, .ref h19, .ref h20, .int 0, .ref h21, .ref h22, .ref h23, .ref h24, .int 0, .int 0, .ref h25, .ref h26, .int (-1), .ref h1, .ref h27]))] := hD
  refine lv_aload_n hx hb dX11_act_83 rfl (lv_at hl 4 rfl) ?_
  refine va_get (D := G) (ci := 8) (v := .ref h1) (C := RX11) (T := TX11) (N := 42) hx hb hts iX11 hown hK hP 1 rfl rfl 40 (by decide) (hw (.fieldLink RX11 90 "MotionFloorModel$Hall" "minutes" "[I") (List.mem_of_getElem? (i := 11) rfl)) (fun _ h9 => h9) rfl dX11_act_84 ?_
  refine lv_iload hx hb dX11_act_87 (lv_at hl 1 rfl) ?_
  refine lv_iconst (v := 1) hx hb dX11_act_89 (by decide) ?_
  refine lv_iadd hx hb dX11_act_90 ?_
  refine wTop (v1 := .int 1) (congrArg Value.int (by decide)) ?_
  refine lv_iload hx hb dX11_act_91 (lv_at hl 0 rfl) ?_
  refine lv_if_le (tgt := 100) hx hb dX11_act_93 (by decide) (fun c_ => absurd c_ (by decide)) (fun _ => ?_)
  refine lv_iload_n hx hb dX11_act_96 rfl (lv_at hl 6 rfl) ?_
  refine lv_goto (tgt := 101) hx hb dX11_act_97 (by decide) ?_
  refine va_iast hx hb hK hP hD hS 0 0 rfl rfl (vp_in_iff.mpr (by decide)) dX11_act_101 (fun H locs hP hD hS => ?_)
  have hP : va_P G vwCl [(h1, .inl (K 0, 3600, .inl (upd (upd (fun _ => 0) 0 3) 1 p0))), (h0, .inr (8, [.int 1, .int 0, .int (-1), .int p0, .int 0, .int (-1), .int 0, .int 0, .int 0, .int 0, .int 0, .ref h2, .ref h3, .ref h4, .ref h5, .ref h6, .ref h7, .ref h8, .ref h9, .ref h10, .ref h11, .ref h12, .ref h13, .ref h14, .ref h15, .ref h16, .ref h17, .ref h18, .ref h19, .ref h20, .int 0, .ref h21, .ref h22, .ref h23, .ref h24, .int 0, .int 0, .ref h25, .ref h26, .int (-1), .ref h1, .ref h27]))] _ := hP
  have hD : va_D A [(h1, .inl (K 0, 3600, .inl (upd (upd (fun _ => 0) 0 3) 1 p0))), (h0, .inr (8, [.int 1, .int 0, .int (-1), .int p0, .int 0, .int (-1), .int 0, .int 0, .int 0, .int 0, .int 0, .ref h2, .ref h3, .ref h4, .ref h5, .ref h6, .ref h7, .ref h8, .ref h9, .ref h10, .ref h11, .ref h12, .ref h13, .ref h14, .ref h15, .ref h16, .ref h17, .ref h18, .ref h19, .ref h20, .int 0, .ref h21, .ref h22, .ref h23, .ref h24, .int 0, .int 0, .ref h25, .ref h26, .int (-1), .ref h1, .ref h27]))] := hD
  refine lv_aload_n hx hb dX11_act_102 rfl (lv_at hl 4 rfl) ?_
  refine va_get (D := G) (ci := 8) (v := .ref h1) (C := RX11) (T := TX11) (N := 42) hx hb hts iX11 hown hK hP 1 rfl rfl 40 (by decide) (hw (.fieldLink RX11 90 "MotionFloorModel$Hall" "minutes" "[I") (List.mem_of_getElem? (i := 11) rfl)) (fun _ h9 => h9) rfl dX11_act_103 ?_
  refine lv_iload hx hb dX11_act_106 (lv_at hl 1 rfl) ?_
  refine lv_iconst (v := 2) hx hb dX11_act_108 (by decide) ?_
  refine lv_iadd hx hb dX11_act_109 ?_
  refine wTop (v1 := .int 2) (congrArg Value.int (by decide)) ?_
  refine lv_iload hx hb dX11_act_110 (lv_at hl 0 rfl) ?_
  refine lv_iconst (v := 1) hx hb dX11_act_112 (by decide) ?_
  refine lv_icmp_le (tgt := 120) hx hb dX11_act_113 (by decide) (fun _ => ?_) (fun c_ => absurd c_ (by decide))
  refine lv_iconst (v := 0) hx hb dX11_act_120 (by decide) ?_
  refine va_iast hx hb hK hP hD hS 0 0 rfl rfl (vp_in_iff.mpr (by decide)) dX11_act_121 (fun H locs hP hD hS => ?_)
  have hP : va_P G vwCl [(h1, .inl (K 0, 3600, .inl (upd (upd (upd (fun _ => 0) 0 3) 1 p0) 2 0))), (h0, .inr (8, [.int 1, .int 0, .int (-1), .int p0, .int 0, .int (-1), .int 0, .int 0, .int 0, .int 0, .int 0, .ref h2, .ref h3, .ref h4, .ref h5, .ref h6, .ref h7, .ref h8, .ref h9, .ref h10, .ref h11, .ref h12, .ref h13, .ref h14, .ref h15, .ref h16, .ref h17, .ref h18, .ref h19, .ref h20, .int 0, .ref h21, .ref h22, .ref h23, .ref h24, .int 0, .int 0, .ref h25, .ref h26, .int (-1), .ref h1, .ref h27]))] _ := hP
  have hD : va_D A [(h1, .inl (K 0, 3600, .inl (upd (upd (upd (fun _ => 0) 0 3) 1 p0) 2 0))), (h0, .inr (8, [.int 1, .int 0, .int (-1), .int p0, .int 0, .int (-1), .int 0, .int 0, .int 0, .int 0, .int 0, .ref h2, .ref h3, .ref h4, .ref h5, .ref h6, .ref h7, .ref h8, .ref h9, .ref h10, .ref h11, .ref h12, .ref h13, .ref h14, .ref h15, .ref h16, .ref h17, .ref h18, .ref h19, .ref h20, .int 0, .ref h21, .ref h22, .ref h23, .ref h24, .int 0, .int 0, .ref h25, .ref h26, .int (-1), .ref h1, .ref h27]))] := hD
  refine lv_aload_n hx hb dX11_act_122 rfl (lv_at hl 4 rfl) ?_
  refine va_get (D := G) (ci := 8) (v := .ref h1) (C := RX11) (T := TX11) (N := 42) hx hb hts iX11 hown hK hP 1 rfl rfl 40 (by decide) (hw (.fieldLink RX11 90 "MotionFloorModel$Hall" "minutes" "[I") (List.mem_of_getElem? (i := 11) rfl)) (fun _ h9 => h9) rfl dX11_act_123 ?_
  refine lv_iload hx hb dX11_act_126 (lv_at hl 1 rfl) ?_
  refine lv_iconst (v := 3) hx hb dX11_act_128 (by decide) ?_
  refine lv_iadd hx hb dX11_act_129 ?_
  refine wTop (v1 := .int 3) (congrArg Value.int (by decide)) ?_
  refine lv_iload hx hb dX11_act_130 (lv_at hl 0 rfl) ?_
  refine lv_iconst (v := 2) hx hb dX11_act_132 (by decide) ?_
  refine lv_icmp_le (tgt := 141) hx hb dX11_act_133 (by decide) (fun _ => ?_) (fun c_ => absurd c_ (by decide))
  refine lv_iconst (v := 0) hx hb dX11_act_141 (by decide) ?_
  refine va_iast hx hb hK hP hD hS 0 0 rfl rfl (vp_in_iff.mpr (by decide)) dX11_act_142 (fun H locs hP hD hS => ?_)
  have hP : va_P G vwCl [(h1, .inl (K 0, 3600, .inl (upd (upd (upd (upd (fun _ => 0) 0 3) 1 p0) 2 0) 3 0))), (h0, .inr (8, [.int 1, .int 0, .int (-1), .int p0, .int 0, .int (-1), .int 0, .int 0, .int 0, .int 0, .int 0, .ref h2, .ref h3, .ref h4, .ref h5, .ref h6, .ref h7, .ref h8, .ref h9, .ref h10, .ref h11, .ref h12, .ref h13, .ref h14, .ref h15, .ref h16, .ref h17, .ref h18, .ref h19, .ref h20, .int 0, .ref h21, .ref h22, .ref h23, .ref h24, .int 0, .int 0, .ref h25, .ref h26, .int (-1), .ref h1, .ref h27]))] _ := hP
  have hD : va_D A [(h1, .inl (K 0, 3600, .inl (upd (upd (upd (upd (fun _ => 0) 0 3) 1 p0) 2 0) 3 0))), (h0, .inr (8, [.int 1, .int 0, .int (-1), .int p0, .int 0, .int (-1), .int 0, .int 0, .int 0, .int 0, .int 0, .ref h2, .ref h3, .ref h4, .ref h5, .ref h6, .ref h7, .ref h8, .ref h9, .ref h10, .ref h11, .ref h12, .ref h13, .ref h14, .ref h15, .ref h16, .ref h17, .ref h18, .ref h19, .ref h20, .int 0, .ref h21, .ref h22, .ref h23, .ref h24, .int 0, .int 0, .ref h25, .ref h26, .int (-1), .ref h1, .ref h27]))] := hD
  refine lv_aload_n hx hb dX11_act_143 rfl (lv_at hl 4 rfl) ?_
  refine va_get (D := G) (ci := 8) (v := .ref h1) (C := RX11) (T := TX11) (N := 42) hx hb hts iX11 hown hK hP 1 rfl rfl 40 (by decide) (hw (.fieldLink RX11 90 "MotionFloorModel$Hall" "minutes" "[I") (List.mem_of_getElem? (i := 11) rfl)) (fun _ h9 => h9) rfl dX11_act_144 ?_
  refine lv_iload hx hb dX11_act_147 (lv_at hl 1 rfl) ?_
  refine lv_iconst (v := 4) hx hb dX11_act_149 (by decide) ?_
  refine lv_iadd hx hb dX11_act_150 ?_
  refine wTop (v1 := .int 4) (congrArg Value.int (by decide)) ?_
  refine lv_iload hx hb dX11_act_151 (lv_at hl 0 rfl) ?_
  refine lv_iconst (v := 3) hx hb dX11_act_153 (by decide) ?_
  refine lv_icmp_le (tgt := 162) hx hb dX11_act_154 (by decide) (fun _ => ?_) (fun c_ => absurd c_ (by decide))
  refine lv_iconst (v := 0) hx hb dX11_act_162 (by decide) ?_
  refine va_iast hx hb hK hP hD hS 0 0 rfl rfl (vp_in_iff.mpr (by decide)) dX11_act_163 (fun H locs hP hD hS => ?_)
  have hP : va_P G vwCl [(h1, .inl (K 0, 3600, .inl (upd (upd (upd (upd (upd (fun _ => 0) 0 3) 1 p0) 2 0) 3 0) 4 0))), (h0, .inr (8, [.int 1, .int 0, .int (-1), .int p0, .int 0, .int (-1), .int 0, .int 0, .int 0, .int 0, .int 0, .ref h2, .ref h3, .ref h4, .ref h5, .ref h6, .ref h7, .ref h8, .ref h9, .ref h10, .ref h11, .ref h12, .ref h13, .ref h14, .ref h15, .ref h16, .ref h17, .ref h18, .ref h19, .ref h20, .int 0, .ref h21, .ref h22, .ref h23, .ref h24, .int 0, .int 0, .ref h25, .ref h26, .int (-1), .ref h1, .ref h27]))] _ := hP
  have hD : va_D A [(h1, .inl (K 0, 3600, .inl (upd (upd (upd (upd (upd (fun _ => 0) 0 3) 1 p0) 2 0) 3 0) 4 0))), (h0, .inr (8, [.int 1, .int 0, .int (-1), .int p0, .int 0, .int (-1), .int 0, .int 0, .int 0, .int 0, .int 0, .ref h2, .ref h3, .ref h4, .ref h5, .ref h6, .ref h7, .ref h8, .ref h9, .ref h10, .ref h11, .ref h12, .ref h13, .ref h14, .ref h15, .ref h16, .ref h17, .ref h18, .ref h19, .ref h20, .int 0, .ref h21, .ref h22, .ref h23, .ref h24, .int 0, .int 0, .ref h25, .ref h26, .int (-1), .ref h1, .ref h27]))] := hD
  refine lv_aload_n hx hb dX11_act_164 rfl (lv_at hl 4 rfl) ?_
  refine va_get (D := G) (ci := 8) (v := .ref h1) (C := RX11) (T := TX11) (N := 42) hx hb hts iX11 hown hK hP 1 rfl rfl 40 (by decide) (hw (.fieldLink RX11 90 "MotionFloorModel$Hall" "minutes" "[I") (List.mem_of_getElem? (i := 11) rfl)) (fun _ h9 => h9) rfl dX11_act_165 ?_
  refine lv_iload hx hb dX11_act_168 (lv_at hl 1 rfl) ?_
  refine lv_iconst (v := 5) hx hb dX11_act_170 (by decide) ?_
  refine lv_iadd hx hb dX11_act_171 ?_
  refine wTop (v1 := .int 5) (congrArg Value.int (by decide)) ?_
  refine lv_iload hx hb dX11_act_172 (lv_at hl 2 rfl) ?_
  refine va_iast hx hb hK hP hD hS 0 0 rfl rfl (vp_in_iff.mpr (by decide)) dX11_act_174 (fun H locs hP hD hS => ?_)
  have hP : va_P G vwCl [(h1, .inl (K 0, 3600, .inl (upd (upd (upd (upd (upd (upd (fun _ => 0) 0 3) 1 p0) 2 0) 3 0) 4 0) 5 p0))), (h0, .inr (8, [.int 1, .int 0, .int (-1), .int p0, .int 0, .int (-1), .int 0, .int 0, .int 0, .int 0, .int 0, .ref h2, .ref h3, .ref h4, .ref h5, .ref h6, .ref h7, .ref h8, .ref h9, .ref h10, .ref h11, .ref h12, .ref h13, .ref h14, .ref h15, .ref h16, .ref h17, .ref h18, .ref h19, .ref h20, .int 0, .ref h21, .ref h22, .ref h23, .ref h24, .int 0, .int 0, .ref h25, .ref h26, .int (-1), .ref h1, .ref h27]))] _ := hP
  have hD : va_D A [(h1, .inl (K 0, 3600, .inl (upd (upd (upd (upd (upd (upd (fun _ => 0) 0 3) 1 p0) 2 0) 3 0) 4 0) 5 p0))), (h0, .inr (8, [.int 1, .int 0, .int (-1), .int p0, .int 0, .int (-1), .int 0, .int 0, .int 0, .int 0, .int 0, .ref h2, .ref h3, .ref h4, .ref h5, .ref h6, .ref h7, .ref h8, .ref h9, .ref h10, .ref h11, .ref h12, .ref h13, .ref h14, .ref h15, .ref h16, .ref h17, .ref h18, .ref h19, .ref h20, .int 0, .ref h21, .ref h22, .ref h23, .ref h24, .int 0, .int 0, .ref h25, .ref h26, .int (-1), .ref h1, .ref h27]))] := hD
  refine lv_aload_n hx hb dX11_act_175 rfl (lv_at hl 4 rfl) ?_
  refine lv_dup hx hb dX11_act_176 rfl ?_
  refine va_get (D := G) (ci := 8) (v := .int 0) (C := RX11) (T := TX11) (N := 42) hx hb hts iX11 hown hK hP 1 rfl rfl 7 (by decide) (hw (.fieldLink RX11 118 "MotionFloorModel$Hall" "entries" "I") (List.mem_of_getElem? (i := 4) rfl)) (fun _ h9 => h9) rfl dX11_act_177 ?_
  refine lv_iconst (v := 1) hx hb dX11_act_180 (by decide) ?_
  refine lv_iadd hx hb dX11_act_181 ?_
  refine wTop (v1 := .int 1) (congrArg Value.int (by decide)) ?_
  refine va_put (D := G) (ci := 8) (v := .int 1) (ty := .int) (C := RX11) (T := TX11) (N := 42) hx hb hts iX11 tyX11 tyX11_ok nmX11 hown hK hP hD hS 1 rfl rfl 7 (by decide) (hw (.fieldLink RX11 118 "MotionFloorModel$Hall" "entries" "I") (List.mem_of_getElem? (i := 4) rfl)) (fun _ h9 => h9) rfl (by decide +kernel) rfl rfl (Nat.le_of_ble_eq_true rfl) dX11_act_182 (fun H locs hP hD hS => ?_)
  have hP : va_P G vwCl [(h1, .inl (K 0, 3600, .inl (upd (upd (upd (upd (upd (upd (fun _ => 0) 0 3) 1 p0) 2 0) 3 0) 4 0) 5 p0))), (h0, .inr (8, [.int 1, .int 0, .int (-1), .int p0, .int 0, .int (-1), .int 0, .int 1, .int 0, .int 0, .int 0, .ref h2, .ref h3, .ref h4, .ref h5, .ref h6, .ref h7, .ref h8, .ref h9, .ref h10, .ref h11, .ref h12, .ref h13, .ref h14, .ref h15, .ref h16, .ref h17, .ref h18, .ref h19, .ref h20, .int 0, .ref h21, .ref h22, .ref h23, .ref h24, .int 0, .int 0, .ref h25, .ref h26, .int (-1), .ref h1, .ref h27]))] _ := hP
  have hD : va_D A [(h1, .inl (K 0, 3600, .inl (upd (upd (upd (upd (upd (upd (fun _ => 0) 0 3) 1 p0) 2 0) 3 0) 4 0) 5 p0))), (h0, .inr (8, [.int 1, .int 0, .int (-1), .int p0, .int 0, .int (-1), .int 0, .int 1, .int 0, .int 0, .int 0, .ref h2, .ref h3, .ref h4, .ref h5, .ref h6, .ref h7, .ref h8, .ref h9, .ref h10, .ref h11, .ref h12, .ref h13, .ref h14, .ref h15, .ref h16, .ref h17, .ref h18, .ref h19, .ref h20, .int 0, .ref h21, .ref h22, .ref h23, .ref h24, .int 0, .int 0, .ref h25, .ref h26, .int (-1), .ref h1, .ref h27]))] := hD
  refine lv_iload hx hb dX11_act_185 (lv_at hl 2 rfl) ?_
  have hP9 := hP.sub (ws' := [(h0, .inr (8, [.int 1, .int 0, .int (-1), .int p0, .int 0, .int (-1), .int 0, .int 1, .int 0, .int 0, .int 0, .ref h2, .ref h3, .ref h4, .ref h5, .ref h6, .ref h7, .ref h8, .ref h9, .ref h10, .ref h11, .ref h12, .ref h13, .ref h14, .ref h15, .ref h16, .ref h17, .ref h18, .ref h19, .ref h20, .int 0, .ref h21, .ref h22, .ref h23, .ref h24, .int 0, .int 0, .ref h25, .ref h26, .int (-1), .ref h1, .ref h27])), (h1, .inl (K 0, 3600, .inl (upd (upd (upd (upd (upd (upd (fun _ => 0) 0 3) 1 p0) 2 0) 3 0) 4 0) 5 p0)))]) [1, 0] rfl
  have hD9 := hD.sub (ws' := [(h0, .inr (8, [.int 1, .int 0, .int (-1), .int p0, .int 0, .int (-1), .int 0, .int 1, .int 0, .int 0, .int 0, .ref h2, .ref h3, .ref h4, .ref h5, .ref h6, .ref h7, .ref h8, .ref h9, .ref h10, .ref h11, .ref h12, .ref h13, .ref h14, .ref h15, .ref h16, .ref h17, .ref h18, .ref h19, .ref h20, .int 0, .ref h21, .ref h22, .ref h23, .ref h24, .int 0, .int 0, .ref h25, .ref h26, .int (-1), .ref h1, .ref h27])), (h1, .inl (K 0, 3600, .inl (upd (upd (upd (upd (upd (upd (fun _ => 0) 0 3) 1 p0) 2 0) 3 0) 4 0) 5 p0)))]) [1, 0] (by decide) rfl
  exact W.iret (v := p0) hx hb hr (fun t ht hW => ⟨⟨p0, _, rfl, ⟨rfl, rfl⟩, by rw [ht]; exact hP9, hD9⟩, hS.F ht⟩) hS.2.2 dX11_act_187
def e_X12_quorum_1 : List Cond := [.fieldLink RX12 16 "MotionFloorModel" "hall" "LMotionFloorModel$Hall;", .methodLink RX12 40 yX11_act, .instanceMethod yX11_act, .selects RX11 yX11_act yX11_act, .initialized RX11]
def v_X12_quorum_1 : List Cond := .code yX12_quorum cX12_quorum 2 (some .int) :: (e_X12_quorum_1 ++ (wsX120 ++ (v_X11_act_5 ++ [])))
theorem te_X12_quorum_1 : GoodIn lw_tbl e_X12_quorum_1 := wGc z225 (wGc z368 (wGc z367 (wGc z366 (wGc z227 (wG0)))))
theorem t_X12_quorum_1 : GoodIn lw_tbl v_X12_quorum_1 := wGc z394 (wGa te_X12_quorum_1 (wGa zcX12 (wGa t_X11_act_5 (wG0))))
set_option maxHeartbeats 4000000 in
set_option maxRecDepth 100000 in
theorem m_X12_quorum_1 (l : Launch) (G : va_G) (K : Nat → ClassId) (h0 h1 h2 h3 h4 h5 h6 h7 h8 h9 h10 h11 h12 h13 h14 h15 h16 h17 h18 h19 h20 h21 h22 h23 h24 h25 h26 h27 h28 h29 h30 h31 h32 h33 : Nat) (p0 : Int32) (sz : Nat) (bp0 : 0 ≤ p0.toInt ∧ p0.toInt ≤ 200) : Met l yX12_quorum v_X12_quorum_1 ({ frames := 3, cells := 0, slots := 0, locals := 76 }) (va_Pc [.ref h0, .int p0] (wS G K sz [(h0, .inr (9, [.ref h1, .ref h3, .ref h4, .ref h5, .ref h6, .ref h7, .int 0])), (h1, .inr (8, [.int 1, .int 0, .int (-1), .int 0, .int 0, .int (-1), .int 0, .int 0, .int 0, .int 0, .int 0, .ref h8, .ref h9, .ref h10, .ref h11, .ref h12, .ref h13, .ref h14, .ref h15, .ref h16, .ref h17, .ref h18, .ref h19, .ref h20, .ref h21, .ref h22, .ref h23, .ref h24, .ref h25, .ref h26, .int 0, .ref h27, .ref h28, .ref h29, .ref h30, .int 0, .int 0, .ref h31, .ref h32, .int (-1), .ref h2, .ref h33])), (h2, .inl (K 0, 3600, .inl (fun _ => 0)))])) (va_Qi (fun (r : Int32) (u : va_W) => (p0 = r ∧ u = [(h0, .inr (9, [.ref h1, .ref h3, .ref h4, .ref h5, .ref h6, .ref h7, .int 0])), (h1, .inr (8, [.int 1, .int 0, .int (-1), .int p0, .int 0, .int (-1), .int 0, .int 1, .int 0, .int 0, .int 0, .ref h8, .ref h9, .ref h10, .ref h11, .ref h12, .ref h13, .ref h14, .ref h15, .ref h16, .ref h17, .ref h18, .ref h19, .ref h20, .ref h21, .ref h22, .ref h23, .ref h24, .ref h25, .ref h26, .int 0, .ref h27, .ref h28, .ref h29, .ref h30, .int 0, .int 0, .ref h31, .ref h32, .int (-1), .ref h2, .ref h33])), (h2, .inl (K 0, 3600, .inl (upd (upd (upd (upd (upd (upd (fun _ => 0) 0 3) 1 p0) 2 0) 3 0) 4 0) 5 p0)))])) (wB G (va_A [(h0, .inr (9, [.ref h1, .ref h3, .ref h4, .ref h5, .ref h6, .ref h7, .int 0])), (h1, .inr (8, [.int 1, .int 0, .int (-1), .int 0, .int 0, .int (-1), .int 0, .int 0, .int 0, .int 0, .int 0, .ref h8, .ref h9, .ref h10, .ref h11, .ref h12, .ref h13, .ref h14, .ref h15, .ref h16, .ref h17, .ref h18, .ref h19, .ref h20, .ref h21, .ref h22, .ref h23, .ref h24, .ref h25, .ref h26, .int 0, .ref h27, .ref h28, .ref h29, .ref h30, .int 0, .int 0, .ref h31, .ref h32, .int (-1), .ref h2, .ref h33])), (h2, .inl (K 0, 3600, .inl (fun _ => 0)))] sz)) (va_A [(h0, .inr (9, [.ref h1, .ref h3, .ref h4, .ref h5, .ref h6, .ref h7, .int 0])), (h1, .inr (8, [.int 1, .int 0, .int (-1), .int 0, .int 0, .int (-1), .int 0, .int 0, .int 0, .int 0, .int 0, .ref h8, .ref h9, .ref h10, .ref h11, .ref h12, .ref h13, .ref h14, .ref h15, .ref h16, .ref h17, .ref h18, .ref h19, .ref h20, .ref h21, .ref h22, .ref h23, .ref h24, .ref h25, .ref h26, .int 0, .ref h27, .ref h28, .ref h29, .ref h30, .int 0, .int 0, .ref h31, .ref h32, .int (-1), .ref h2, .ref h33])), (h2, .inl (K 0, 3600, .inl (fun _ => 0)))] sz)) 0 0 (va_A [(h0, .inr (9, [.ref h1, .ref h3, .ref h4, .ref h5, .ref h6, .ref h7, .int 0])), (h1, .inr (8, [.int 1, .int 0, .int (-1), .int 0, .int 0, .int (-1), .int 0, .int 0, .int 0, .int 0, .int 0, .ref h8, .ref h9, .ref h10, .ref h11, .ref h12, .ref h13, .ref h14, .ref h15, .ref h16, .ref h17, .ref h18, .ref h19, .ref h20, .ref h21, .ref h22, .ref h23, .ref h24, .ref h25, .ref h26, .int 0, .ref h27, .ref h28, .ref h29, .ref h30, .int 0, .int 0, .ref h31, .ref h32, .int (-1), .ref h2, .ref h33])), (h2, .inl (K 0, 3600, .inl (fun _ => 0)))] sz) := by
  refine Met.ofW (cc := cX12_quorum) (maxL := 2) (ret := (some .int)) (by decide) rfl ?_
  intro p e s m args below meth c s₁ B hml hv
  obtain ⟨rfl, hsz, hP, hK, hD0, hE⟩ := hv
  have hx := B.exec
  have hb := B.bytes
  have hr := B.returns
  have hts := atoms_spec (ws := v_X12_quorum_1) B.pre
  have t_ := t_X12_quorum_1
  have mw : ∀ w ∈ e_X12_quorum_1, w ∈ v_X12_quorum_1 := fun w h => List.mem_cons_of_mem _ (List.mem_append_left _ h)
  have hw := fun w (h : w ∈ e_X12_quorum_1) => hts w (mw w h)
  have iX12 : ∀ w ∈ wsX120, w ∈ v_X12_quorum_1 := fun w h => List.mem_cons_of_mem _ (List.mem_append_right _ (List.mem_append_left _ h))
  have j_X11_act_5 : ∀ w ∈ v_X11_act_5, w ∈ v_X12_quorum_1 := fun w h => List.mem_cons_of_mem _ (List.mem_append_right _ (List.mem_append_right _ (List.mem_append_left _ h)))
  have hown : s.vm.findClass RX12 = some m.cls := findClass_of_methodNamed B.named
  have hlocks := B.notSynchronized
  subst hsz
  have hD := hD0.self (sz := s.heap.size)
  generalize hAe : va_A [(h0, .inr (9, [.ref h1, .ref h3, .ref h4, .ref h5, .ref h6, .ref h7, .int 0])), (h1, .inr (8, [.int 1, .int 0, .int (-1), .int 0, .int 0, .int (-1), .int 0, .int 0, .int 0, .int 0, .int 0, .ref h8, .ref h9, .ref h10, .ref h11, .ref h12, .ref h13, .ref h14, .ref h15, .ref h16, .ref h17, .ref h18, .ref h19, .ref h20, .ref h21, .ref h22, .ref h23, .ref h24, .ref h25, .ref h26, .int 0, .ref h27, .ref h28, .ref h29, .ref h30, .int 0, .int 0, .ref h31, .ref h32, .int (-1), .ref h2, .ref h33])), (h2, .inl (K 0, 3600, .inl (fun _ => 0)))] s.heap.size = A at hD ⊢
  have hA : ∀ q : Nat, s.heap.size ≤ q → A q := fun q h => by rw [← hAe]; exact Or.inr h
  have hS : va_S A s.heap s.heap [] := va_S.rf
  have hP : va_P G vwCl [(h0, .inr (9, [.ref h1, .ref h3, .ref h4, .ref h5, .ref h6, .ref h7, .int 0])), (h1, .inr (8, [.int 1, .int 0, .int (-1), .int 0, .int 0, .int (-1), .int 0, .int 0, .int 0, .int 0, .int 0, .ref h8, .ref h9, .ref h10, .ref h11, .ref h12, .ref h13, .ref h14, .ref h15, .ref h16, .ref h17, .ref h18, .ref h19, .ref h20, .ref h21, .ref h22, .ref h23, .ref h24, .ref h25, .ref h26, .int 0, .ref h27, .ref h28, .ref h29, .ref h30, .int 0, .int 0, .ref h31, .ref h32, .int (-1), .ref h2, .ref h33])), (h2, .inl (K 0, 3600, .inl (fun _ => 0)))] s.heap := hP
  have hl := lv_entry ([.ref h0, .int p0]) (n := 2) (Nat.le_of_ble_eq_true rfl)
  rw [lg_entry_eq]
  generalize (lg_sl ([.ref h0, .int p0]) ++ List.replicate (2 - (lg_sl ([.ref h0, .int p0])).length) Slot.unset).toArray = ls at hl ⊢
  have hl : lv_has ls 2 [(0, .ref h0), (1, .int p0)] := hl
  refine lv_aload_n hx hb dX12_quorum_0 rfl (lv_at hl 0 rfl) ?_
  refine va_get (D := G) (ci := 9) (v := .ref h1) (C := RX12) (T := TX12) (N := 7) hx hb hts iX12 hown hK hP 0 rfl rfl 0 (by decide) (hw (.fieldLink RX12 16 "MotionFloorModel" "hall" "LMotionFloorModel$Hall;") (List.mem_of_getElem? (i := 0) rfl)) (fun _ h9 => h9) rfl dX12_quorum_1 ?_
  refine lv_iconst (v := 3) hx hb dX12_quorum_4 (by decide) ?_
  refine lv_iload_n hx hb dX12_quorum_5 rfl (lv_at hl 1 rfl) ?_
  refine lv_iconst (v := 0) hx hb dX12_quorum_6 (by decide) ?_
  refine lv_iconst (v := 0) hx hb dX12_quorum_7 (by decide) ?_
  refine lv_iconst (v := 0) hx hb dX12_quorum_8 (by decide) ?_
  have hPc := hP.sub (ws' := [(h1, .inr (8, [.int 1, .int 0, .int (-1), .int 0, .int 0, .int (-1), .int 0, .int 0, .int 0, .int 0, .int 0, .ref h8, .ref h9, .ref h10, .ref h11, .ref h12, .ref h13, .ref h14, .ref h15, .ref h16, .ref h17, .ref h18, .ref h19, .ref h20, .ref h21, .ref h22, .ref h23, .ref h24, .ref h25, .ref h26, .int 0, .ref h27, .ref h28, .ref h29, .ref h30, .int 0, .int 0, .ref h31, .ref h32, .int (-1), .ref h2, .ref h33])), (h2, .inl (K 0, 3600, .inl (fun _ => 0)))]) [1, 2] rfl
  have hDc := hD.sub (ws' := [(h1, .inr (8, [.int 1, .int 0, .int (-1), .int 0, .int 0, .int (-1), .int 0, .int 0, .int 0, .int 0, .int 0, .ref h8, .ref h9, .ref h10, .ref h11, .ref h12, .ref h13, .ref h14, .ref h15, .ref h16, .ref h17, .ref h18, .ref h19, .ref h20, .ref h21, .ref h22, .ref h23, .ref h24, .ref h25, .ref h26, .int 0, .ref h27, .ref h28, .ref h29, .ref h30, .int 0, .int 0, .ref h31, .ref h32, .int (-1), .ref h2, .ref h33])), (h2, .inl (K 0, 3600, .inl (fun _ => 0)))]) [1, 2] (by decide) rfl
  refine wGoi (wc := [(h1, .inr (8, [.int 1, .int 0, .int (-1), .int 0, .int 0, .int (-1), .int 0, .int 0, .int 0, .int 0, .int 0, .ref h8, .ref h9, .ref h10, .ref h11, .ref h12, .ref h13, .ref h14, .ref h15, .ref h16, .ref h17, .ref h18, .ref h19, .ref h20, .ref h21, .ref h22, .ref h23, .ref h24, .ref h25, .ref h26, .int 0, .ref h27, .ref h28, .ref h29, .ref h30, .int 0, .int 0, .ref h31, .ref h32, .int (-1), .ref h2, .ref h33])), (h2, .inl (K 0, 3600, .inl (fun _ => 0)))]) (wr := [(h0, .inr (9, [.ref h1, .ref h3, .ref h4, .ref h5, .ref h6, .ref h7, .int 0]))]) (va_runV (As := [.int 3, .int p0, .int 0, .int 0, .int 0]) (rest := []) ⟨hx, hb, hml, hown, hts⟩ (m_X11_act_5 l G K h1 h2 h8 h9 h10 h11 h12 h13 h14 h15 h16 h17 h18 h19 h20 h21 h22 h23 h24 h25 h26 h27 h28 h29 h30 h31 h32 h33 p0 _ (by omega)) (cwV 5 hts (wGV t_ (mw (.methodLink RX12 40 yX11_act) (List.mem_of_getElem? (i := 1) rfl)) (mw (.instanceMethod yX11_act) (List.mem_of_getElem? (i := 2) rfl)) (mw (.selects RX11 yX11_act yX11_act) (List.mem_of_getElem? (i := 3) rfl)) (mw (.initialized RX11) (List.mem_of_getElem? (i := 4) rfl)) j_X11_act_5) rfl rfl rfl (by decide +kernel) ⟨Nat.le_of_ble_eq_true rfl, Nat.le_of_ble_eq_true rfl⟩) (wPV hK hE hPc hDc 8 0 rfl rfl) rfl rfl hl.1 rfl (lv_room (Nat.le_of_ble_eq_true rfl)) dX12_quorum_9 ⟨Nat.le_of_ble_eq_true rfl, Nat.le_of_ble_eq_true rfl⟩) hP hD hS hA [1, 2] [0] rfl rfl rfl (by decide) (fun r u H locs hw hP hD hS => ?_)
  rcases hw with ⟨rfl, rfl⟩
  have hP : va_P G vwCl [(h0, .inr (9, [.ref h1, .ref h3, .ref h4, .ref h5, .ref h6, .ref h7, .int 0])), (h1, .inr (8, [.int 1, .int 0, .int (-1), .int p0, .int 0, .int (-1), .int 0, .int 1, .int 0, .int 0, .int 0, .ref h8, .ref h9, .ref h10, .ref h11, .ref h12, .ref h13, .ref h14, .ref h15, .ref h16, .ref h17, .ref h18, .ref h19, .ref h20, .ref h21, .ref h22, .ref h23, .ref h24, .ref h25, .ref h26, .int 0, .ref h27, .ref h28, .ref h29, .ref h30, .int 0, .int 0, .ref h31, .ref h32, .int (-1), .ref h2, .ref h33])), (h2, .inl (K 0, 3600, .inl (upd (upd (upd (upd (upd (upd (fun _ => 0) 0 3) 1 p0) 2 0) 3 0) 4 0) 5 p0)))] _ := hP
  have hD : va_D A [(h0, .inr (9, [.ref h1, .ref h3, .ref h4, .ref h5, .ref h6, .ref h7, .int 0])), (h1, .inr (8, [.int 1, .int 0, .int (-1), .int p0, .int 0, .int (-1), .int 0, .int 1, .int 0, .int 0, .int 0, .ref h8, .ref h9, .ref h10, .ref h11, .ref h12, .ref h13, .ref h14, .ref h15, .ref h16, .ref h17, .ref h18, .ref h19, .ref h20, .ref h21, .ref h22, .ref h23, .ref h24, .ref h25, .ref h26, .int 0, .ref h27, .ref h28, .ref h29, .ref h30, .int 0, .int 0, .ref h31, .ref h32, .int (-1), .ref h2, .ref h33])), (h2, .inl (K 0, 3600, .inl (upd (upd (upd (upd (upd (upd (fun _ => 0) 0 3) 1 p0) 2 0) 3 0) 4 0) 5 p0)))] := hD
  have hP9 : va_P G vwCl [(h0, .inr (9, [.ref h1, .ref h3, .ref h4, .ref h5, .ref h6, .ref h7, .int 0])), (h1, .inr (8, [.int 1, .int 0, .int (-1), .int p0, .int 0, .int (-1), .int 0, .int 1, .int 0, .int 0, .int 0, .ref h8, .ref h9, .ref h10, .ref h11, .ref h12, .ref h13, .ref h14, .ref h15, .ref h16, .ref h17, .ref h18, .ref h19, .ref h20, .ref h21, .ref h22, .ref h23, .ref h24, .ref h25, .ref h26, .int 0, .ref h27, .ref h28, .ref h29, .ref h30, .int 0, .int 0, .ref h31, .ref h32, .int (-1), .ref h2, .ref h33])), (h2, .inl (K 0, 3600, .inl (upd (upd (upd (upd (upd (upd (fun _ => 0) 0 3) 1 p0) 2 0) 3 0) 4 0) 5 p0)))] _ := hP
  have hD9 : va_D A [(h0, .inr (9, [.ref h1, .ref h3, .ref h4, .ref h5, .ref h6, .ref h7, .int 0])), (h1, .inr (8, [.int 1, .int 0, .int (-1), .int p0, .int 0, .int (-1), .int 0, .int 1, .int 0, .int 0, .int 0, .ref h8, .ref h9, .ref h10, .ref h11, .ref h12, .ref h13, .ref h14, .ref h15, .ref h16, .ref h17, .ref h18, .ref h19, .ref h20, .ref h21, .ref h22, .ref h23, .ref h24, .ref h25, .ref h26, .int 0, .ref h27, .ref h28, .ref h29, .ref h30, .int 0, .int 0, .ref h31, .ref h32, .int (-1), .ref h2, .ref h33])), (h2, .inl (K 0, 3600, .inl (upd (upd (upd (upd (upd (upd (fun _ => 0) 0 3) 1 p0) 2 0) 3 0) 4 0) 5 p0)))] := hD
  exact W.iret (v := p0) hx hb hr (fun t ht hW => ⟨⟨p0, _, rfl, ⟨rfl, rfl⟩, by rw [ht]; exact hP9, hD9⟩, hS.F ht⟩) hS.2.2 dX12_quorum_12
def e_X8_againstOnFloor_3 : List Cond := [.fieldLink RX8 34 "MotionFloor$Assembly" "house" "LMotionFloor$House;", .methodLink RX8 42 yX8_againstAbsent, .static yX8_againstAbsent, .initialized RX8]
def v_X8_againstOnFloor_3 : List Cond := .code yX8_againstOnFloor cX8_againstOnFloor 4 (some .int) :: (e_X8_againstOnFloor_3 ++ (wsX00 ++ (v_X8_againstAbsent_0 ++ [])))
theorem te_X8_againstOnFloor_3 : GoodIn lw_tbl e_X8_againstOnFloor_3 := wGc z300 (wGc z378 (wGc z377 (wGc z297 (wG0))))
theorem t_X8_againstOnFloor_3 : GoodIn lw_tbl v_X8_againstOnFloor_3 := wGc z301 (wGa te_X8_againstOnFloor_3 (wGa zcX0 (wGa t_X8_againstAbsent_0 (wG0))))
set_option maxHeartbeats 4000000 in
set_option maxRecDepth 100000 in
theorem m_X8_againstOnFloor_3 (l : Launch) (G : va_G) (K : Nat → ClassId) (h0 h1 h2 h3 h4 h5 h6 h7 h8 h9 : Nat) (p0 : Int32) (sz : Nat) : Met l yX8_againstOnFloor v_X8_againstOnFloor_3 ({ frames := 2, cells := 0, slots := 0, locals := 42 }) (va_Pc [.ref h0, .int 4, .int p0, .int 0] (wS G K sz [(h0, .inr (0, [.ref h1, .ref h3, .ref h4, .ref h5, .ref h6, .ref h7, .ref h8, .int 0, .int 0, .int 0, .null])), (h1, .inr (1, [.int 1, .ref h2, .int 0, .int (-1), .int 0, .int 0, .int (-1), .ref h9])), (h2, .inl (K 1, 200, .inl (fun _ => 0)))])) (va_Qi (fun (r : Int32) (u : va_W) => ((((p0.toInt < 0 ∨ (p0.toInt ≥ 0 ∧ p0.toInt ≥ 1)))) ∧ 9 = r ∧ u = [(h0, .inr (0, [.ref h1, .ref h3, .ref h4, .ref h5, .ref h6, .ref h7, .ref h8, .int 0, .int 0, .int 0, .null])), (h1, .inr (1, [.int 1, .ref h2, .int 0, .int (-1), .int 0, .int 0, .int (-1), .ref h9])), (h2, .inl (K 1, 200, .inl (fun _ => 0)))]) ∨ (((((p0.toInt ≥ 0 ∧ p0.toInt < 1)))) ∧ 8 = r ∧ u = [(h0, .inr (0, [.ref h1, .ref h3, .ref h4, .ref h5, .ref h6, .ref h7, .ref h8, .int 0, .int 0, .int 0, .null])), (h1, .inr (1, [.int 1, .ref h2, .int 0, .int (-1), .int 0, .int 0, .int (-1), .ref h9])), (h2, .inl (K 1, 200, .inl (fun _ => 0)))])) (wB G (va_A [(h0, .inr (0, [.ref h1, .ref h3, .ref h4, .ref h5, .ref h6, .ref h7, .ref h8, .int 0, .int 0, .int 0, .null])), (h1, .inr (1, [.int 1, .ref h2, .int 0, .int (-1), .int 0, .int 0, .int (-1), .ref h9])), (h2, .inl (K 1, 200, .inl (fun _ => 0)))] sz)) (va_A [(h0, .inr (0, [.ref h1, .ref h3, .ref h4, .ref h5, .ref h6, .ref h7, .ref h8, .int 0, .int 0, .int 0, .null])), (h1, .inr (1, [.int 1, .ref h2, .int 0, .int (-1), .int 0, .int 0, .int (-1), .ref h9])), (h2, .inl (K 1, 200, .inl (fun _ => 0)))] sz)) 0 0 (va_A [(h0, .inr (0, [.ref h1, .ref h3, .ref h4, .ref h5, .ref h6, .ref h7, .ref h8, .int 0, .int 0, .int 0, .null])), (h1, .inr (1, [.int 1, .ref h2, .int 0, .int (-1), .int 0, .int 0, .int (-1), .ref h9])), (h2, .inl (K 1, 200, .inl (fun _ => 0)))] sz) := by
  refine Met.ofW (cc := cX8_againstOnFloor) (maxL := 4) (ret := (some .int)) (by decide) rfl ?_
  intro p e s m args below meth c s₁ B hml hv
  obtain ⟨rfl, hsz, hP, hK, hD0, hE⟩ := hv
  have hx := B.exec
  have hb := B.bytes
  have hr := B.returns
  have hts := atoms_spec (ws := v_X8_againstOnFloor_3) B.pre
  have t_ := t_X8_againstOnFloor_3
  have mw : ∀ w ∈ e_X8_againstOnFloor_3, w ∈ v_X8_againstOnFloor_3 := fun w h => List.mem_cons_of_mem _ (List.mem_append_left _ h)
  have hw := fun w (h : w ∈ e_X8_againstOnFloor_3) => hts w (mw w h)
  have iX0 : ∀ w ∈ wsX00, w ∈ v_X8_againstOnFloor_3 := fun w h => List.mem_cons_of_mem _ (List.mem_append_right _ (List.mem_append_left _ h))
  have j_X8_againstAbsent_0 : ∀ w ∈ v_X8_againstAbsent_0, w ∈ v_X8_againstOnFloor_3 := fun w h => List.mem_cons_of_mem _ (List.mem_append_right _ (List.mem_append_right _ (List.mem_append_left _ h)))
  have hown : s.vm.findClass RX8 = some m.cls := findClass_of_methodNamed B.named
  have hlocks := B.notSynchronized
  subst hsz
  have hD := hD0.self (sz := s.heap.size)
  generalize hAe : va_A [(h0, .inr (0, [.ref h1, .ref h3, .ref h4, .ref h5, .ref h6, .ref h7, .ref h8, .int 0, .int 0, .int 0, .null])), (h1, .inr (1, [.int 1, .ref h2, .int 0, .int (-1), .int 0, .int 0, .int (-1), .ref h9])), (h2, .inl (K 1, 200, .inl (fun _ => 0)))] s.heap.size = A at hD ⊢
  have hA : ∀ q : Nat, s.heap.size ≤ q → A q := fun q h => by rw [← hAe]; exact Or.inr h
  have hS : va_S A s.heap s.heap [] := va_S.rf
  have hP : va_P G vwCl [(h0, .inr (0, [.ref h1, .ref h3, .ref h4, .ref h5, .ref h6, .ref h7, .ref h8, .int 0, .int 0, .int 0, .null])), (h1, .inr (1, [.int 1, .ref h2, .int 0, .int (-1), .int 0, .int 0, .int (-1), .ref h9])), (h2, .inl (K 1, 200, .inl (fun _ => 0)))] s.heap := hP
  have hl := lv_entry ([.ref h0, .int 4, .int p0, .int 0]) (n := 4) (Nat.le_of_ble_eq_true rfl)
  rw [lg_entry_eq]
  generalize (lg_sl ([.ref h0, .int 4, .int p0, .int 0]) ++ List.replicate (4 - (lg_sl ([.ref h0, .int 4, .int p0, .int 0])).length) Slot.unset).toArray = ls at hl ⊢
  have hl : lv_has ls 4 [(0, .ref h0), (1, .int 4), (2, .int p0), (3, .int 0)] := hl
  refine lv_iload_n hx hb dX8_againstOnFloor_0 rfl (lv_at hl 1 rfl) ?_
  refine lv_tableIn (off := 90) (tgt := 91) hx hb dX8_againstOnFloor_1 (by decide) (by decide) (by decide) (by decide) ?_
  refine lv_aload_n hx hb dX8_againstOnFloor_91 rfl (lv_at hl 0 rfl) ?_
  refine va_get (D := G) (ci := 0) (v := .ref h1) (C := RX0) (T := TX0) (N := 11) hx hb hts iX0 hown hK hP 0 rfl rfl 0 (by decide) (hw (.fieldLink RX8 34 "MotionFloor$Assembly" "house" "LMotionFloor$House;") (List.mem_of_getElem? (i := 0) rfl)) (fun _ h9 => h9) rfl dX8_againstOnFloor_92 ?_
  refine lv_iload_n hx hb dX8_againstOnFloor_95 rfl (lv_at hl 2 rfl) ?_
  have hPc := hP.sub (ws' := [(h1, .inr (1, [.int 1, .ref h2, .int 0, .int (-1), .int 0, .int 0, .int (-1), .ref h9])), (h2, .inl (K 1, 200, .inl (fun _ => 0)))]) [1, 2] rfl
  have hDc := hD.sub (ws' := [(h1, .inr (1, [.int 1, .ref h2, .int 0, .int (-1), .int 0, .int 0, .int (-1), .ref h9])), (h2, .inl (K 1, 200, .inl (fun _ => 0)))]) [1, 2] (by decide) rfl
  refine wGoi (wc := [(h1, .inr (1, [.int 1, .ref h2, .int 0, .int (-1), .int 0, .int 0, .int (-1), .ref h9])), (h2, .inl (K 1, 200, .inl (fun _ => 0)))]) (wr := [(h0, .inr (0, [.ref h1, .ref h3, .ref h4, .ref h5, .ref h6, .ref h7, .ref h8, .int 0, .int 0, .int 0, .null]))]) (va_runS (As := [.ref h1, .int p0]) (rest := []) ⟨hx, hb, hml, hown, hts⟩ (m_X8_againstAbsent_0 l G K h1 h2 h9 p0 _) (va_cwS 2 hts (wGS t_ (mw (.methodLink RX8 42 yX8_againstAbsent) (List.mem_of_getElem? (i := 1) rfl)) (mw (.static yX8_againstAbsent) (List.mem_of_getElem? (i := 2) rfl)) (mw (.initialized RX8) (List.mem_of_getElem? (i := 3) rfl)) j_X8_againstAbsent_0) rfl rfl rfl (by decide +kernel) ⟨Nat.le_of_ble_eq_true rfl, Nat.le_of_ble_eq_true rfl⟩) (wPS hK hE hPc hDc) rfl rfl hl.1 rfl (lv_room (Nat.le_of_ble_eq_true rfl)) dX8_againstOnFloor_96 ⟨Nat.le_of_ble_eq_true rfl, Nat.le_of_ble_eq_true rfl⟩) hP hD hS hA [1, 2] [0] rfl rfl rfl (by decide) (fun r u H locs hw hP hD hS => ?_)
  rcases hw with ⟨c_w, rfl, rfl⟩ | ⟨c_w, rfl, rfl⟩
  · have c1 := c_w
    have hP : va_P G vwCl [(h0, .inr (0, [.ref h1, .ref h3, .ref h4, .ref h5, .ref h6, .ref h7, .ref h8, .int 0, .int 0, .int 0, .null])), (h1, .inr (1, [.int 1, .ref h2, .int 0, .int (-1), .int 0, .int 0, .int (-1), .ref h9])), (h2, .inl (K 1, 200, .inl (fun _ => 0)))] _ := hP
    have hD : va_D A [(h0, .inr (0, [.ref h1, .ref h3, .ref h4, .ref h5, .ref h6, .ref h7, .ref h8, .int 0, .int 0, .int 0, .null])), (h1, .inr (1, [.int 1, .ref h2, .int 0, .int (-1), .int 0, .int 0, .int (-1), .ref h9])), (h2, .inl (K 1, 200, .inl (fun _ => 0)))] := hD
    have hP9 : va_P G vwCl [(h0, .inr (0, [.ref h1, .ref h3, .ref h4, .ref h5, .ref h6, .ref h7, .ref h8, .int 0, .int 0, .int 0, .null])), (h1, .inr (1, [.int 1, .ref h2, .int 0, .int (-1), .int 0, .int 0, .int (-1), .ref h9])), (h2, .inl (K 1, 200, .inl (fun _ => 0)))] _ := hP
    have hD9 : va_D A [(h0, .inr (0, [.ref h1, .ref h3, .ref h4, .ref h5, .ref h6, .ref h7, .ref h8, .int 0, .int 0, .int 0, .null])), (h1, .inr (1, [.int 1, .ref h2, .int 0, .int (-1), .int 0, .int 0, .int (-1), .ref h9])), (h2, .inl (K 1, 200, .inl (fun _ => 0)))] := hD
    exact W.iret (v := 9) hx hb hr (fun t ht hW => ⟨⟨9, _, rfl, Or.inl ⟨(by first | omega | decide | simp), rfl, rfl⟩, by rw [ht]; exact hP9, hD9⟩, hS.F ht⟩) hS.2.2 dX8_againstOnFloor_99
  · have c2 := c_w
    have hP : va_P G vwCl [(h0, .inr (0, [.ref h1, .ref h3, .ref h4, .ref h5, .ref h6, .ref h7, .ref h8, .int 0, .int 0, .int 0, .null])), (h1, .inr (1, [.int 1, .ref h2, .int 0, .int (-1), .int 0, .int 0, .int (-1), .ref h9])), (h2, .inl (K 1, 200, .inl (fun _ => 0)))] _ := hP
    have hD : va_D A [(h0, .inr (0, [.ref h1, .ref h3, .ref h4, .ref h5, .ref h6, .ref h7, .ref h8, .int 0, .int 0, .int 0, .null])), (h1, .inr (1, [.int 1, .ref h2, .int 0, .int (-1), .int 0, .int 0, .int (-1), .ref h9])), (h2, .inl (K 1, 200, .inl (fun _ => 0)))] := hD
    obtain rfl : p0 = 0 := wIs (b := 0) (by decide) (by omega)
    have z_0 : (0 : Int32).toInt = 0 := by decide
    have hP9 : va_P G vwCl [(h0, .inr (0, [.ref h1, .ref h3, .ref h4, .ref h5, .ref h6, .ref h7, .ref h8, .int 0, .int 0, .int 0, .null])), (h1, .inr (1, [.int 1, .ref h2, .int 0, .int (-1), .int 0, .int 0, .int (-1), .ref h9])), (h2, .inl (K 1, 200, .inl (fun _ => 0)))] _ := hP
    have hD9 : va_D A [(h0, .inr (0, [.ref h1, .ref h3, .ref h4, .ref h5, .ref h6, .ref h7, .ref h8, .int 0, .int 0, .int 0, .null])), (h1, .inr (1, [.int 1, .ref h2, .int 0, .int (-1), .int 0, .int 0, .int (-1), .ref h9])), (h2, .inl (K 1, 200, .inl (fun _ => 0)))] := hD
    exact W.iret (v := 8) hx hb hr (fun t ht hW => ⟨⟨8, _, rfl, Or.inr (⟨(by first | omega | decide | simp), rfl, rfl⟩), by rw [ht]; exact hP9, hD9⟩, hS.F ht⟩) hS.2.2 dX8_againstOnFloor_99
def e_X8_against_3 : List Cond := [.methodLink RX8 9 yX8_againstOnFloor, .static yX8_againstOnFloor, .initialized RX8]
def v_X8_against_3 : List Cond := .code yX8_against cX8_against 7 (some .int) :: (e_X8_against_3 ++ (v_X8_againstOnFloor_3 ++ []))
theorem te_X8_against_3 : GoodIn lw_tbl e_X8_against_3 := wGc z309 (wGc z308 (wGc z297 (wG0)))
theorem t_X8_against_3 : GoodIn lw_tbl v_X8_against_3 := wGc z310 (wGa te_X8_against_3 (wGa t_X8_againstOnFloor_3 (wG0)))
set_option maxHeartbeats 4000000 in
set_option maxRecDepth 100000 in
theorem m_X8_against_3 (l : Launch) (G : va_G) (K : Nat → ClassId) (h0 h1 h2 h3 h4 h5 h6 h7 h8 h9 : Nat) (p0 : Int32) (sz : Nat) : Met l yX8_against v_X8_against_3 ({ frames := 3, cells := 0, slots := 0, locals := 65 }) (va_Pc [.ref h0, .int 4, .int p0, .int 0, .int 0, .int 0] (wS G K sz [(h0, .inr (0, [.ref h1, .ref h3, .ref h4, .ref h5, .ref h6, .ref h7, .ref h8, .int 0, .int 0, .int 0, .null])), (h1, .inr (1, [.int 1, .ref h2, .int 0, .int (-1), .int 0, .int 0, .int (-1), .ref h9])), (h2, .inl (K 1, 200, .inl (fun _ => 0)))])) (va_Qi (fun (r : Int32) (u : va_W) => (((((p0.toInt < 0 ∨ (p0.toInt ≥ 0 ∧ p0.toInt ≥ 1))))) ∧ 9 = r ∧ u = [(h0, .inr (0, [.ref h1, .ref h3, .ref h4, .ref h5, .ref h6, .ref h7, .ref h8, .int 0, .int 0, .int 0, .null])), (h1, .inr (1, [.int 1, .ref h2, .int 0, .int (-1), .int 0, .int 0, .int (-1), .ref h9])), (h2, .inl (K 1, 200, .inl (fun _ => 0)))]) ∨ ((((((p0.toInt ≥ 0 ∧ p0.toInt < 1))))) ∧ 8 = r ∧ u = [(h0, .inr (0, [.ref h1, .ref h3, .ref h4, .ref h5, .ref h6, .ref h7, .ref h8, .int 0, .int 0, .int 0, .null])), (h1, .inr (1, [.int 1, .ref h2, .int 0, .int (-1), .int 0, .int 0, .int (-1), .ref h9])), (h2, .inl (K 1, 200, .inl (fun _ => 0)))])) (wB G (va_A [(h0, .inr (0, [.ref h1, .ref h3, .ref h4, .ref h5, .ref h6, .ref h7, .ref h8, .int 0, .int 0, .int 0, .null])), (h1, .inr (1, [.int 1, .ref h2, .int 0, .int (-1), .int 0, .int 0, .int (-1), .ref h9])), (h2, .inl (K 1, 200, .inl (fun _ => 0)))] sz)) (va_A [(h0, .inr (0, [.ref h1, .ref h3, .ref h4, .ref h5, .ref h6, .ref h7, .ref h8, .int 0, .int 0, .int 0, .null])), (h1, .inr (1, [.int 1, .ref h2, .int 0, .int (-1), .int 0, .int 0, .int (-1), .ref h9])), (h2, .inl (K 1, 200, .inl (fun _ => 0)))] sz)) 0 0 (va_A [(h0, .inr (0, [.ref h1, .ref h3, .ref h4, .ref h5, .ref h6, .ref h7, .ref h8, .int 0, .int 0, .int 0, .null])), (h1, .inr (1, [.int 1, .ref h2, .int 0, .int (-1), .int 0, .int 0, .int (-1), .ref h9])), (h2, .inl (K 1, 200, .inl (fun _ => 0)))] sz) := by
  refine Met.ofW (cc := cX8_against) (maxL := 7) (ret := (some .int)) (by decide) rfl ?_
  intro p e s m args below meth c s₁ B hml hv
  obtain ⟨rfl, hsz, hP, hK, hD0, hE⟩ := hv
  have hx := B.exec
  have hb := B.bytes
  have hr := B.returns
  have hts := atoms_spec (ws := v_X8_against_3) B.pre
  have t_ := t_X8_against_3
  have mw : ∀ w ∈ e_X8_against_3, w ∈ v_X8_against_3 := fun w h => List.mem_cons_of_mem _ (List.mem_append_left _ h)
  have hw := fun w (h : w ∈ e_X8_against_3) => hts w (mw w h)
  have j_X8_againstOnFloor_3 : ∀ w ∈ v_X8_againstOnFloor_3, w ∈ v_X8_against_3 := fun w h => List.mem_cons_of_mem _ (List.mem_append_right _ (List.mem_append_left _ h))
  have hown : s.vm.findClass RX8 = some m.cls := findClass_of_methodNamed B.named
  have hlocks := B.notSynchronized
  subst hsz
  have hD := hD0.self (sz := s.heap.size)
  generalize hAe : va_A [(h0, .inr (0, [.ref h1, .ref h3, .ref h4, .ref h5, .ref h6, .ref h7, .ref h8, .int 0, .int 0, .int 0, .null])), (h1, .inr (1, [.int 1, .ref h2, .int 0, .int (-1), .int 0, .int 0, .int (-1), .ref h9])), (h2, .inl (K 1, 200, .inl (fun _ => 0)))] s.heap.size = A at hD ⊢
  have hA : ∀ q : Nat, s.heap.size ≤ q → A q := fun q h => by rw [← hAe]; exact Or.inr h
  have hS : va_S A s.heap s.heap [] := va_S.rf
  have hP : va_P G vwCl [(h0, .inr (0, [.ref h1, .ref h3, .ref h4, .ref h5, .ref h6, .ref h7, .ref h8, .int 0, .int 0, .int 0, .null])), (h1, .inr (1, [.int 1, .ref h2, .int 0, .int (-1), .int 0, .int 0, .int (-1), .ref h9])), (h2, .inl (K 1, 200, .inl (fun _ => 0)))] s.heap := hP
  have hl := lv_entry ([.ref h0, .int 4, .int p0, .int 0, .int 0, .int 0]) (n := 7) (Nat.le_of_ble_eq_true rfl)
  rw [lg_entry_eq]
  generalize (lg_sl ([.ref h0, .int 4, .int p0, .int 0, .int 0, .int 0]) ++ List.replicate (7 - (lg_sl ([.ref h0, .int 4, .int p0, .int 0, .int 0, .int 0])).length) Slot.unset).toArray = ls at hl ⊢
  have hl : lv_has ls 7 [(0, .ref h0), (1, .int 4), (2, .int p0), (3, .int 0), (4, .int 0), (5, .int 0)] := hl
  refine lv_iload_n hx hb dX8_against_0 rfl (lv_at hl 1 rfl) ?_
  refine lv_bipush (v := 9) hx hb dX8_against_1 (by decide) ?_
  refine lv_icmp_gt (tgt := 18) hx hb dX8_against_3 (by decide) (fun c_ => absurd c_ (by decide)) (fun _ => ?_)
  refine lv_aload_n hx hb dX8_against_6 rfl (lv_at hl 0 rfl) ?_
  refine lv_iload_n hx hb dX8_against_7 rfl (lv_at hl 1 rfl) ?_
  refine lv_iload_n hx hb dX8_against_8 rfl (lv_at hl 2 rfl) ?_
  refine lv_iload_n hx hb dX8_against_9 rfl (lv_at hl 3 rfl) ?_
  have hPc := hP.sub (ws' := [(h0, .inr (0, [.ref h1, .ref h3, .ref h4, .ref h5, .ref h6, .ref h7, .ref h8, .int 0, .int 0, .int 0, .null])), (h1, .inr (1, [.int 1, .ref h2, .int 0, .int (-1), .int 0, .int 0, .int (-1), .ref h9])), (h2, .inl (K 1, 200, .inl (fun _ => 0)))]) [0, 1, 2] rfl
  have hDc := hD.sub (ws' := [(h0, .inr (0, [.ref h1, .ref h3, .ref h4, .ref h5, .ref h6, .ref h7, .ref h8, .int 0, .int 0, .int 0, .null])), (h1, .inr (1, [.int 1, .ref h2, .int 0, .int (-1), .int 0, .int 0, .int (-1), .ref h9])), (h2, .inl (K 1, 200, .inl (fun _ => 0)))]) [0, 1, 2] (by decide) rfl
  refine wGoi (wc := [(h0, .inr (0, [.ref h1, .ref h3, .ref h4, .ref h5, .ref h6, .ref h7, .ref h8, .int 0, .int 0, .int 0, .null])), (h1, .inr (1, [.int 1, .ref h2, .int 0, .int (-1), .int 0, .int 0, .int (-1), .ref h9])), (h2, .inl (K 1, 200, .inl (fun _ => 0)))]) (wr := []) (va_runS (As := [.ref h0, .int 4, .int p0, .int 0]) (rest := []) ⟨hx, hb, hml, hown, hts⟩ (m_X8_againstOnFloor_3 l G K h0 h1 h2 h3 h4 h5 h6 h7 h8 h9 p0 _) (va_cwS 4 hts (wGS t_ (mw (.methodLink RX8 9 yX8_againstOnFloor) (List.mem_of_getElem? (i := 0) rfl)) (mw (.static yX8_againstOnFloor) (List.mem_of_getElem? (i := 1) rfl)) (mw (.initialized RX8) (List.mem_of_getElem? (i := 2) rfl)) j_X8_againstOnFloor_3) rfl rfl rfl (by decide +kernel) ⟨Nat.le_of_ble_eq_true rfl, Nat.le_of_ble_eq_true rfl⟩) (wPS hK hE hPc hDc) rfl rfl hl.1 rfl (lv_room (Nat.le_of_ble_eq_true rfl)) dX8_against_10 ⟨Nat.le_of_ble_eq_true rfl, Nat.le_of_ble_eq_true rfl⟩) hP hD hS hA [0, 1, 2] [] rfl rfl rfl (by decide) (fun r u H locs hw hP hD hS => ?_)
  rcases hw with ⟨c_w, rfl, rfl⟩ | ⟨c_w, rfl, rfl⟩
  · have c1 := c_w
    have hP : va_P G vwCl [(h0, .inr (0, [.ref h1, .ref h3, .ref h4, .ref h5, .ref h6, .ref h7, .ref h8, .int 0, .int 0, .int 0, .null])), (h1, .inr (1, [.int 1, .ref h2, .int 0, .int (-1), .int 0, .int 0, .int (-1), .ref h9])), (h2, .inl (K 1, 200, .inl (fun _ => 0)))] _ := hP
    have hD : va_D A [(h0, .inr (0, [.ref h1, .ref h3, .ref h4, .ref h5, .ref h6, .ref h7, .ref h8, .int 0, .int 0, .int 0, .null])), (h1, .inr (1, [.int 1, .ref h2, .int 0, .int (-1), .int 0, .int 0, .int (-1), .ref h9])), (h2, .inl (K 1, 200, .inl (fun _ => 0)))] := hD
    refine lv_istore (lv' := [(6, .int 9), (0, .ref h0), (1, .int 4), (2, .int p0), (3, .int 0), (4, .int 0), (5, .int 0)]) hx hb dX8_against_13 hl (by decide) rfl (fun ls hl => ?_)
    refine lv_goto (tgt := 49) hx hb dX8_against_15 (by decide) ?_
    refine lv_iload hx hb dX8_against_49 (lv_at hl 0 rfl) ?_
    refine lv_if_ne (tgt := 69) hx hb dX8_against_51 (by decide) (fun _ => ?_) (fun c_ => absurd c_ (by decide))
    refine lv_iload hx hb dX8_against_69 (lv_at hl 0 rfl) ?_
    have hP9 : va_P G vwCl [(h0, .inr (0, [.ref h1, .ref h3, .ref h4, .ref h5, .ref h6, .ref h7, .ref h8, .int 0, .int 0, .int 0, .null])), (h1, .inr (1, [.int 1, .ref h2, .int 0, .int (-1), .int 0, .int 0, .int (-1), .ref h9])), (h2, .inl (K 1, 200, .inl (fun _ => 0)))] _ := hP
    have hD9 : va_D A [(h0, .inr (0, [.ref h1, .ref h3, .ref h4, .ref h5, .ref h6, .ref h7, .ref h8, .int 0, .int 0, .int 0, .null])), (h1, .inr (1, [.int 1, .ref h2, .int 0, .int (-1), .int 0, .int 0, .int (-1), .ref h9])), (h2, .inl (K 1, 200, .inl (fun _ => 0)))] := hD
    exact W.iret (v := 9) hx hb hr (fun t ht hW => ⟨⟨9, _, rfl, Or.inl ⟨(by first | omega | decide | simp), rfl, rfl⟩, by rw [ht]; exact hP9, hD9⟩, hS.F ht⟩) hS.2.2 dX8_against_71
  · have c2 := c_w
    have hP : va_P G vwCl [(h0, .inr (0, [.ref h1, .ref h3, .ref h4, .ref h5, .ref h6, .ref h7, .ref h8, .int 0, .int 0, .int 0, .null])), (h1, .inr (1, [.int 1, .ref h2, .int 0, .int (-1), .int 0, .int 0, .int (-1), .ref h9])), (h2, .inl (K 1, 200, .inl (fun _ => 0)))] _ := hP
    have hD : va_D A [(h0, .inr (0, [.ref h1, .ref h3, .ref h4, .ref h5, .ref h6, .ref h7, .ref h8, .int 0, .int 0, .int 0, .null])), (h1, .inr (1, [.int 1, .ref h2, .int 0, .int (-1), .int 0, .int 0, .int (-1), .ref h9])), (h2, .inl (K 1, 200, .inl (fun _ => 0)))] := hD
    obtain rfl : p0 = 0 := wIs (b := 0) (by decide) (by omega)
    have z_0 : (0 : Int32).toInt = 0 := by decide
    refine lv_istore (lv' := [(6, .int 8), (0, .ref h0), (1, .int 4), (2, .int 0), (3, .int 0), (4, .int 0), (5, .int 0)]) hx hb dX8_against_13 hl (by decide) rfl (fun ls hl => ?_)
    refine lv_goto (tgt := 49) hx hb dX8_against_15 (by decide) ?_
    refine lv_iload hx hb dX8_against_49 (lv_at hl 0 rfl) ?_
    refine lv_if_ne (tgt := 69) hx hb dX8_against_51 (by decide) (fun _ => ?_) (fun c_ => absurd c_ (by decide))
    refine lv_iload hx hb dX8_against_69 (lv_at hl 0 rfl) ?_
    have hP9 : va_P G vwCl [(h0, .inr (0, [.ref h1, .ref h3, .ref h4, .ref h5, .ref h6, .ref h7, .ref h8, .int 0, .int 0, .int 0, .null])), (h1, .inr (1, [.int 1, .ref h2, .int 0, .int (-1), .int 0, .int 0, .int (-1), .ref h9])), (h2, .inl (K 1, 200, .inl (fun _ => 0)))] _ := hP
    have hD9 : va_D A [(h0, .inr (0, [.ref h1, .ref h3, .ref h4, .ref h5, .ref h6, .ref h7, .ref h8, .int 0, .int 0, .int 0, .null])), (h1, .inr (1, [.int 1, .ref h2, .int 0, .int (-1), .int 0, .int 0, .int (-1), .ref h9])), (h2, .inl (K 1, 200, .inl (fun _ => 0)))] := hD
    exact W.iret (v := 8) hx hb hr (fun t ht hW => ⟨⟨8, _, rfl, Or.inr (⟨(by first | omega | decide | simp), rfl, rfl⟩), by rw [ht]; exact hP9, hD9⟩, hS.F ht⟩) hS.2.2 dX8_against_71
def e_X0_enact_3 : List Cond := [.methodLink RX0 155 yX8_against, .static yX8_against, .initialized RX8, .fieldLink RX0 73 "MotionFloor$Assembly" "reason" "I"]
def v_X0_enact_3 : List Cond := .code yX0_enact cX0_enact 7 (some .int) :: (e_X0_enact_3 ++ (wsX00 ++ (v_X8_against_3 ++ [])))
theorem te_X0_enact_3 : GoodIn lw_tbl e_X0_enact_3 := wGc z345 (wGc z344 (wGc z297 (wGc z263 (wG0))))
theorem t_X0_enact_3 : GoodIn lw_tbl v_X0_enact_3 := wGc z346 (wGa te_X0_enact_3 (wGa zcX0 (wGa t_X8_against_3 (wG0))))
set_option maxHeartbeats 4000000 in
set_option maxRecDepth 100000 in
theorem m_X0_enact_3 (l : Launch) (G : va_G) (K : Nat → ClassId) (h0 h1 h2 h3 h4 h5 h6 h7 h8 h9 : Nat) (p0 : Int32) (sz : Nat) : Met l yX0_enact v_X0_enact_3 ({ frames := 4, cells := 0, slots := 0, locals := 91 }) (va_Pc [.ref h0, .int 4, .int p0, .int 0, .int 0, .int 0] (wS G K sz [(h0, .inr (0, [.ref h1, .ref h3, .ref h4, .ref h5, .ref h6, .ref h7, .ref h8, .int 0, .int 0, .int 0, .null])), (h1, .inr (1, [.int 1, .ref h2, .int 0, .int (-1), .int 0, .int 0, .int (-1), .ref h9])), (h2, .inl (K 1, 200, .inl (fun _ => 0)))])) (va_Qi (fun (r : Int32) (u : va_W) => ((((((p0.toInt < 0 ∨ (p0.toInt ≥ 0 ∧ p0.toInt ≥ 1)))))) ∧ (-9) = r ∧ u = [(h0, .inr (0, [.ref h1, .ref h3, .ref h4, .ref h5, .ref h6, .ref h7, .ref h8, .int 0, .int 0, .int 9, .null])), (h1, .inr (1, [.int 1, .ref h2, .int 0, .int (-1), .int 0, .int 0, .int (-1), .ref h9])), (h2, .inl (K 1, 200, .inl (fun _ => 0)))]) ∨ (((((((p0.toInt ≥ 0 ∧ p0.toInt < 1)))))) ∧ (-8) = r ∧ u = [(h0, .inr (0, [.ref h1, .ref h3, .ref h4, .ref h5, .ref h6, .ref h7, .ref h8, .int 0, .int 0, .int 8, .null])), (h1, .inr (1, [.int 1, .ref h2, .int 0, .int (-1), .int 0, .int 0, .int (-1), .ref h9])), (h2, .inl (K 1, 200, .inl (fun _ => 0)))])) (wB G (va_A [(h0, .inr (0, [.ref h1, .ref h3, .ref h4, .ref h5, .ref h6, .ref h7, .ref h8, .int 0, .int 0, .int 0, .null])), (h1, .inr (1, [.int 1, .ref h2, .int 0, .int (-1), .int 0, .int 0, .int (-1), .ref h9])), (h2, .inl (K 1, 200, .inl (fun _ => 0)))] sz)) (va_A [(h0, .inr (0, [.ref h1, .ref h3, .ref h4, .ref h5, .ref h6, .ref h7, .ref h8, .int 0, .int 0, .int 0, .null])), (h1, .inr (1, [.int 1, .ref h2, .int 0, .int (-1), .int 0, .int 0, .int (-1), .ref h9])), (h2, .inl (K 1, 200, .inl (fun _ => 0)))] sz)) 0 0 (va_A [(h0, .inr (0, [.ref h1, .ref h3, .ref h4, .ref h5, .ref h6, .ref h7, .ref h8, .int 0, .int 0, .int 0, .null])), (h1, .inr (1, [.int 1, .ref h2, .int 0, .int (-1), .int 0, .int 0, .int (-1), .ref h9])), (h2, .inl (K 1, 200, .inl (fun _ => 0)))] sz) := by
  refine Met.ofW (cc := cX0_enact) (maxL := 7) (ret := (some .int)) (by decide) rfl ?_
  intro p e s m args below meth c s₁ B hml hv
  obtain ⟨rfl, hsz, hP, hK, hD0, hE⟩ := hv
  have hx := B.exec
  have hb := B.bytes
  have hr := B.returns
  have hts := atoms_spec (ws := v_X0_enact_3) B.pre
  have t_ := t_X0_enact_3
  have mw : ∀ w ∈ e_X0_enact_3, w ∈ v_X0_enact_3 := fun w h => List.mem_cons_of_mem _ (List.mem_append_left _ h)
  have hw := fun w (h : w ∈ e_X0_enact_3) => hts w (mw w h)
  have iX0 : ∀ w ∈ wsX00, w ∈ v_X0_enact_3 := fun w h => List.mem_cons_of_mem _ (List.mem_append_right _ (List.mem_append_left _ h))
  have j_X8_against_3 : ∀ w ∈ v_X8_against_3, w ∈ v_X0_enact_3 := fun w h => List.mem_cons_of_mem _ (List.mem_append_right _ (List.mem_append_right _ (List.mem_append_left _ h)))
  have hown : s.vm.findClass RX0 = some m.cls := findClass_of_methodNamed B.named
  have hlocks := B.notSynchronized
  subst hsz
  have hD := hD0.self (sz := s.heap.size)
  generalize hAe : va_A [(h0, .inr (0, [.ref h1, .ref h3, .ref h4, .ref h5, .ref h6, .ref h7, .ref h8, .int 0, .int 0, .int 0, .null])), (h1, .inr (1, [.int 1, .ref h2, .int 0, .int (-1), .int 0, .int 0, .int (-1), .ref h9])), (h2, .inl (K 1, 200, .inl (fun _ => 0)))] s.heap.size = A at hD ⊢
  have hA : ∀ q : Nat, s.heap.size ≤ q → A q := fun q h => by rw [← hAe]; exact Or.inr h
  have hS : va_S A s.heap s.heap [] := va_S.rf
  have hP : va_P G vwCl [(h0, .inr (0, [.ref h1, .ref h3, .ref h4, .ref h5, .ref h6, .ref h7, .ref h8, .int 0, .int 0, .int 0, .null])), (h1, .inr (1, [.int 1, .ref h2, .int 0, .int (-1), .int 0, .int 0, .int (-1), .ref h9])), (h2, .inl (K 1, 200, .inl (fun _ => 0)))] s.heap := hP
  have hl := lv_entry ([.ref h0, .int 4, .int p0, .int 0, .int 0, .int 0]) (n := 7) (Nat.le_of_ble_eq_true rfl)
  rw [lg_entry_eq]
  generalize (lg_sl ([.ref h0, .int 4, .int p0, .int 0, .int 0, .int 0]) ++ List.replicate (7 - (lg_sl ([.ref h0, .int 4, .int p0, .int 0, .int 0, .int 0])).length) Slot.unset).toArray = ls at hl ⊢
  have hl : lv_has ls 7 [(0, .ref h0), (1, .int 4), (2, .int p0), (3, .int 0), (4, .int 0), (5, .int 0)] := hl
  refine lv_aload_n hx hb dX0_enact_0 rfl (lv_at hl 0 rfl) ?_
  refine lv_aload_n hx hb dX0_enact_1 rfl (lv_at hl 0 rfl) ?_
  refine lv_iload_n hx hb dX0_enact_2 rfl (lv_at hl 1 rfl) ?_
  refine lv_iload_n hx hb dX0_enact_3 rfl (lv_at hl 2 rfl) ?_
  refine lv_iload_n hx hb dX0_enact_4 rfl (lv_at hl 3 rfl) ?_
  refine lv_iload hx hb dX0_enact_5 (lv_at hl 4 rfl) ?_
  refine lv_iload hx hb dX0_enact_7 (lv_at hl 5 rfl) ?_
  have hPc := hP.sub (ws' := [(h0, .inr (0, [.ref h1, .ref h3, .ref h4, .ref h5, .ref h6, .ref h7, .ref h8, .int 0, .int 0, .int 0, .null])), (h1, .inr (1, [.int 1, .ref h2, .int 0, .int (-1), .int 0, .int 0, .int (-1), .ref h9])), (h2, .inl (K 1, 200, .inl (fun _ => 0)))]) [0, 1, 2] rfl
  have hDc := hD.sub (ws' := [(h0, .inr (0, [.ref h1, .ref h3, .ref h4, .ref h5, .ref h6, .ref h7, .ref h8, .int 0, .int 0, .int 0, .null])), (h1, .inr (1, [.int 1, .ref h2, .int 0, .int (-1), .int 0, .int 0, .int (-1), .ref h9])), (h2, .inl (K 1, 200, .inl (fun _ => 0)))]) [0, 1, 2] (by decide) rfl
  refine wGoi (wc := [(h0, .inr (0, [.ref h1, .ref h3, .ref h4, .ref h5, .ref h6, .ref h7, .ref h8, .int 0, .int 0, .int 0, .null])), (h1, .inr (1, [.int 1, .ref h2, .int 0, .int (-1), .int 0, .int 0, .int (-1), .ref h9])), (h2, .inl (K 1, 200, .inl (fun _ => 0)))]) (wr := []) (va_runS (As := [.ref h0, .int 4, .int p0, .int 0, .int 0, .int 0]) (rest := [.ref h0]) ⟨hx, hb, hml, hown, hts⟩ (m_X8_against_3 l G K h0 h1 h2 h3 h4 h5 h6 h7 h8 h9 p0 _) (va_cwS 6 hts (wGS t_ (mw (.methodLink RX0 155 yX8_against) (List.mem_of_getElem? (i := 0) rfl)) (mw (.static yX8_against) (List.mem_of_getElem? (i := 1) rfl)) (mw (.initialized RX8) (List.mem_of_getElem? (i := 2) rfl)) j_X8_against_3) rfl rfl rfl (by decide +kernel) ⟨Nat.le_of_ble_eq_true rfl, Nat.le_of_ble_eq_true rfl⟩) (wPS hK hE hPc hDc) rfl rfl hl.1 rfl (lv_room (Nat.le_of_ble_eq_true rfl)) dX0_enact_9 ⟨Nat.le_of_ble_eq_true rfl, Nat.le_of_ble_eq_true rfl⟩) hP hD hS hA [0, 1, 2] [] rfl rfl rfl (by decide) (fun r u H locs hw hP hD hS => ?_)
  rcases hw with ⟨c_w, rfl, rfl⟩ | ⟨c_w, rfl, rfl⟩
  · have c1 := c_w
    have hP : va_P G vwCl [(h0, .inr (0, [.ref h1, .ref h3, .ref h4, .ref h5, .ref h6, .ref h7, .ref h8, .int 0, .int 0, .int 0, .null])), (h1, .inr (1, [.int 1, .ref h2, .int 0, .int (-1), .int 0, .int 0, .int (-1), .ref h9])), (h2, .inl (K 1, 200, .inl (fun _ => 0)))] _ := hP
    have hD : va_D A [(h0, .inr (0, [.ref h1, .ref h3, .ref h4, .ref h5, .ref h6, .ref h7, .ref h8, .int 0, .int 0, .int 0, .null])), (h1, .inr (1, [.int 1, .ref h2, .int 0, .int (-1), .int 0, .int 0, .int (-1), .ref h9])), (h2, .inl (K 1, 200, .inl (fun _ => 0)))] := hD
    refine va_put (D := G) (ci := 0) (v := .int 9) (ty := .int) (C := RX0) (T := TX0) (N := 11) hx hb hts iX0 tyX0 tyX0_ok nmX0 hown hK hP hD hS 0 rfl rfl 9 (by decide) (hw (.fieldLink RX0 73 "MotionFloor$Assembly" "reason" "I") (List.mem_of_getElem? (i := 3) rfl)) (fun _ h9 => h9) rfl (by decide +kernel) rfl rfl (Nat.le_of_ble_eq_true rfl) dX0_enact_12 (fun H locs hP hD hS => ?_)
    have hP : va_P G vwCl [(h0, .inr (0, [.ref h1, .ref h3, .ref h4, .ref h5, .ref h6, .ref h7, .ref h8, .int 0, .int 0, .int 9, .null])), (h1, .inr (1, [.int 1, .ref h2, .int 0, .int (-1), .int 0, .int 0, .int (-1), .ref h9])), (h2, .inl (K 1, 200, .inl (fun _ => 0)))] _ := hP
    have hD : va_D A [(h0, .inr (0, [.ref h1, .ref h3, .ref h4, .ref h5, .ref h6, .ref h7, .ref h8, .int 0, .int 0, .int 9, .null])), (h1, .inr (1, [.int 1, .ref h2, .int 0, .int (-1), .int 0, .int 0, .int (-1), .ref h9])), (h2, .inl (K 1, 200, .inl (fun _ => 0)))] := hD
    refine lv_aload_n hx hb dX0_enact_15 rfl (lv_at hl 0 rfl) ?_
    refine va_get (D := G) (ci := 0) (v := .int 9) (C := RX0) (T := TX0) (N := 11) hx hb hts iX0 hown hK hP 0 rfl rfl 9 (by decide) (hw (.fieldLink RX0 73 "MotionFloor$Assembly" "reason" "I") (List.mem_of_getElem? (i := 3) rfl)) (fun _ h9 => h9) rfl dX0_enact_16 ?_
    refine lv_if_eq (tgt := 28) hx hb dX0_enact_19 (by decide) (fun c_ => absurd c_ (by decide)) (fun _ => ?_)
    refine lv_aload_n hx hb dX0_enact_22 rfl (lv_at hl 0 rfl) ?_
    refine va_get (D := G) (ci := 0) (v := .int 9) (C := RX0) (T := TX0) (N := 11) hx hb hts iX0 hown hK hP 0 rfl rfl 9 (by decide) (hw (.fieldLink RX0 73 "MotionFloor$Assembly" "reason" "I") (List.mem_of_getElem? (i := 3) rfl)) (fun _ h9 => h9) rfl dX0_enact_23 ?_
    refine lv_ineg hx hb dX0_enact_26 ?_
    refine wTop (v1 := .int (-9)) (congrArg Value.int (by decide)) ?_
    have hP9 : va_P G vwCl [(h0, .inr (0, [.ref h1, .ref h3, .ref h4, .ref h5, .ref h6, .ref h7, .ref h8, .int 0, .int 0, .int 9, .null])), (h1, .inr (1, [.int 1, .ref h2, .int 0, .int (-1), .int 0, .int 0, .int (-1), .ref h9])), (h2, .inl (K 1, 200, .inl (fun _ => 0)))] _ := hP
    have hD9 : va_D A [(h0, .inr (0, [.ref h1, .ref h3, .ref h4, .ref h5, .ref h6, .ref h7, .ref h8, .int 0, .int 0, .int 9, .null])), (h1, .inr (1, [.int 1, .ref h2, .int 0, .int (-1), .int 0, .int 0, .int (-1), .ref h9])), (h2, .inl (K 1, 200, .inl (fun _ => 0)))] := hD
    exact W.iret (v := (-9)) hx hb hr (fun t ht hW => ⟨⟨(-9), _, rfl, Or.inl ⟨(by first | omega | decide | simp), rfl, rfl⟩, by rw [ht]; exact hP9, hD9⟩, hS.F ht⟩) hS.2.2 dX0_enact_27
  · have c2 := c_w
    have hP : va_P G vwCl [(h0, .inr (0, [.ref h1, .ref h3, .ref h4, .ref h5, .ref h6, .ref h7, .ref h8, .int 0, .int 0, .int 0, .null])), (h1, .inr (1, [.int 1, .ref h2, .int 0, .int (-1), .int 0, .int 0, .int (-1), .ref h9])), (h2, .inl (K 1, 200, .inl (fun _ => 0)))] _ := hP
    have hD : va_D A [(h0, .inr (0, [.ref h1, .ref h3, .ref h4, .ref h5, .ref h6, .ref h7, .ref h8, .int 0, .int 0, .int 0, .null])), (h1, .inr (1, [.int 1, .ref h2, .int 0, .int (-1), .int 0, .int 0, .int (-1), .ref h9])), (h2, .inl (K 1, 200, .inl (fun _ => 0)))] := hD
    obtain rfl : p0 = 0 := wIs (b := 0) (by decide) (by omega)
    have z_0 : (0 : Int32).toInt = 0 := by decide
    refine va_put (D := G) (ci := 0) (v := .int 8) (ty := .int) (C := RX0) (T := TX0) (N := 11) hx hb hts iX0 tyX0 tyX0_ok nmX0 hown hK hP hD hS 0 rfl rfl 9 (by decide) (hw (.fieldLink RX0 73 "MotionFloor$Assembly" "reason" "I") (List.mem_of_getElem? (i := 3) rfl)) (fun _ h9 => h9) rfl (by decide +kernel) rfl rfl (Nat.le_of_ble_eq_true rfl) dX0_enact_12 (fun H locs hP hD hS => ?_)
    have hP : va_P G vwCl [(h0, .inr (0, [.ref h1, .ref h3, .ref h4, .ref h5, .ref h6, .ref h7, .ref h8, .int 0, .int 0, .int 8, .null])), (h1, .inr (1, [.int 1, .ref h2, .int 0, .int (-1), .int 0, .int 0, .int (-1), .ref h9])), (h2, .inl (K 1, 200, .inl (fun _ => 0)))] _ := hP
    have hD : va_D A [(h0, .inr (0, [.ref h1, .ref h3, .ref h4, .ref h5, .ref h6, .ref h7, .ref h8, .int 0, .int 0, .int 8, .null])), (h1, .inr (1, [.int 1, .ref h2, .int 0, .int (-1), .int 0, .int 0, .int (-1), .ref h9])), (h2, .inl (K 1, 200, .inl (fun _ => 0)))] := hD
    refine lv_aload_n hx hb dX0_enact_15 rfl (lv_at hl 0 rfl) ?_
    refine va_get (D := G) (ci := 0) (v := .int 8) (C := RX0) (T := TX0) (N := 11) hx hb hts iX0 hown hK hP 0 rfl rfl 9 (by decide) (hw (.fieldLink RX0 73 "MotionFloor$Assembly" "reason" "I") (List.mem_of_getElem? (i := 3) rfl)) (fun _ h9 => h9) rfl dX0_enact_16 ?_
    refine lv_if_eq (tgt := 28) hx hb dX0_enact_19 (by decide) (fun c_ => absurd c_ (by decide)) (fun _ => ?_)
    refine lv_aload_n hx hb dX0_enact_22 rfl (lv_at hl 0 rfl) ?_
    refine va_get (D := G) (ci := 0) (v := .int 8) (C := RX0) (T := TX0) (N := 11) hx hb hts iX0 hown hK hP 0 rfl rfl 9 (by decide) (hw (.fieldLink RX0 73 "MotionFloor$Assembly" "reason" "I") (List.mem_of_getElem? (i := 3) rfl)) (fun _ h9 => h9) rfl dX0_enact_23 ?_
    refine lv_ineg hx hb dX0_enact_26 ?_
    refine wTop (v1 := .int (-8)) (congrArg Value.int (by decide)) ?_
    have hP9 : va_P G vwCl [(h0, .inr (0, [.ref h1, .ref h3, .ref h4, .ref h5, .ref h6, .ref h7, .ref h8, .int 0, .int 0, .int 8, .null])), (h1, .inr (1, [.int 1, .ref h2, .int 0, .int (-1), .int 0, .int 0, .int (-1), .ref h9])), (h2, .inl (K 1, 200, .inl (fun _ => 0)))] _ := hP
    have hD9 : va_D A [(h0, .inr (0, [.ref h1, .ref h3, .ref h4, .ref h5, .ref h6, .ref h7, .ref h8, .int 0, .int 0, .int 8, .null])), (h1, .inr (1, [.int 1, .ref h2, .int 0, .int (-1), .int 0, .int 0, .int (-1), .ref h9])), (h2, .inl (K 1, 200, .inl (fun _ => 0)))] := hD
    exact W.iret (v := (-8)) hx hb hr (fun t ht hW => ⟨⟨(-8), _, rfl, Or.inr (⟨(by first | omega | decide | simp), rfl, rfl⟩), by rw [ht]; exact hP9, hD9⟩, hS.F ht⟩) hS.2.2 dX0_enact_27
