def e_X11_reason_1 : List Cond := [.methodLink RX11 140 yX11_isSeat, .instanceMethod yX11_isSeat, .selects RX11 yX11_isSeat yX11_isSeat, .initialized RX11, .fieldLink RX11 9 "MotionFloorModel$Hall" "isThere" "[Z"]
def v_X11_reason_1 : List Cond := .code yX11_reason cX11_reason 6 (some .int) :: (e_X11_reason_1 ++ (wsX110 ++ (v_X11_isSeat_0 ++ [])))
theorem te_X11_reason_1 : GoodIn lw_tbl e_X11_reason_1 := wGc z581 (wGc z580 (wGc z579 (wGc z568 (wGc z534 (wG0)))))
theorem t_X11_reason_1 : GoodIn lw_tbl v_X11_reason_1 := wGc z582 (wGa te_X11_reason_1 (wGa zcX11 (wGa t_X11_isSeat_0 (wG0))))
set_option maxHeartbeats 4000000 in
set_option maxRecDepth 100000 in
theorem m_X11_reason_1 (l : Launch) (G : va_G) (K : Nat → ClassId) (h0 h1 h2 h3 h4 h5 h6 h7 h8 h9 h10 h11 h12 h13 h14 h15 h16 h17 h18 h19 h20 h21 h22 h23 h24 h25 h26 h27 : Nat) (p0 : Int32) (sz : Nat) : Met l yX11_reason v_X11_reason_1 ({ frames := 2, cells := 0, slots := 0, locals := 43 }) (va_Pc [.ref h0, .int 2, .int p0, .int 0, .int 0, .int 0] (wS G K sz [(h0, .inr (8, [.int 1, .int 0, .int (-1), .int 0, .int 0, .int (-1), .int 0, .int 0, .int 0, .int 0, .int 0, .ref h1, .ref h2, .ref h3, .ref h4, .ref h5, .ref h6, .ref h7, .ref h8, .ref h9, .ref h10, .ref h11, .ref h12, .ref h13, .ref h14, .ref h15, .ref h16, .ref h17, .ref h18, .ref h19, .int 0, .ref h20, .ref h21, .ref h22, .ref h23, .int 0, .int 0, .ref h24, .ref h25, .int (-1), .ref h26, .ref h27])), (h1, .inl (K 1, 200, .inl (fun _ => 0)))])) (va_Qi (fun (r : Int32) (u : va_W) => ((((p0.toInt < 0 ∨ (p0.toInt ≥ 0 ∧ p0.toInt > 0)))) ∧ r = 9 ∧ u = [(h0, .inr (8, [.int 1, .int 0, .int (-1), .int 0, .int 0, .int (-1), .int 0, .int 0, .int 0, .int 0, .int 0, .ref h1, .ref h2, .ref h3, .ref h4, .ref h5, .ref h6, .ref h7, .ref h8, .ref h9, .ref h10, .ref h11, .ref h12, .ref h13, .ref h14, .ref h15, .ref h16, .ref h17, .ref h18, .ref h19, .int 0, .ref h20, .ref h21, .ref h22, .ref h23, .int 0, .int 0, .ref h24, .ref h25, .int (-1), .ref h26, .ref h27])), (h1, .inl (K 1, 200, .inl (fun _ => 0)))]) ∨ (((((p0.toInt ≥ 0 ∧ p0.toInt ≤ 0)))) ∧ r = 8 ∧ u = [(h0, .inr (8, [.int 1, .int 0, .int (-1), .int 0, .int 0, .int (-1), .int 0, .int 0, .int 0, .int 0, .int 0, .ref h1, .ref h2, .ref h3, .ref h4, .ref h5, .ref h6, .ref h7, .ref h8, .ref h9, .ref h10, .ref h11, .ref h12, .ref h13, .ref h14, .ref h15, .ref h16, .ref h17, .ref h18, .ref h19, .int 0, .ref h20, .ref h21, .ref h22, .ref h23, .int 0, .int 0, .ref h24, .ref h25, .int (-1), .ref h26, .ref h27])), (h1, .inl (K 1, 200, .inl (fun _ => 0)))])) (wB G (va_A [(h0, .inr (8, [.int 1, .int 0, .int (-1), .int 0, .int 0, .int (-1), .int 0, .int 0, .int 0, .int 0, .int 0, .ref h1, .ref h2, .ref h3, .ref h4, .ref h5, .ref h6, .ref h7, .ref h8, .ref h9, .ref h10, .ref h11, .ref h12, .ref h13, .ref h14, .ref h15, .ref h16, .ref h17, .ref h18, .ref h19, .int 0, .ref h20, .ref h21, .ref h22, .ref h23, .int 0, .int 0, .ref h24, .ref h25, .int (-1), .ref h26, .ref h27])), (h1, .inl (K 1, 200, .inl (fun _ => 0)))] sz)) (va_A [(h0, .inr (8, [.int 1, .int 0, .int (-1), .int 0, .int 0, .int (-1), .int 0, .int 0, .int 0, .int 0, .int 0, .ref h1, .ref h2, .ref h3, .ref h4, .ref h5, .ref h6, .ref h7, .ref h8, .ref h9, .ref h10, .ref h11, .ref h12, .ref h13, .ref h14, .ref h15, .ref h16, .ref h17, .ref h18, .ref h19, .int 0, .ref h20, .ref h21, .ref h22, .ref h23, .int 0, .int 0, .ref h24, .ref h25, .int (-1), .ref h26, .ref h27])), (h1, .inl (K 1, 200, .inl (fun _ => 0)))] sz)) 0 0 (va_A [(h0, .inr (8, [.int 1, .int 0, .int (-1), .int 0, .int 0, .int (-1), .int 0, .int 0, .int 0, .int 0, .int 0, .ref h1, .ref h2, .ref h3, .ref h4, .ref h5, .ref h6, .ref h7, .ref h8, .ref h9, .ref h10, .ref h11, .ref h12, .ref h13, .ref h14, .ref h15, .ref h16, .ref h17, .ref h18, .ref h19, .int 0, .ref h20, .ref h21, .ref h22, .ref h23, .int 0, .int 0, .ref h24, .ref h25, .int (-1), .ref h26, .ref h27])), (h1, .inl (K 1, 200, .inl (fun _ => 0)))] sz) := by
  refine Met.ofW (cc := cX11_reason) (maxL := 6) (ret := (some .int)) (by decide) rfl ?_
  intro p e s m args below meth c s₁ B hml hv
  obtain ⟨rfl, hsz, hP, hK, hD0, hE⟩ := hv
  have hx := B.exec
  have hb := B.bytes
  have hr := B.returns
  have hts := atoms_spec (ws := v_X11_reason_1) B.pre
  have t_ := t_X11_reason_1
  have mw : ∀ w ∈ e_X11_reason_1, w ∈ v_X11_reason_1 := fun w h => List.mem_cons_of_mem _ (List.mem_append_left _ h)
  have hw := fun w (h : w ∈ e_X11_reason_1) => hts w (mw w h)
  have iX11 : ∀ w ∈ wsX110, w ∈ v_X11_reason_1 := fun w h => List.mem_cons_of_mem _ (List.mem_append_right _ (List.mem_append_left _ h))
  have j_X11_isSeat_0 : ∀ w ∈ v_X11_isSeat_0, w ∈ v_X11_reason_1 := fun w h => List.mem_cons_of_mem _ (List.mem_append_right _ (List.mem_append_right _ (List.mem_append_left _ h)))
  have hown : s.vm.findClass RX11 = some m.cls := findClass_of_methodNamed B.named
  have hlocks := B.notSynchronized
  subst hsz
  have hD := hD0.self (sz := s.heap.size)
  generalize hAe : va_A [(h0, .inr (8, [.int 1, .int 0, .int (-1), .int 0, .int 0, .int (-1), .int 0, .int 0, .int 0, .int 0, .int 0, .ref h1, .ref h2, .ref h3, .ref h4, .ref h5, .ref h6, .ref h7, .ref h8, .ref h9, .ref h10, .ref h11, .ref h12, .ref h13, .ref h14, .ref h15, .ref h16, .ref h17, .ref h18, .ref h19, .int 0, .ref h20, .ref h21, .ref h22, .ref h23, .int 0, .int 0, .ref h24, .ref h25, .int (-1), .ref h26, .ref h27])), (h1, .inl (K 1, 200, .inl (fun _ => 0)))] s.heap.size = A at hD ⊢
  have hA : ∀ q : Nat, s.heap.size ≤ q → A q := fun q h => by rw [← hAe]; exact Or.inr h
  have hS : va_S A s.heap s.heap [] := va_S.rf
  have hP : va_P G vwCl [(h0, .inr (8, [.int 1, .int 0, .int (-1), .int 0, .int 0, .int (-1), .int 0, .int 0, .int 0, .int 0, .int 0, .ref h1, .ref h2, .ref h3, .ref h4, .ref h5, .ref h6, .ref h7, .ref h8, .ref h9, .ref h10, .ref h11, .ref h12, .ref h13, .ref h14, .ref h15, .ref h16, .ref h17, .ref h18, .ref h19, .int 0, .ref h20, .ref h21, .ref h22, .ref h23, .int 0, .int 0, .ref h24, .ref h25, .int (-1), .ref h26, .ref h27])), (h1, .inl (K 1, 200, .inl (fun _ => 0)))] s.heap := hP
  have hl := lv_entry ([.ref h0, .int 2, .int p0, .int 0, .int 0, .int 0]) (n := 6) (Nat.le_of_ble_eq_true rfl)
  rw [lg_entry_eq]
  generalize (lg_sl ([.ref h0, .int 2, .int p0, .int 0, .int 0, .int 0]) ++ List.replicate (6 - (lg_sl ([.ref h0, .int 2, .int p0, .int 0, .int 0, .int 0])).length) Slot.unset).toArray = ls at hl ⊢
  have hl : lv_has ls 6 [(0, .ref h0), (1, .int 2), (2, .int p0), (3, .int 0), (4, .int 0), (5, .int 0)] := hl
  refine lv_iload_n hx hb dX11_reason_0 rfl (lv_at hl 1 rfl) ?_
  refine lv_tableIn (tgt := 129) hx hb dX11_reason_1 (by decide) (by decide) (by decide) (by decide) ?_
  refine lv_aload_n hx hb dX11_reason_129 rfl (lv_at hl 0 rfl) ?_
  refine lv_iload_n hx hb dX11_reason_130 rfl (lv_at hl 2 rfl) ?_
  have hPc := hP.sub (ws' := [(h0, .inr (8, [.int 1, .int 0, .int (-1), .int 0, .int 0, .int (-1), .int 0, .int 0, .int 0, .int 0, .int 0, .ref h1, .ref h2, .ref h3, .ref h4, .ref h5, .ref h6, .ref h7, .ref h8, .ref h9, .ref h10, .ref h11, .ref h12, .ref h13, .ref h14, .ref h15, .ref h16, .ref h17, .ref h18, .ref h19, .int 0, .ref h20, .ref h21, .ref h22, .ref h23, .int 0, .int 0, .ref h24, .ref h25, .int (-1), .ref h26, .ref h27]))]) [0] rfl
  have hDc := hD.sub (ws' := [(h0, .inr (8, [.int 1, .int 0, .int (-1), .int 0, .int 0, .int (-1), .int 0, .int 0, .int 0, .int 0, .int 0, .ref h1, .ref h2, .ref h3, .ref h4, .ref h5, .ref h6, .ref h7, .ref h8, .ref h9, .ref h10, .ref h11, .ref h12, .ref h13, .ref h14, .ref h15, .ref h16, .ref h17, .ref h18, .ref h19, .int 0, .ref h20, .ref h21, .ref h22, .ref h23, .int 0, .int 0, .ref h24, .ref h25, .int (-1), .ref h26, .ref h27]))]) [0] (by decide) rfl
  refine wGoi (wc := [(h0, .inr (8, [.int 1, .int 0, .int (-1), .int 0, .int 0, .int (-1), .int 0, .int 0, .int 0, .int 0, .int 0, .ref h1, .ref h2, .ref h3, .ref h4, .ref h5, .ref h6, .ref h7, .ref h8, .ref h9, .ref h10, .ref h11, .ref h12, .ref h13, .ref h14, .ref h15, .ref h16, .ref h17, .ref h18, .ref h19, .int 0, .ref h20, .ref h21, .ref h22, .ref h23, .int 0, .int 0, .ref h24, .ref h25, .int (-1), .ref h26, .ref h27]))]) (wr := [(h1, .inl (K 1, 200, .inl (fun _ => 0)))]) (va_runV (As := [.int p0]) (rest := []) ⟨hx, hb, hml, hown, hts⟩ (m_X11_isSeat_0 l G K h0 h1 h2 h3 h4 h5 h6 h7 h8 h9 h10 h11 h12 h13 h14 h15 h16 h17 h18 h19 h20 h21 h22 h23 h24 h25 h26 h27 p0 _) (cwV 1 hts (wGV t_ (mw (.methodLink RX11 140 yX11_isSeat) (List.mem_of_getElem? (i := 0) rfl)) (mw (.instanceMethod yX11_isSeat) (List.mem_of_getElem? (i := 1) rfl)) (mw (.selects RX11 yX11_isSeat yX11_isSeat) (List.mem_of_getElem? (i := 2) rfl)) (mw (.initialized RX11) (List.mem_of_getElem? (i := 3) rfl)) j_X11_isSeat_0) rfl rfl rfl (by decide +kernel) ⟨Nat.le_of_ble_eq_true rfl, Nat.le_of_ble_eq_true rfl⟩) (wPV hK hE hPc hDc 8 0 rfl rfl) rfl rfl hl.1 rfl (lv_room (Nat.le_of_ble_eq_true rfl)) dX11_reason_131 ⟨Nat.le_of_ble_eq_true rfl, Nat.le_of_ble_eq_true rfl⟩) hP hD hS hA [0] [1] rfl rfl rfl (by decide) (fun r u H locs hw hP hD hS => ?_)
  rcases hw with ⟨c_w, rfl, rfl⟩ | ⟨c_w, rfl, rfl⟩
  · have c1 := c_w
    have hP : va_P G vwCl [(h1, .inl (K 1, 200, .inl (fun _ => 0))), (h0, .inr (8, [.int 1, .int 0, .int (-1), .int 0, .int 0, .int (-1), .int 0, .int 0, .int 0, .int 0, .int 0, .ref h1, .ref h2, .ref h3, .ref h4, .ref h5, .ref h6, .ref h7, .ref h8, .ref h9, .ref h10, .ref h11, .ref h12, .ref h13, .ref h14, .ref h15, .ref h16, .ref h17, .ref h18, .ref h19, .int 0, .ref h20, .ref h21, .ref h22, .ref h23, .int 0, .int 0, .ref h24, .ref h25, .int (-1), .ref h26, .ref h27]))] _ := hP
    have hD : va_D A [(h1, .inl (K 1, 200, .inl (fun _ => 0))), (h0, .inr (8, [.int 1, .int 0, .int (-1), .int 0, .int 0, .int (-1), .int 0, .int 0, .int 0, .int 0, .int 0, .ref h1, .ref h2, .ref h3, .ref h4, .ref h5, .ref h6, .ref h7, .ref h8, .ref h9, .ref h10, .ref h11, .ref h12, .ref h13, .ref h14, .ref h15, .ref h16, .ref h17, .ref h18, .ref h19, .int 0, .ref h20, .ref h21, .ref h22, .ref h23, .int 0, .int 0, .ref h24, .ref h25, .int (-1), .ref h26, .ref h27]))] := hD
    refine lv_if_ne (tgt := 142) hx hb dX11_reason_134 (by decide) (fun c_ => absurd c_ (by decide)) (fun _ => ?_)
    refine lv_bipush (v := 9) hx hb dX11_reason_137 (by decide) ?_
    refine lv_goto (tgt := 157) hx hb dX11_reason_139 (by decide) ?_
    have hP9 := hP.sub (ws' := [(h0, .inr (8, [.int 1, .int 0, .int (-1), .int 0, .int 0, .int (-1), .int 0, .int 0, .int 0, .int 0, .int 0, .ref h1, .ref h2, .ref h3, .ref h4, .ref h5, .ref h6, .ref h7, .ref h8, .ref h9, .ref h10, .ref h11, .ref h12, .ref h13, .ref h14, .ref h15, .ref h16, .ref h17, .ref h18, .ref h19, .int 0, .ref h20, .ref h21, .ref h22, .ref h23, .int 0, .int 0, .ref h24, .ref h25, .int (-1), .ref h26, .ref h27])), (h1, .inl (K 1, 200, .inl (fun _ => 0)))]) [1, 0] rfl
    have hD9 := hD.sub (ws' := [(h0, .inr (8, [.int 1, .int 0, .int (-1), .int 0, .int 0, .int (-1), .int 0, .int 0, .int 0, .int 0, .int 0, .ref h1, .ref h2, .ref h3, .ref h4, .ref h5, .ref h6, .ref h7, .ref h8, .ref h9, .ref h10, .ref h11, .ref h12, .ref h13, .ref h14, .ref h15, .ref h16, .ref h17, .ref h18, .ref h19, .int 0, .ref h20, .ref h21, .ref h22, .ref h23, .int 0, .int 0, .ref h24, .ref h25, .int (-1), .ref h26, .ref h27])), (h1, .inl (K 1, 200, .inl (fun _ => 0)))]) [1, 0] (by decide) rfl
    exact W.iret (v := 9) hx hb hr (fun t ht hW => ⟨⟨9, _, rfl, Or.inl ⟨(by first | omega | decide | simp), rfl, rfl⟩, by rw [ht]; exact hP9, hD9⟩, hS.F ht⟩) hS.2.2 dX11_reason_157
  · have c2 := c_w
    have hP : va_P G vwCl [(h1, .inl (K 1, 200, .inl (fun _ => 0))), (h0, .inr (8, [.int 1, .int 0, .int (-1), .int 0, .int 0, .int (-1), .int 0, .int 0, .int 0, .int 0, .int 0, .ref h1, .ref h2, .ref h3, .ref h4, .ref h5, .ref h6, .ref h7, .ref h8, .ref h9, .ref h10, .ref h11, .ref h12, .ref h13, .ref h14, .ref h15, .ref h16, .ref h17, .ref h18, .ref h19, .int 0, .ref h20, .ref h21, .ref h22, .ref h23, .int 0, .int 0, .ref h24, .ref h25, .int (-1), .ref h26, .ref h27]))] _ := hP
    have hD : va_D A [(h1, .inl (K 1, 200, .inl (fun _ => 0))), (h0, .inr (8, [.int 1, .int 0, .int (-1), .int 0, .int 0, .int (-1), .int 0, .int 0, .int 0, .int 0, .int 0, .ref h1, .ref h2, .ref h3, .ref h4, .ref h5, .ref h6, .ref h7, .ref h8, .ref h9, .ref h10, .ref h11, .ref h12, .ref h13, .ref h14, .ref h15, .ref h16, .ref h17, .ref h18, .ref h19, .int 0, .ref h20, .ref h21, .ref h22, .ref h23, .int 0, .int 0, .ref h24, .ref h25, .int (-1), .ref h26, .ref h27]))] := hD
    obtain rfl : p0 = 0 := wIs (b := 0) (by decide) (by omega)
    have z_0 : (0 : Int32).toInt = 0 := by decide
    refine lv_if_ne (tgt := 142) hx hb dX11_reason_134 (by decide) (fun _ => ?_) (fun c_ => absurd c_ (by decide))
    refine lv_aload_n hx hb dX11_reason_142 rfl (lv_at hl 0 rfl) ?_
    refine va_get (D := G) (ci := 8) (v := .ref h1) (C := RX11) (T := TX11) (N := 42) hx hb hts iX11 hown hK hP 1 rfl rfl 11 (by decide) (hw (.fieldLink RX11 9 "MotionFloorModel$Hall" "isThere" "[Z") (List.mem_of_getElem? (i := 4) rfl)) (fun _ h9 => h9) rfl dX11_reason_143 ?_
    refine lv_iload_n hx hb dX11_reason_146 rfl (lv_at hl 2 rfl) ?_
    refine va_zald hx hb hK hP 0 1 rfl rfl (vp_in_iff.mpr (by decide)) dX11_reason_147 ?_
    refine wTop (v1 := .int 0) rfl ?_
    refine lv_if_ne (tgt := 156) hx hb dX11_reason_148 (by decide) (fun c_ => absurd c_ (by decide)) (fun _ => ?_)
    refine lv_bipush (v := 8) hx hb dX11_reason_151 (by decide) ?_
    refine lv_goto (tgt := 157) hx hb dX11_reason_153 (by decide) ?_
    have hP9 := hP.sub (ws' := [(h0, .inr (8, [.int 1, .int 0, .int (-1), .int 0, .int 0, .int (-1), .int 0, .int 0, .int 0, .int 0, .int 0, .ref h1, .ref h2, .ref h3, .ref h4, .ref h5, .ref h6, .ref h7, .ref h8, .ref h9, .ref h10, .ref h11, .ref h12, .ref h13, .ref h14, .ref h15, .ref h16, .ref h17, .ref h18, .ref h19, .int 0, .ref h20, .ref h21, .ref h22, .ref h23, .int 0, .int 0, .ref h24, .ref h25, .int (-1), .ref h26, .ref h27])), (h1, .inl (K 1, 200, .inl (fun _ => 0)))]) [1, 0] rfl
    have hD9 := hD.sub (ws' := [(h0, .inr (8, [.int 1, .int 0, .int (-1), .int 0, .int 0, .int (-1), .int 0, .int 0, .int 0, .int 0, .int 0, .ref h1, .ref h2, .ref h3, .ref h4, .ref h5, .ref h6, .ref h7, .ref h8, .ref h9, .ref h10, .ref h11, .ref h12, .ref h13, .ref h14, .ref h15, .ref h16, .ref h17, .ref h18, .ref h19, .int 0, .ref h20, .ref h21, .ref h22, .ref h23, .int 0, .int 0, .ref h24, .ref h25, .int (-1), .ref h26, .ref h27])), (h1, .inl (K 1, 200, .inl (fun _ => 0)))]) [1, 0] (by decide) rfl
    exact W.iret (v := 8) hx hb hr (fun t ht hW => ⟨⟨8, _, rfl, Or.inr (⟨(by first | omega | decide | simp), rfl, rfl⟩), by rw [ht]; exact hP9, hD9⟩, hS.F ht⟩) hS.2.2 dX11_reason_157
def e_X11_act_1 : List Cond := [.methodLink RX11 196 yX11_reason, .instanceMethod yX11_reason, .selects RX11 yX11_reason yX11_reason, .initialized RX11, .fieldLink RX11 127 "MotionFloorModel$Hall" "why" "I"]
def v_X11_act_1 : List Cond := .code yX11_act cX11_act 10 (some .int) :: (e_X11_act_1 ++ (wsX110 ++ (v_X11_reason_1 ++ [])))
theorem te_X11_act_1 : GoodIn lw_tbl e_X11_act_1 := wGc z591 (wGc z590 (wGc z589 (wGc z568 (wGc z539 (wG0)))))
theorem t_X11_act_1 : GoodIn lw_tbl v_X11_act_1 := wGc z592 (wGa te_X11_act_1 (wGa zcX11 (wGa t_X11_reason_1 (wG0))))
set_option maxHeartbeats 4000000 in
set_option maxRecDepth 100000 in
theorem m_X11_act_1 (l : Launch) (G : va_G) (K : Nat → ClassId) (h0 h1 h2 h3 h4 h5 h6 h7 h8 h9 h10 h11 h12 h13 h14 h15 h16 h17 h18 h19 h20 h21 h22 h23 h24 h25 h26 h27 : Nat) (p0 : Int32) (sz : Nat) : Met l yX11_act v_X11_act_1 ({ frames := 3, cells := 0, slots := 0, locals := 68 }) (va_Pc [.ref h0, .int 2, .int p0, .int 0, .int 0, .int 0] (wS G K sz [(h0, .inr (8, [.int 1, .int 0, .int (-1), .int 0, .int 0, .int (-1), .int 0, .int 0, .int 0, .int 0, .int 0, .ref h1, .ref h2, .ref h3, .ref h4, .ref h5, .ref h6, .ref h7, .ref h8, .ref h9, .ref h10, .ref h11, .ref h12, .ref h13, .ref h14, .ref h15, .ref h16, .ref h17, .ref h18, .ref h19, .int 0, .ref h20, .ref h21, .ref h22, .ref h23, .int 0, .int 0, .ref h24, .ref h25, .int (-1), .ref h26, .ref h27])), (h1, .inl (K 1, 200, .inl (fun _ => 0)))])) (va_Qi (fun (r : Int32) (u : va_W) => (((((p0.toInt < 0 ∨ (p0.toInt ≥ 0 ∧ p0.toInt > 0))))) ∧ r = (-9) ∧ u = [(h0, .inr (8, [.int 1, .int 0, .int (-1), .int 0, .int 0, .int (-1), .int 0, .int 0, .int 0, .int 0, .int 9, .ref h1, .ref h2, .ref h3, .ref h4, .ref h5, .ref h6, .ref h7, .ref h8, .ref h9, .ref h10, .ref h11, .ref h12, .ref h13, .ref h14, .ref h15, .ref h16, .ref h17, .ref h18, .ref h19, .int 0, .ref h20, .ref h21, .ref h22, .ref h23, .int 0, .int 0, .ref h24, .ref h25, .int (-1), .ref h26, .ref h27])), (h1, .inl (K 1, 200, .inl (fun _ => 0)))]) ∨ ((((((p0.toInt ≥ 0 ∧ p0.toInt ≤ 0))))) ∧ r = (-8) ∧ u = [(h0, .inr (8, [.int 1, .int 0, .int (-1), .int 0, .int 0, .int (-1), .int 0, .int 0, .int 0, .int 0, .int 8, .ref h1, .ref h2, .ref h3, .ref h4, .ref h5, .ref h6, .ref h7, .ref h8, .ref h9, .ref h10, .ref h11, .ref h12, .ref h13, .ref h14, .ref h15, .ref h16, .ref h17, .ref h18, .ref h19, .int 0, .ref h20, .ref h21, .ref h22, .ref h23, .int 0, .int 0, .ref h24, .ref h25, .int (-1), .ref h26, .ref h27])), (h1, .inl (K 1, 200, .inl (fun _ => 0)))])) (wB G (va_A [(h0, .inr (8, [.int 1, .int 0, .int (-1), .int 0, .int 0, .int (-1), .int 0, .int 0, .int 0, .int 0, .int 0, .ref h1, .ref h2, .ref h3, .ref h4, .ref h5, .ref h6, .ref h7, .ref h8, .ref h9, .ref h10, .ref h11, .ref h12, .ref h13, .ref h14, .ref h15, .ref h16, .ref h17, .ref h18, .ref h19, .int 0, .ref h20, .ref h21, .ref h22, .ref h23, .int 0, .int 0, .ref h24, .ref h25, .int (-1), .ref h26, .ref h27])), (h1, .inl (K 1, 200, .inl (fun _ => 0)))] sz)) (va_A [(h0, .inr (8, [.int 1, .int 0, .int (-1), .int 0, .int 0, .int (-1), .int 0, .int 0, .int 0, .int 0, .int 0, .ref h1, .ref h2, .ref h3, .ref h4, .ref h5, .ref h6, .ref h7, .ref h8, .ref h9, .ref h10, .ref h11, .ref h12, .ref h13, .ref h14, .ref h15, .ref h16, .ref h17, .ref h18, .ref h19, .int 0, .ref h20, .ref h21, .ref h22, .ref h23, .int 0, .int 0, .ref h24, .ref h25, .int (-1), .ref h26, .ref h27])), (h1, .inl (K 1, 200, .inl (fun _ => 0)))] sz)) 0 0 (va_A [(h0, .inr (8, [.int 1, .int 0, .int (-1), .int 0, .int 0, .int (-1), .int 0, .int 0, .int 0, .int 0, .int 0, .ref h1, .ref h2, .ref h3, .ref h4, .ref h5, .ref h6, .ref h7, .ref h8, .ref h9, .ref h10, .ref h11, .ref h12, .ref h13, .ref h14, .ref h15, .ref h16, .ref h17, .ref h18, .ref h19, .int 0, .ref h20, .ref h21, .ref h22, .ref h23, .int 0, .int 0, .ref h24, .ref h25, .int (-1), .ref h26, .ref h27])), (h1, .inl (K 1, 200, .inl (fun _ => 0)))] sz) := by
  refine Met.ofW (cc := cX11_act) (maxL := 10) (ret := (some .int)) (by decide) rfl ?_
  intro p e s m args below meth c s₁ B hml hv
  obtain ⟨rfl, hsz, hP, hK, hD0, hE⟩ := hv
  have hx := B.exec
  have hb := B.bytes
  have hr := B.returns
  have hts := atoms_spec (ws := v_X11_act_1) B.pre
  have t_ := t_X11_act_1
  have mw : ∀ w ∈ e_X11_act_1, w ∈ v_X11_act_1 := fun w h => List.mem_cons_of_mem _ (List.mem_append_left _ h)
  have hw := fun w (h : w ∈ e_X11_act_1) => hts w (mw w h)
  have iX11 : ∀ w ∈ wsX110, w ∈ v_X11_act_1 := fun w h => List.mem_cons_of_mem _ (List.mem_append_right _ (List.mem_append_left _ h))
  have j_X11_reason_1 : ∀ w ∈ v_X11_reason_1, w ∈ v_X11_act_1 := fun w h => List.mem_cons_of_mem _ (List.mem_append_right _ (List.mem_append_right _ (List.mem_append_left _ h)))
  have hown : s.vm.findClass RX11 = some m.cls := findClass_of_methodNamed B.named
  have hlocks := B.notSynchronized
  subst hsz
  have hD := hD0.self (sz := s.heap.size)
  generalize hAe : va_A [(h0, .inr (8, [.int 1, .int 0, .int (-1), .int 0, .int 0, .int (-1), .int 0, .int 0, .int 0, .int 0, .int 0, .ref h1, .ref h2, .ref h3, .ref h4, .ref h5, .ref h6, .ref h7, .ref h8, .ref h9, .ref h10, .ref h11, .ref h12, .ref h13, .ref h14, .ref h15, .ref h16, .ref h17, .ref h18, .ref h19, .int 0, .ref h20, .ref h21, .ref h22, .ref h23, .int 0, .int 0, .ref h24, .ref h25, .int (-1), .ref h26, .ref h27])), (h1, .inl (K 1, 200, .inl (fun _ => 0)))] s.heap.size = A at hD ⊢
  have hA : ∀ q : Nat, s.heap.size ≤ q → A q := fun q h => by rw [← hAe]; exact Or.inr h
  have hS : va_S A s.heap s.heap [] := va_S.rf
  have hP : va_P G vwCl [(h0, .inr (8, [.int 1, .int 0, .int (-1), .int 0, .int 0, .int (-1), .int 0, .int 0, .int 0, .int 0, .int 0, .ref h1, .ref h2, .ref h3, .ref h4, .ref h5, .ref h6, .ref h7, .ref h8, .ref h9, .ref h10, .ref h11, .ref h12, .ref h13, .ref h14, .ref h15, .ref h16, .ref h17, .ref h18, .ref h19, .int 0, .ref h20, .ref h21, .ref h22, .ref h23, .int 0, .int 0, .ref h24, .ref h25, .int (-1), .ref h26, .ref h27])), (h1, .inl (K 1, 200, .inl (fun _ => 0)))] s.heap := hP
  have hl := lv_entry ([.ref h0, .int 2, .int p0, .int 0, .int 0, .int 0]) (n := 10) (Nat.le_of_ble_eq_true rfl)
  rw [lg_entry_eq]
  generalize (lg_sl ([.ref h0, .int 2, .int p0, .int 0, .int 0, .int 0]) ++ List.replicate (10 - (lg_sl ([.ref h0, .int 2, .int p0, .int 0, .int 0, .int 0])).length) Slot.unset).toArray = ls at hl ⊢
  have hl : lv_has ls 10 [(0, .ref h0), (1, .int 2), (2, .int p0), (3, .int 0), (4, .int 0), (5, .int 0)] := hl
  refine lv_aload_n hx hb dX11_act_0 rfl (lv_at hl 0 rfl) ?_
  refine lv_iload_n hx hb dX11_act_1 rfl (lv_at hl 1 rfl) ?_
  refine lv_iload_n hx hb dX11_act_2 rfl (lv_at hl 2 rfl) ?_
  refine lv_iload_n hx hb dX11_act_3 rfl (lv_at hl 3 rfl) ?_
  refine lv_iload hx hb dX11_act_4 (lv_at hl 4 rfl) ?_
  refine lv_iload hx hb dX11_act_6 (lv_at hl 5 rfl) ?_
  have hPc := hP.sub (ws' := [(h0, .inr (8, [.int 1, .int 0, .int (-1), .int 0, .int 0, .int (-1), .int 0, .int 0, .int 0, .int 0, .int 0, .ref h1, .ref h2, .ref h3, .ref h4, .ref h5, .ref h6, .ref h7, .ref h8, .ref h9, .ref h10, .ref h11, .ref h12, .ref h13, .ref h14, .ref h15, .ref h16, .ref h17, .ref h18, .ref h19, .int 0, .ref h20, .ref h21, .ref h22, .ref h23, .int 0, .int 0, .ref h24, .ref h25, .int (-1), .ref h26, .ref h27])), (h1, .inl (K 1, 200, .inl (fun _ => 0)))]) [0, 1] rfl
  have hDc := hD.sub (ws' := [(h0, .inr (8, [.int 1, .int 0, .int (-1), .int 0, .int 0, .int (-1), .int 0, .int 0, .int 0, .int 0, .int 0, .ref h1, .ref h2, .ref h3, .ref h4, .ref h5, .ref h6, .ref h7, .ref h8, .ref h9, .ref h10, .ref h11, .ref h12, .ref h13, .ref h14, .ref h15, .ref h16, .ref h17, .ref h18, .ref h19, .int 0, .ref h20, .ref h21, .ref h22, .ref h23, .int 0, .int 0, .ref h24, .ref h25, .int (-1), .ref h26, .ref h27])), (h1, .inl (K 1, 200, .inl (fun _ => 0)))]) [0, 1] (by decide) rfl
  refine wGoi (wc := [(h0, .inr (8, [.int 1, .int 0, .int (-1), .int 0, .int 0, .int (-1), .int 0, .int 0, .int 0, .int 0, .int 0, .ref h1, .ref h2, .ref h3, .ref h4, .ref h5, .ref h6, .ref h7, .ref h8, .ref h9, .ref h10, .ref h11, .ref h12, .ref h13, .ref h14, .ref h15, .ref h16, .ref h17, .ref h18, .ref h19, .int 0, .ref h20, .ref h21, .ref h22, .ref h23, .int 0, .int 0, .ref h24, .ref h25, .int (-1), .ref h26, .ref h27])), (h1, .inl (K 1, 200, .inl (fun _ => 0)))]) (wr := []) (va_runV (As := [.int 2, .int p0, .int 0, .int 0, .int 0]) (rest := []) ⟨hx, hb, hml, hown, hts⟩ (m_X11_reason_1 l G K h0 h1 h2 h3 h4 h5 h6 h7 h8 h9 h10 h11 h12 h13 h14 h15 h16 h17 h18 h19 h20 h21 h22 h23 h24 h25 h26 h27 p0 _) (cwV 5 hts (wGV t_ (mw (.methodLink RX11 196 yX11_reason) (List.mem_of_getElem? (i := 0) rfl)) (mw (.instanceMethod yX11_reason) (List.mem_of_getElem? (i := 1) rfl)) (mw (.selects RX11 yX11_reason yX11_reason) (List.mem_of_getElem? (i := 2) rfl)) (mw (.initialized RX11) (List.mem_of_getElem? (i := 3) rfl)) j_X11_reason_1) rfl rfl rfl (by decide +kernel) ⟨Nat.le_of_ble_eq_true rfl, Nat.le_of_ble_eq_true rfl⟩) (wPV hK hE hPc hDc 8 0 rfl rfl) rfl rfl hl.1 rfl (lv_room (Nat.le_of_ble_eq_true rfl)) dX11_act_8 ⟨Nat.le_of_ble_eq_true rfl, Nat.le_of_ble_eq_true rfl⟩) hP hD hS hA [0, 1] [] rfl rfl rfl (by decide) (fun r u H locs hw hP hD hS => ?_)
  rcases hw with ⟨c_w, rfl, rfl⟩ | ⟨c_w, rfl, rfl⟩
  · have c1 := c_w
    have hP : va_P G vwCl [(h0, .inr (8, [.int 1, .int 0, .int (-1), .int 0, .int 0, .int (-1), .int 0, .int 0, .int 0, .int 0, .int 0, .ref h1, .ref h2, .ref h3, .ref h4, .ref h5, .ref h6, .ref h7, .ref h8, .ref h9, .ref h10, .ref h11, .ref h12, .ref h13, .ref h14, .ref h15, .ref h16, .ref h17, .ref h18, .ref h19, .int 0, .ref h20, .ref h21, .ref h22, .ref h23, .int 0, .int 0, .ref h24, .ref h25, .int (-1), .ref h26, .ref h27])), (h1, .inl (K 1, 200, .inl (fun _ => 0)))] _ := hP
    have hD : va_D A [(h0, .inr (8, [.int 1, .int 0, .int (-1), .int 0, .int 0, .int (-1), .int 0, .int 0, .int 0, .int 0, .int 0, .ref h1, .ref h2, .ref h3, .ref h4, .ref h5, .ref h6, .ref h7, .ref h8, .ref h9, .ref h10, .ref h11, .ref h12, .ref h13, .ref h14, .ref h15, .ref h16, .ref h17, .ref h18, .ref h19, .int 0, .ref h20, .ref h21, .ref h22, .ref h23, .int 0, .int 0, .ref h24, .ref h25, .int (-1), .ref h26, .ref h27])), (h1, .inl (K 1, 200, .inl (fun _ => 0)))] := hD
    refine lv_istore (lv' := [(6, .int 9), (0, .ref h0), (1, .int 2), (2, .int p0), (3, .int 0), (4, .int 0), (5, .int 0)]) hx hb dX11_act_11 hl (by decide) rfl (fun ls hl => ?_)
    refine lv_iload hx hb dX11_act_13 (lv_at hl 0 rfl) ?_
    refine lv_if_ne (tgt := 32) hx hb dX11_act_15 (by decide) (fun _ => ?_) (fun c_ => absurd c_ (by decide))
    refine lv_aload_n hx hb dX11_act_32 rfl (lv_at hl 1 rfl) ?_
    refine lv_iload hx hb dX11_act_33 (lv_at hl 0 rfl) ?_
    refine va_put (D := G) (ci := 8) (v := .int 9) (ty := .int) (C := RX11) (T := TX11) (N := 42) hx hb hts iX11 tyX11 tyX11_ok nmX11 hown hK hP hD hS 0 rfl rfl 10 (by decide) (hw (.fieldLink RX11 127 "MotionFloorModel$Hall" "why" "I") (List.mem_of_getElem? (i := 4) rfl)) (fun _ h9 => h9) rfl (by decide +kernel) rfl rfl (Nat.le_of_ble_eq_true rfl) dX11_act_35 (fun H locs hP hD hS => ?_)
    have hP : va_P G vwCl [(h0, .inr (8, [.int 1, .int 0, .int (-1), .int 0, .int 0, .int (-1), .int 0, .int 0, .int 0, .int 0, .int 9, .ref h1, .ref h2, .ref h3, .ref h4, .ref h5, .ref h6, .ref h7, .ref h8, .ref h9, .ref h10, .ref h11, .ref h12, .ref h13, .ref h14, .ref h15, .ref h16, .ref h17, .ref h18, .ref h19, .int 0, .ref h20, .ref h21, .ref h22, .ref h23, .int 0, .int 0, .ref h24, .ref h25, .int (-1), .ref h26, .ref h27])), (h1, .inl (K 1, 200, .inl (fun _ => 0)))] _ := hP
    have hD : va_D A [(h0, .inr (8, [.int 1, .int 0, .int (-1), .int 0, .int 0, .int (-1), .int 0, .int 0, .int 0, .int 0, .int 9, .ref h1, .ref h2, .ref h3, .ref h4, .ref h5, .ref h6, .ref h7, .ref h8, .ref h9, .ref h10, .ref h11, .ref h12, .ref h13, .ref h14, .ref h15, .ref h16, .ref h17, .ref h18, .ref h19, .int 0, .ref h20, .ref h21, .ref h22, .ref h23, .int 0, .int 0, .ref h24, .ref h25, .int (-1), .ref h26, .ref h27])), (h1, .inl (K 1, 200, .inl (fun _ => 0)))] := hD
    refine lv_iload hx hb dX11_act_38 (lv_at hl 0 rfl) ?_
    refine lv_if_le (tgt := 47) hx hb dX11_act_40 (by decide) (fun c_ => absurd c_ (by decide)) (fun _ => ?_)
    refine lv_iload hx hb dX11_act_43 (lv_at hl 0 rfl) ?_
    refine lv_ineg hx hb dX11_act_45 ?_
    refine wTop (v1 := .int (-9)) (congrArg Value.int (by decide)) ?_
    have hP9 : va_P G vwCl [(h0, .inr (8, [.int 1, .int 0, .int (-1), .int 0, .int 0, .int (-1), .int 0, .int 0, .int 0, .int 0, .int 9, .ref h1, .ref h2, .ref h3, .ref h4, .ref h5, .ref h6, .ref h7, .ref h8, .ref h9, .ref h10, .ref h11, .ref h12, .ref h13, .ref h14, .ref h15, .ref h16, .ref h17, .ref h18, .ref h19, .int 0, .ref h20, .ref h21, .ref h22, .ref h23, .int 0, .int 0, .ref h24, .ref h25, .int (-1), .ref h26, .ref h27])), (h1, .inl (K 1, 200, .inl (fun _ => 0)))] _ := hP
    have hD9 : va_D A [(h0, .inr (8, [.int 1, .int 0, .int (-1), .int 0, .int 0, .int (-1), .int 0, .int 0, .int 0, .int 0, .int 9, .ref h1, .ref h2, .ref h3, .ref h4, .ref h5, .ref h6, .ref h7, .ref h8, .ref h9, .ref h10, .ref h11, .ref h12, .ref h13, .ref h14, .ref h15, .ref h16, .ref h17, .ref h18, .ref h19, .int 0, .ref h20, .ref h21, .ref h22, .ref h23, .int 0, .int 0, .ref h24, .ref h25, .int (-1), .ref h26, .ref h27])), (h1, .inl (K 1, 200, .inl (fun _ => 0)))] := hD
    exact W.iret (v := (-9)) hx hb hr (fun t ht hW => ⟨⟨(-9), _, rfl, Or.inl ⟨(by first | omega | decide | simp), rfl, rfl⟩, by rw [ht]; exact hP9, hD9⟩, hS.F ht⟩) hS.2.2 dX11_act_46
  · have c2 := c_w
    have hP : va_P G vwCl [(h0, .inr (8, [.int 1, .int 0, .int (-1), .int 0, .int 0, .int (-1), .int 0, .int 0, .int 0, .int 0, .int 0, .ref h1, .ref h2, .ref h3, .ref h4, .ref h5, .ref h6, .ref h7, .ref h8, .ref h9, .ref h10, .ref h11, .ref h12, .ref h13, .ref h14, .ref h15, .ref h16, .ref h17, .ref h18, .ref h19, .int 0, .ref h20, .ref h21, .ref h22, .ref h23, .int 0, .int 0, .ref h24, .ref h25, .int (-1), .ref h26, .ref h27])), (h1, .inl (K 1, 200, .inl (fun _ => 0)))] _ := hP
    have hD : va_D A [(h0, .inr (8, [.int 1, .int 0, .int (-1), .int 0, .int 0, .int (-1), .int 0, .int 0, .int 0, .int 0, .int 0, .ref h1, .ref h2, .ref h3, .ref h4, .ref h5, .ref h6, .ref h7, .ref h8, .ref h9, .ref h10, .ref h11, .ref h12, .ref h13, .ref h14, .ref h15, .ref h16, .ref h17, .ref h18, .ref h19, .int 0, .ref h20, .ref h21, .ref h22, .ref h23, .int 0, .int 0, .ref h24, .ref h25, .int (-1), .ref h26, .ref h27])), (h1, .inl (K 1, 200, .inl (fun _ => 0)))] := hD
    obtain rfl : p0 = 0 := wIs (b := 0) (by decide) (by omega)
    have z_0 : (0 : Int32).toInt = 0 := by decide
    refine lv_istore (lv' := [(6, .int 8), (0, .ref h0), (1, .int 2), (2, .int 0), (3, .int 0), (4, .int 0), (5, .int 0)]) hx hb dX11_act_11 hl (by decide) rfl (fun ls hl => ?_)
    refine lv_iload hx hb dX11_act_13 (lv_at hl 0 rfl) ?_
    refine lv_if_ne (tgt := 32) hx hb dX11_act_15 (by decide) (fun _ => ?_) (fun c_ => absurd c_ (by decide))
    refine lv_aload_n hx hb dX11_act_32 rfl (lv_at hl 1 rfl) ?_
    refine lv_iload hx hb dX11_act_33 (lv_at hl 0 rfl) ?_
    refine va_put (D := G) (ci := 8) (v := .int 8) (ty := .int) (C := RX11) (T := TX11) (N := 42) hx hb hts iX11 tyX11 tyX11_ok nmX11 hown hK hP hD hS 0 rfl rfl 10 (by decide) (hw (.fieldLink RX11 127 "MotionFloorModel$Hall" "why" "I") (List.mem_of_getElem? (i := 4) rfl)) (fun _ h9 => h9) rfl (by decide +kernel) rfl rfl (Nat.le_of_ble_eq_true rfl) dX11_act_35 (fun H locs hP hD hS => ?_)
    have hP : va_P G vwCl [(h0, .inr (8, [.int 1, .int 0, .int (-1), .int 0, .int 0, .int (-1), .int 0, .int 0, .int 0, .int 0, .int 8, .ref h1, .ref h2, .ref h3, .ref h4, .ref h5, .ref h6, .ref h7, .ref h8, .ref h9, .ref h10, .ref h11, .ref h12, .ref h13, .ref h14, .ref h15, .ref h16, .ref h17, .ref h18, .ref h19, .int 0, .ref h20, .ref h21, .ref h22, .ref h23, .int 0, .int 0, .ref h24, .ref h25, .int (-1), .ref h26, .ref h27])), (h1, .inl (K 1, 200, .inl (fun _ => 0)))] _ := hP
    have hD : va_D A [(h0, .inr (8, [.int 1, .int 0, .int (-1), .int 0, .int 0, .int (-1), .int 0, .int 0, .int 0, .int 0, .int 8, .ref h1, .ref h2, .ref h3, .ref h4, .ref h5, .ref h6, .ref h7, .ref h8, .ref h9, .ref h10, .ref h11, .ref h12, .ref h13, .ref h14, .ref h15, .ref h16, .ref h17, .ref h18, .ref h19, .int 0, .ref h20, .ref h21, .ref h22, .ref h23, .int 0, .int 0, .ref h24, .ref h25, .int (-1), .ref h26, .ref h27])), (h1, .inl (K 1, 200, .inl (fun _ => 0)))] := hD
    refine lv_iload hx hb dX11_act_38 (lv_at hl 0 rfl) ?_
    refine lv_if_le (tgt := 47) hx hb dX11_act_40 (by decide) (fun c_ => absurd c_ (by decide)) (fun _ => ?_)
    refine lv_iload hx hb dX11_act_43 (lv_at hl 0 rfl) ?_
    refine lv_ineg hx hb dX11_act_45 ?_
    refine wTop (v1 := .int (-8)) (congrArg Value.int (by decide)) ?_
    have hP9 : va_P G vwCl [(h0, .inr (8, [.int 1, .int 0, .int (-1), .int 0, .int 0, .int (-1), .int 0, .int 0, .int 0, .int 0, .int 8, .ref h1, .ref h2, .ref h3, .ref h4, .ref h5, .ref h6, .ref h7, .ref h8, .ref h9, .ref h10, .ref h11, .ref h12, .ref h13, .ref h14, .ref h15, .ref h16, .ref h17, .ref h18, .ref h19, .int 0, .ref h20, .ref h21, .ref h22, .ref h23, .int 0, .int 0, .ref h24, .ref h25, .int (-1), .ref h26, .ref h27])), (h1, .inl (K 1, 200, .inl (fun _ => 0)))] _ := hP
    have hD9 : va_D A [(h0, .inr (8, [.int 1, .int 0, .int (-1), .int 0, .int 0, .int (-1), .int 0, .int 0, .int 0, .int 0, .int 8, .ref h1, .ref h2, .ref h3, .ref h4, .ref h5, .ref h6, .ref h7, .ref h8, .ref h9, .ref h10, .ref h11, .ref h12, .ref h13, .ref h14, .ref h15, .ref h16, .ref h17, .ref h18, .ref h19, .int 0, .ref h20, .ref h21, .ref h22, .ref h23, .int 0, .int 0, .ref h24, .ref h25, .int (-1), .ref h26, .ref h27])), (h1, .inl (K 1, 200, .inl (fun _ => 0)))] := hD
    exact W.iret (v := (-8)) hx hb hr (fun t ht hW => ⟨⟨(-8), _, rfl, Or.inr (⟨(by first | omega | decide | simp), rfl, rfl⟩), by rw [ht]; exact hP9, hD9⟩, hS.F ht⟩) hS.2.2 dX11_act_46
def e_X12_gone_0 : List Cond := [.fieldLink RX12 16 "MotionFloorModel" "hall" "LMotionFloorModel$Hall;", .methodLink RX12 40 yX11_act, .instanceMethod yX11_act, .selects RX11 yX11_act yX11_act, .initialized RX11]
def v_X12_gone_0 : List Cond := .code yX12_gone cX12_gone 2 (some .int) :: (e_X12_gone_0 ++ (wsX120 ++ (v_X11_act_1 ++ [])))
theorem te_X12_gone_0 : GoodIn lw_tbl e_X12_gone_0 := wGc z566 (wGc z595 (wGc z594 (wGc z593 (wGc z568 (wG0)))))
theorem t_X12_gone_0 : GoodIn lw_tbl v_X12_gone_0 := wGc z597 (wGa te_X12_gone_0 (wGa zcX12 (wGa t_X11_act_1 (wG0))))
set_option maxHeartbeats 4000000 in
set_option maxRecDepth 100000 in
theorem m_X12_gone_0 (l : Launch) (G : va_G) (K : Nat → ClassId) (h0 h1 h2 h3 h4 h5 h6 h7 h8 h9 h10 h11 h12 h13 h14 h15 h16 h17 h18 h19 h20 h21 h22 h23 h24 h25 h26 h27 h28 h29 h30 h31 h32 h33 : Nat) (p0 : Int32) (sz : Nat) : Met l yX12_gone v_X12_gone_0 ({ frames := 4, cells := 0, slots := 0, locals := 97 }) (va_Pc [.ref h0, .int p0] (wS G K sz [(h0, .inr (9, [.ref h1, .ref h3, .ref h4, .ref h5, .ref h6, .ref h7, .int 0])), (h1, .inr (8, [.int 1, .int 0, .int (-1), .int 0, .int 0, .int (-1), .int 0, .int 0, .int 0, .int 0, .int 0, .ref h2, .ref h8, .ref h9, .ref h10, .ref h11, .ref h12, .ref h13, .ref h14, .ref h15, .ref h16, .ref h17, .ref h18, .ref h19, .ref h20, .ref h21, .ref h22, .ref h23, .ref h24, .ref h25, .int 0, .ref h26, .ref h27, .ref h28, .ref h29, .int 0, .int 0, .ref h30, .ref h31, .int (-1), .ref h32, .ref h33])), (h2, .inl (K 1, 200, .inl (fun _ => 0)))])) (va_Qi (fun (r : Int32) (u : va_W) => ((((((p0.toInt < 0 ∨ (p0.toInt ≥ 0 ∧ p0.toInt > 0)))))) ∧ r = (-9) ∧ u = [(h0, .inr (9, [.ref h1, .ref h3, .ref h4, .ref h5, .ref h6, .ref h7, .int 0])), (h1, .inr (8, [.int 1, .int 0, .int (-1), .int 0, .int 0, .int (-1), .int 0, .int 0, .int 0, .int 0, .int 9, .ref h2, .ref h8, .ref h9, .ref h10, .ref h11, .ref h12, .ref h13, .ref h14, .ref h15, .ref h16, .ref h17, .ref h18, .ref h19, .ref h20, .ref h21, .ref h22, .ref h23, .ref h24, .ref h25, .int 0, .ref h26, .ref h27, .ref h28, .ref h29, .int 0, .int 0, .ref h30, .ref h31, .int (-1), .ref h32, .ref h33])), (h2, .inl (K 1, 200, .inl (fun _ => 0)))]) ∨ (((((((p0.toInt ≥ 0 ∧ p0.toInt ≤ 0)))))) ∧ r = (-8) ∧ u = [(h0, .inr (9, [.ref h1, .ref h3, .ref h4, .ref h5, .ref h6, .ref h7, .int 0])), (h1, .inr (8, [.int 1, .int 0, .int (-1), .int 0, .int 0, .int (-1), .int 0, .int 0, .int 0, .int 0, .int 8, .ref h2, .ref h8, .ref h9, .ref h10, .ref h11, .ref h12, .ref h13, .ref h14, .ref h15, .ref h16, .ref h17, .ref h18, .ref h19, .ref h20, .ref h21, .ref h22, .ref h23, .ref h24, .ref h25, .int 0, .ref h26, .ref h27, .ref h28, .ref h29, .int 0, .int 0, .ref h30, .ref h31, .int (-1), .ref h32, .ref h33])), (h2, .inl (K 1, 200, .inl (fun _ => 0)))])) (wB G (va_A [(h0, .inr (9, [.ref h1, .ref h3, .ref h4, .ref h5, .ref h6, .ref h7, .int 0])), (h1, .inr (8, [.int 1, .int 0, .int (-1), .int 0, .int 0, .int (-1), .int 0, .int 0, .int 0, .int 0, .int 0, .ref h2, .ref h8, .ref h9, .ref h10, .ref h11, .ref h12, .ref h13, .ref h14, .ref h15, .ref h16, .ref h17, .ref h18, .ref h19, .ref h20, .ref h21, .ref h22, .ref h23, .ref h24, .ref h25, .int 0, .ref h26, .ref h27, .ref h28, .ref h29, .int 0, .int 0, .ref h30, .ref h31, .int (-1), .ref h32, .ref h33])), (h2, .inl (K 1, 200, .inl (fun _ => 0)))] sz)) (va_A [(h0, .inr (9, [.ref h1, .ref h3, .ref h4, .ref h5, .ref h6, .ref h7, .int 0])), (h1, .inr (8, [.int 1, .int 0, .int (-1), .int 0, .int 0, .int (-1), .int 0, .int 0, .int 0, .int 0, .int 0, .ref h2, .ref h8, .ref h9, .ref h10, .ref h11, .ref h12, .ref h13, .ref h14, .ref h15, .ref h16, .ref h17, .ref h18, .ref h19, .ref h20, .ref h21, .ref h22, .ref h23, .ref h24, .ref h25, .int 0, .ref h26, .ref h27, .ref h28, .ref h29, .int 0, .int 0, .ref h30, .ref h31, .int (-1), .ref h32, .ref h33])), (h2, .inl (K 1, 200, .inl (fun _ => 0)))] sz)) 0 0 (va_A [(h0, .inr (9, [.ref h1, .ref h3, .ref h4, .ref h5, .ref h6, .ref h7, .int 0])), (h1, .inr (8, [.int 1, .int 0, .int (-1), .int 0, .int 0, .int (-1), .int 0, .int 0, .int 0, .int 0, .int 0, .ref h2, .ref h8, .ref h9, .ref h10, .ref h11, .ref h12, .ref h13, .ref h14, .ref h15, .ref h16, .ref h17, .ref h18, .ref h19, .ref h20, .ref h21, .ref h22, .ref h23, .ref h24, .ref h25, .int 0, .ref h26, .ref h27, .ref h28, .ref h29, .int 0, .int 0, .ref h30, .ref h31, .int (-1), .ref h32, .ref h33])), (h2, .inl (K 1, 200, .inl (fun _ => 0)))] sz) := by
  refine Met.ofW (cc := cX12_gone) (maxL := 2) (ret := (some .int)) (by decide) rfl ?_
  intro p e s m args below meth c s₁ B hml hv
  obtain ⟨rfl, hsz, hP, hK, hD0, hE⟩ := hv
  have hx := B.exec
  have hb := B.bytes
  have hr := B.returns
  have hts := atoms_spec (ws := v_X12_gone_0) B.pre
  have t_ := t_X12_gone_0
  have mw : ∀ w ∈ e_X12_gone_0, w ∈ v_X12_gone_0 := fun w h => List.mem_cons_of_mem _ (List.mem_append_left _ h)
  have hw := fun w (h : w ∈ e_X12_gone_0) => hts w (mw w h)
  have iX12 : ∀ w ∈ wsX120, w ∈ v_X12_gone_0 := fun w h => List.mem_cons_of_mem _ (List.mem_append_right _ (List.mem_append_left _ h))
  have j_X11_act_1 : ∀ w ∈ v_X11_act_1, w ∈ v_X12_gone_0 := fun w h => List.mem_cons_of_mem _ (List.mem_append_right _ (List.mem_append_right _ (List.mem_append_left _ h)))
  have hown : s.vm.findClass RX12 = some m.cls := findClass_of_methodNamed B.named
  have hlocks := B.notSynchronized
  subst hsz
  have hD := hD0.self (sz := s.heap.size)
  generalize hAe : va_A [(h0, .inr (9, [.ref h1, .ref h3, .ref h4, .ref h5, .ref h6, .ref h7, .int 0])), (h1, .inr (8, [.int 1, .int 0, .int (-1), .int 0, .int 0, .int (-1), .int 0, .int 0, .int 0, .int 0, .int 0, .ref h2, .ref h8, .ref h9, .ref h10, .ref h11, .ref h12, .ref h13, .ref h14, .ref h15, .ref h16, .ref h17, .ref h18, .ref h19, .ref h20, .ref h21, .ref h22, .ref h23, .ref h24, .ref h25, .int 0, .ref h26, .ref h27, .ref h28, .ref h29, .int 0, .int 0, .ref h30, .ref h31, .int (-1), .ref h32, .ref h33])), (h2, .inl (K 1, 200, .inl (fun _ => 0)))] s.heap.size = A at hD ⊢
  have hA : ∀ q : Nat, s.heap.size ≤ q → A q := fun q h => by rw [← hAe]; exact Or.inr h
  have hS : va_S A s.heap s.heap [] := va_S.rf
  have hP : va_P G vwCl [(h0, .inr (9, [.ref h1, .ref h3, .ref h4, .ref h5, .ref h6, .ref h7, .int 0])), (h1, .inr (8, [.int 1, .int 0, .int (-1), .int 0, .int 0, .int (-1), .int 0, .int 0, .int 0, .int 0, .int 0, .ref h2, .ref h8, .ref h9, .ref h10, .ref h11, .ref h12, .ref h13, .ref h14, .ref h15, .ref h16, .ref h17, .ref h18, .ref h19, .ref h20, .ref h21, .ref h22, .ref h23, .ref h24, .ref h25, .int 0, .ref h26, .ref h27, .ref h28, .ref h29, .int 0, .int 0, .ref h30, .ref h31, .int (-1), .ref h32, .ref h33])), (h2, .inl (K 1, 200, .inl (fun _ => 0)))] s.heap := hP
  have hl := lv_entry ([.ref h0, .int p0]) (n := 2) (Nat.le_of_ble_eq_true rfl)
  rw [lg_entry_eq]
  generalize (lg_sl ([.ref h0, .int p0]) ++ List.replicate (2 - (lg_sl ([.ref h0, .int p0])).length) Slot.unset).toArray = ls at hl ⊢
  have hl : lv_has ls 2 [(0, .ref h0), (1, .int p0)] := hl
  refine lv_aload_n hx hb dX12_gone_0 rfl (lv_at hl 0 rfl) ?_
  refine va_get (D := G) (ci := 9) (v := .ref h1) (C := RX12) (T := TX12) (N := 7) hx hb hts iX12 hown hK hP 0 rfl rfl 0 (by decide) (hw (.fieldLink RX12 16 "MotionFloorModel" "hall" "LMotionFloorModel$Hall;") (List.mem_of_getElem? (i := 0) rfl)) (fun _ h9 => h9) rfl dX12_gone_1 ?_
  refine lv_iconst (v := 2) hx hb dX12_gone_4 (by decide) ?_
  refine lv_iload_n hx hb dX12_gone_5 rfl (lv_at hl 1 rfl) ?_
  refine lv_iconst (v := 0) hx hb dX12_gone_6 (by decide) ?_
  refine lv_iconst (v := 0) hx hb dX12_gone_7 (by decide) ?_
  refine lv_iconst (v := 0) hx hb dX12_gone_8 (by decide) ?_
  have hPc := hP.sub (ws' := [(h1, .inr (8, [.int 1, .int 0, .int (-1), .int 0, .int 0, .int (-1), .int 0, .int 0, .int 0, .int 0, .int 0, .ref h2, .ref h8, .ref h9, .ref h10, .ref h11, .ref h12, .ref h13, .ref h14, .ref h15, .ref h16, .ref h17, .ref h18, .ref h19, .ref h20, .ref h21, .ref h22, .ref h23, .ref h24, .ref h25, .int 0, .ref h26, .ref h27, .ref h28, .ref h29, .int 0, .int 0, .ref h30, .ref h31, .int (-1), .ref h32, .ref h33])), (h2, .inl (K 1, 200, .inl (fun _ => 0)))]) [1, 2] rfl
  have hDc := hD.sub (ws' := [(h1, .inr (8, [.int 1, .int 0, .int (-1), .int 0, .int 0, .int (-1), .int 0, .int 0, .int 0, .int 0, .int 0, .ref h2, .ref h8, .ref h9, .ref h10, .ref h11, .ref h12, .ref h13, .ref h14, .ref h15, .ref h16, .ref h17, .ref h18, .ref h19, .ref h20, .ref h21, .ref h22, .ref h23, .ref h24, .ref h25, .int 0, .ref h26, .ref h27, .ref h28, .ref h29, .int 0, .int 0, .ref h30, .ref h31, .int (-1), .ref h32, .ref h33])), (h2, .inl (K 1, 200, .inl (fun _ => 0)))]) [1, 2] (by decide) rfl
  refine wGoi (wc := [(h1, .inr (8, [.int 1, .int 0, .int (-1), .int 0, .int 0, .int (-1), .int 0, .int 0, .int 0, .int 0, .int 0, .ref h2, .ref h8, .ref h9, .ref h10, .ref h11, .ref h12, .ref h13, .ref h14, .ref h15, .ref h16, .ref h17, .ref h18, .ref h19, .ref h20, .ref h21, .ref h22, .ref h23, .ref h24, .ref h25, .int 0, .ref h26, .ref h27, .ref h28, .ref h29, .int 0, .int 0, .ref h30, .ref h31, .int (-1), .ref h32, .ref h33])), (h2, .inl (K 1, 200, .inl (fun _ => 0)))]) (wr := [(h0, .inr (9, [.ref h1, .ref h3, .ref h4, .ref h5, .ref h6, .ref h7, .int 0]))]) (va_runV (As := [.int 2, .int p0, .int 0, .int 0, .int 0]) (rest := []) ⟨hx, hb, hml, hown, hts⟩ (m_X11_act_1 l G K h1 h2 h8 h9 h10 h11 h12 h13 h14 h15 h16 h17 h18 h19 h20 h21 h22 h23 h24 h25 h26 h27 h28 h29 h30 h31 h32 h33 p0 _) (cwV 5 hts (wGV t_ (mw (.methodLink RX12 40 yX11_act) (List.mem_of_getElem? (i := 1) rfl)) (mw (.instanceMethod yX11_act) (List.mem_of_getElem? (i := 2) rfl)) (mw (.selects RX11 yX11_act yX11_act) (List.mem_of_getElem? (i := 3) rfl)) (mw (.initialized RX11) (List.mem_of_getElem? (i := 4) rfl)) j_X11_act_1) rfl rfl rfl (by decide +kernel) ⟨Nat.le_of_ble_eq_true rfl, Nat.le_of_ble_eq_true rfl⟩) (wPV hK hE hPc hDc 8 0 rfl rfl) rfl rfl hl.1 rfl (lv_room (Nat.le_of_ble_eq_true rfl)) dX12_gone_9 ⟨Nat.le_of_ble_eq_true rfl, Nat.le_of_ble_eq_true rfl⟩) hP hD hS hA [1, 2] [0] rfl rfl rfl (by decide) (fun r u H locs hw hP hD hS => ?_)
  rcases hw with ⟨c_w, rfl, rfl⟩ | ⟨c_w, rfl, rfl⟩
  · have c1 := c_w
    have hP : va_P G vwCl [(h0, .inr (9, [.ref h1, .ref h3, .ref h4, .ref h5, .ref h6, .ref h7, .int 0])), (h1, .inr (8, [.int 1, .int 0, .int (-1), .int 0, .int 0, .int (-1), .int 0, .int 0, .int 0, .int 0, .int 9, .ref h2, .ref h8, .ref h9, .ref h10, .ref h11, .ref h12, .ref h13, .ref h14, .ref h15, .ref h16, .ref h17, .ref h18, .ref h19, .ref h20, .ref h21, .ref h22, .ref h23, .ref h24, .ref h25, .int 0, .ref h26, .ref h27, .ref h28, .ref h29, .int 0, .int 0, .ref h30, .ref h31, .int (-1), .ref h32, .ref h33])), (h2, .inl (K 1, 200, .inl (fun _ => 0)))] _ := hP
    have hD : va_D A [(h0, .inr (9, [.ref h1, .ref h3, .ref h4, .ref h5, .ref h6, .ref h7, .int 0])), (h1, .inr (8, [.int 1, .int 0, .int (-1), .int 0, .int 0, .int (-1), .int 0, .int 0, .int 0, .int 0, .int 9, .ref h2, .ref h8, .ref h9, .ref h10, .ref h11, .ref h12, .ref h13, .ref h14, .ref h15, .ref h16, .ref h17, .ref h18, .ref h19, .ref h20, .ref h21, .ref h22, .ref h23, .ref h24, .ref h25, .int 0, .ref h26, .ref h27, .ref h28, .ref h29, .int 0, .int 0, .ref h30, .ref h31, .int (-1), .ref h32, .ref h33])), (h2, .inl (K 1, 200, .inl (fun _ => 0)))] := hD
    have hP9 : va_P G vwCl [(h0, .inr (9, [.ref h1, .ref h3, .ref h4, .ref h5, .ref h6, .ref h7, .int 0])), (h1, .inr (8, [.int 1, .int 0, .int (-1), .int 0, .int 0, .int (-1), .int 0, .int 0, .int 0, .int 0, .int 9, .ref h2, .ref h8, .ref h9, .ref h10, .ref h11, .ref h12, .ref h13, .ref h14, .ref h15, .ref h16, .ref h17, .ref h18, .ref h19, .ref h20, .ref h21, .ref h22, .ref h23, .ref h24, .ref h25, .int 0, .ref h26, .ref h27, .ref h28, .ref h29, .int 0, .int 0, .ref h30, .ref h31, .int (-1), .ref h32, .ref h33])), (h2, .inl (K 1, 200, .inl (fun _ => 0)))] _ := hP
    have hD9 : va_D A [(h0, .inr (9, [.ref h1, .ref h3, .ref h4, .ref h5, .ref h6, .ref h7, .int 0])), (h1, .inr (8, [.int 1, .int 0, .int (-1), .int 0, .int 0, .int (-1), .int 0, .int 0, .int 0, .int 0, .int 9, .ref h2, .ref h8, .ref h9, .ref h10, .ref h11, .ref h12, .ref h13, .ref h14, .ref h15, .ref h16, .ref h17, .ref h18, .ref h19, .ref h20, .ref h21, .ref h22, .ref h23, .ref h24, .ref h25, .int 0, .ref h26, .ref h27, .ref h28, .ref h29, .int 0, .int 0, .ref h30, .ref h31, .int (-1), .ref h32, .ref h33])), (h2, .inl (K 1, 200, .inl (fun _ => 0)))] := hD
    exact W.iret (v := (-9)) hx hb hr (fun t ht hW => ⟨⟨(-9), _, rfl, Or.inl ⟨(by first | omega | decide | simp), rfl, rfl⟩, by rw [ht]; exact hP9, hD9⟩, hS.F ht⟩) hS.2.2 dX12_gone_12
  · have c2 := c_w
    have hP : va_P G vwCl [(h0, .inr (9, [.ref h1, .ref h3, .ref h4, .ref h5, .ref h6, .ref h7, .int 0])), (h1, .inr (8, [.int 1, .int 0, .int (-1), .int 0, .int 0, .int (-1), .int 0, .int 0, .int 0, .int 0, .int 8, .ref h2, .ref h8, .ref h9, .ref h10, .ref h11, .ref h12, .ref h13, .ref h14, .ref h15, .ref h16, .ref h17, .ref h18, .ref h19, .ref h20, .ref h21, .ref h22, .ref h23, .ref h24, .ref h25, .int 0, .ref h26, .ref h27, .ref h28, .ref h29, .int 0, .int 0, .ref h30, .ref h31, .int (-1), .ref h32, .ref h33])), (h2, .inl (K 1, 200, .inl (fun _ => 0)))] _ := hP
    have hD : va_D A [(h0, .inr (9, [.ref h1, .ref h3, .ref h4, .ref h5, .ref h6, .ref h7, .int 0])), (h1, .inr (8, [.int 1, .int 0, .int (-1), .int 0, .int 0, .int (-1), .int 0, .int 0, .int 0, .int 0, .int 8, .ref h2, .ref h8, .ref h9, .ref h10, .ref h11, .ref h12, .ref h13, .ref h14, .ref h15, .ref h16, .ref h17, .ref h18, .ref h19, .ref h20, .ref h21, .ref h22, .ref h23, .ref h24, .ref h25, .int 0, .ref h26, .ref h27, .ref h28, .ref h29, .int 0, .int 0, .ref h30, .ref h31, .int (-1), .ref h32, .ref h33])), (h2, .inl (K 1, 200, .inl (fun _ => 0)))] := hD
    obtain rfl : p0 = 0 := wIs (b := 0) (by decide) (by omega)
    have z_0 : (0 : Int32).toInt = 0 := by decide
    have hP9 : va_P G vwCl [(h0, .inr (9, [.ref h1, .ref h3, .ref h4, .ref h5, .ref h6, .ref h7, .int 0])), (h1, .inr (8, [.int 1, .int 0, .int (-1), .int 0, .int 0, .int (-1), .int 0, .int 0, .int 0, .int 0, .int 8, .ref h2, .ref h8, .ref h9, .ref h10, .ref h11, .ref h12, .ref h13, .ref h14, .ref h15, .ref h16, .ref h17, .ref h18, .ref h19, .ref h20, .ref h21, .ref h22, .ref h23, .ref h24, .ref h25, .int 0, .ref h26, .ref h27, .ref h28, .ref h29, .int 0, .int 0, .ref h30, .ref h31, .int (-1), .ref h32, .ref h33])), (h2, .inl (K 1, 200, .inl (fun _ => 0)))] _ := hP
    have hD9 : va_D A [(h0, .inr (9, [.ref h1, .ref h3, .ref h4, .ref h5, .ref h6, .ref h7, .int 0])), (h1, .inr (8, [.int 1, .int 0, .int (-1), .int 0, .int 0, .int (-1), .int 0, .int 0, .int 0, .int 0, .int 8, .ref h2, .ref h8, .ref h9, .ref h10, .ref h11, .ref h12, .ref h13, .ref h14, .ref h15, .ref h16, .ref h17, .ref h18, .ref h19, .ref h20, .ref h21, .ref h22, .ref h23, .ref h24, .ref h25, .int 0, .ref h26, .ref h27, .ref h28, .ref h29, .int 0, .int 0, .ref h30, .ref h31, .int (-1), .ref h32, .ref h33])), (h2, .inl (K 1, 200, .inl (fun _ => 0)))] := hD
    exact W.iret (v := (-8)) hx hb hr (fun t ht hW => ⟨⟨(-8), _, rfl, Or.inr (⟨(by first | omega | decide | simp), rfl, rfl⟩), by rw [ht]; exact hP9, hD9⟩, hS.F ht⟩) hS.2.2 dX12_gone_12
def e_X12_in_3 : List Cond := []
def v_X12_in_3 : List Cond := .code yX12_in cX12_in 3 (some .boolean) :: (e_X12_in_3 ++ [])
theorem te_X12_in_3 : GoodIn lw_tbl e_X12_in_3 := wG0
theorem t_X12_in_3 : GoodIn lw_tbl v_X12_in_3 := wGc z573 (wGa te_X12_in_3 (wG0))
set_option maxHeartbeats 4000000 in
set_option maxRecDepth 100000 in
theorem m_X12_in_3 (l : Launch) (G : va_G) (K : Nat → ClassId) (p0 : Int32) (sz : Nat) : Met l yX12_in v_X12_in_3 ({ frames := 0, cells := 0, slots := 0, locals := 0 }) (va_Pc [.int p0, .int 0, .int 200] (wS G K sz [])) (va_Qi (fun (r : Int32) (u : va_W) => ((p0.toInt < 0 ∨ (p0.toInt ≥ 0 ∧ p0.toInt > 200)) ∧ r = 0 ∧ u = []) ∨ (((p0.toInt ≥ 0 ∧ p0.toInt ≤ 200)) ∧ r = 1 ∧ u = [])) (wB G (va_A [] sz)) (va_A [] sz)) 0 0 (va_A [] sz) := by
  refine Met.ofW (cc := cX12_in) (maxL := 3) (ret := (some .boolean)) (by decide) rfl ?_
  intro p e s m args below meth c s₁ B hml hv
  obtain ⟨rfl, hsz, hP, hK, hD0, hE⟩ := hv
  have hx := B.exec
  have hb := B.bytes
  have hr := B.returns
  have hts := atoms_spec (ws := v_X12_in_3) B.pre
  have t_ := t_X12_in_3
  have mw : ∀ w ∈ e_X12_in_3, w ∈ v_X12_in_3 := fun w h => List.mem_cons_of_mem _ (List.mem_append_left _ h)
  have hw := fun w (h : w ∈ e_X12_in_3) => hts w (mw w h)
  have hown : s.vm.findClass RX12 = some m.cls := findClass_of_methodNamed B.named
  have hlocks := B.notSynchronized
  subst hsz
  have hD := hD0.self (sz := s.heap.size)
  generalize hAe : va_A [] s.heap.size = A at hD ⊢
  have hA : ∀ q : Nat, s.heap.size ≤ q → A q := fun q h => by rw [← hAe]; exact Or.inr h
  have hS : va_S A s.heap s.heap [] := va_S.rf
  have hP : va_P G vwCl [] s.heap := hP
  have hl := lv_entry ([.int p0, .int 0, .int 200]) (n := 3) (Nat.le_of_ble_eq_true rfl)
  rw [lg_entry_eq]
  generalize (lg_sl ([.int p0, .int 0, .int 200]) ++ List.replicate (3 - (lg_sl ([.int p0, .int 0, .int 200])).length) Slot.unset).toArray = ls at hl ⊢
  have hl : lv_has ls 3 [(0, .int p0), (1, .int 0), (2, .int 200)] := hl
  refine lv_iload_n hx hb dX12_in_0 rfl (lv_at hl 0 rfl) ?_
  refine lv_iload_n hx hb dX12_in_1 rfl (lv_at hl 1 rfl) ?_
  refine lv_icmp_lt (tgt := 14) hx hb dX12_in_2 (by decide) (fun c1 => ?_) (fun c1 => ?_)
  · have c1 : p0.toInt < 0 := wLt rfl (by decide) c1
    refine lv_iconst (v := 0) hx hb dX12_in_14 (by decide) ?_
    have hP9 : va_P G vwCl [] _ := hP
    have hD9 : va_D A [] := hD
    exact W.zret (v := 0) (ty := .boolean) hx hb hr rfl (fun t ht hW => ⟨⟨0, _, rfl, Or.inl ⟨(by first | omega | decide | simp), rfl, rfl⟩, by rw [ht]; exact hP9, hD9⟩, hS.F ht⟩) hS.2.2 dX12_in_15
  · have c1 : p0.toInt ≥ 0 := wNlt rfl (by decide) c1
    refine lv_iload_n hx hb dX12_in_5 rfl (lv_at hl 0 rfl) ?_
    refine lv_iload_n hx hb dX12_in_6 rfl (lv_at hl 2 rfl) ?_
    refine lv_icmp_gt (tgt := 14) hx hb dX12_in_7 (by decide) (fun c2 => ?_) (fun c2 => ?_)
    · have c2 : 200 < p0.toInt := wLt (by decide) rfl c2
      refine lv_iconst (v := 0) hx hb dX12_in_14 (by decide) ?_
      have hP9 : va_P G vwCl [] _ := hP
      have hD9 : va_D A [] := hD
      exact W.zret (v := 0) (ty := .boolean) hx hb hr rfl (fun t ht hW => ⟨⟨0, _, rfl, Or.inl ⟨(by first | omega | decide | simp), rfl, rfl⟩, by rw [ht]; exact hP9, hD9⟩, hS.F ht⟩) hS.2.2 dX12_in_15
    · have c2 : 200 ≥ p0.toInt := wNlt (by decide) rfl c2
      refine lv_iconst (v := 1) hx hb dX12_in_10 (by decide) ?_
      refine lv_goto (tgt := 15) hx hb dX12_in_11 (by decide) ?_
      have hP9 : va_P G vwCl [] _ := hP
      have hD9 : va_D A [] := hD
      exact W.zret (v := 1) (ty := .boolean) hx hb hr rfl (fun t ht hW => ⟨⟨1, _, rfl, Or.inr (⟨(by first | omega | decide | simp), rfl, rfl⟩), by rw [ht]; exact hP9, hD9⟩, hS.F ht⟩) hS.2.2 dX12_in_15
def e_X11_reason_2 : List Cond := [.initialized RX12, .static yX12_in, .fieldLink RX11 115 "MotionFloorModel$Hall" "pending" "I"]
def v_X11_reason_2 : List Cond := .code yX11_reason cX11_reason 6 (some .int) :: (e_X11_reason_2 ++ (wsX110 ++ (v_X12_in_3 ++ [])))
theorem te_X11_reason_2 : GoodIn lw_tbl e_X11_reason_2 := wGc z574 (wGc z575 (wGc z543 (wG0)))
theorem t_X11_reason_2 : GoodIn lw_tbl v_X11_reason_2 := wGc z582 (wGa te_X11_reason_2 (wGa zcX11 (wGa t_X12_in_3 (wG0))))
set_option maxHeartbeats 4000000 in
set_option maxRecDepth 100000 in
theorem m_X11_reason_2 (l : Launch) (G : va_G) (K : Nat → ClassId) (h0 h1 h2 h3 h4 h5 h6 h7 h8 h9 h10 h11 h12 h13 h14 h15 h16 h17 h18 h19 h20 h21 h22 h23 h24 h25 h26 h27 : Nat) (p0 : Int32) (sz : Nat) : Met l yX11_reason v_X11_reason_2 ({ frames := 1, cells := 0, slots := 0, locals := 22 }) (va_Pc [.ref h0, .int 3, .int p0, .int 0, .int 0, .int 0] (wS G K sz [(h0, .inr (8, [.int 1, .int 0, .int (-1), .int 0, .int 0, .int (-1), .int 0, .int 0, .int 0, .int 0, .int 0, .ref h1, .ref h2, .ref h3, .ref h4, .ref h5, .ref h6, .ref h7, .ref h8, .ref h9, .ref h10, .ref h11, .ref h12, .ref h13, .ref h14, .ref h15, .ref h16, .ref h17, .ref h18, .ref h19, .int 0, .ref h20, .ref h21, .ref h22, .ref h23, .int 0, .int 0, .ref h24, .ref h25, .int (-1), .ref h26, .ref h27]))])) (va_Qi (fun (r : Int32) (u : va_W) => (((p0.toInt < 0 ∨ (p0.toInt ≥ 0 ∧ p0.toInt > 200))) ∧ r = 9 ∧ u = [(h0, .inr (8, [.int 1, .int 0, .int (-1), .int 0, .int 0, .int (-1), .int 0, .int 0, .int 0, .int 0, .int 0, .ref h1, .ref h2, .ref h3, .ref h4, .ref h5, .ref h6, .ref h7, .ref h8, .ref h9, .ref h10, .ref h11, .ref h12, .ref h13, .ref h14, .ref h15, .ref h16, .ref h17, .ref h18, .ref h19, .int 0, .ref h20, .ref h21, .ref h22, .ref h23, .int 0, .int 0, .ref h24, .ref h25, .int (-1), .ref h26, .ref h27]))]) ∨ ((((p0.toInt ≥ 0 ∧ p0.toInt ≤ 200))) ∧ r = 0 ∧ u = [(h0, .inr (8, [.int 1, .int 0, .int (-1), .int 0, .int 0, .int (-1), .int 0, .int 0, .int 0, .int 0, .int 0, .ref h1, .ref h2, .ref h3, .ref h4, .ref h5, .ref h6, .ref h7, .ref h8, .ref h9, .ref h10, .ref h11, .ref h12, .ref h13, .ref h14, .ref h15, .ref h16, .ref h17, .ref h18, .ref h19, .int 0, .ref h20, .ref h21, .ref h22, .ref h23, .int 0, .int 0, .ref h24, .ref h25, .int (-1), .ref h26, .ref h27]))])) (wB G (va_A [(h0, .inr (8, [.int 1, .int 0, .int (-1), .int 0, .int 0, .int (-1), .int 0, .int 0, .int 0, .int 0, .int 0, .ref h1, .ref h2, .ref h3, .ref h4, .ref h5, .ref h6, .ref h7, .ref h8, .ref h9, .ref h10, .ref h11, .ref h12, .ref h13, .ref h14, .ref h15, .ref h16, .ref h17, .ref h18, .ref h19, .int 0, .ref h20, .ref h21, .ref h22, .ref h23, .int 0, .int 0, .ref h24, .ref h25, .int (-1), .ref h26, .ref h27]))] sz)) (va_A [(h0, .inr (8, [.int 1, .int 0, .int (-1), .int 0, .int 0, .int (-1), .int 0, .int 0, .int 0, .int 0, .int 0, .ref h1, .ref h2, .ref h3, .ref h4, .ref h5, .ref h6, .ref h7, .ref h8, .ref h9, .ref h10, .ref h11, .ref h12, .ref h13, .ref h14, .ref h15, .ref h16, .ref h17, .ref h18, .ref h19, .int 0, .ref h20, .ref h21, .ref h22, .ref h23, .int 0, .int 0, .ref h24, .ref h25, .int (-1), .ref h26, .ref h27]))] sz)) 0 0 (va_A [(h0, .inr (8, [.int 1, .int 0, .int (-1), .int 0, .int 0, .int (-1), .int 0, .int 0, .int 0, .int 0, .int 0, .ref h1, .ref h2, .ref h3, .ref h4, .ref h5, .ref h6, .ref h7, .ref h8, .ref h9, .ref h10, .ref h11, .ref h12, .ref h13, .ref h14, .ref h15, .ref h16, .ref h17, .ref h18, .ref h19, .int 0, .ref h20, .ref h21, .ref h22, .ref h23, .int 0, .int 0, .ref h24, .ref h25, .int (-1), .ref h26, .ref h27]))] sz) := by
  refine Met.ofW (cc := cX11_reason) (maxL := 6) (ret := (some .int)) (by decide) rfl ?_
  intro p e s m args below meth c s₁ B hml hv
  obtain ⟨rfl, hsz, hP, hK, hD0, hE⟩ := hv
  have hx := B.exec
  have hb := B.bytes
  have hr := B.returns
  have hts := atoms_spec (ws := v_X11_reason_2) B.pre
  have t_ := t_X11_reason_2
  have mw : ∀ w ∈ e_X11_reason_2, w ∈ v_X11_reason_2 := fun w h => List.mem_cons_of_mem _ (List.mem_append_left _ h)
  have hw := fun w (h : w ∈ e_X11_reason_2) => hts w (mw w h)
  have iX11 : ∀ w ∈ wsX110, w ∈ v_X11_reason_2 := fun w h => List.mem_cons_of_mem _ (List.mem_append_right _ (List.mem_append_left _ h))
  have j_X12_in_3 : ∀ w ∈ v_X12_in_3, w ∈ v_X11_reason_2 := fun w h => List.mem_cons_of_mem _ (List.mem_append_right _ (List.mem_append_right _ (List.mem_append_left _ h)))
  have hown : s.vm.findClass RX11 = some m.cls := findClass_of_methodNamed B.named
  have hlocks := B.notSynchronized
  subst hsz
  have hD := hD0.self (sz := s.heap.size)
  generalize hAe : va_A [(h0, .inr (8, [.int 1, .int 0, .int (-1), .int 0, .int 0, .int (-1), .int 0, .int 0, .int 0, .int 0, .int 0, .ref h1, .ref h2, .ref h3, .ref h4, .ref h5, .ref h6, .ref h7, .ref h8, .ref h9, .ref h10, .ref h11, .ref h12, .ref h13, .ref h14, .ref h15, .ref h16, .ref h17, .ref h18, .ref h19, .int 0, .ref h20, .ref h21, .ref h22, .ref h23, .int 0, .int 0, .ref h24, .ref h25, .int (-1), .ref h26, .ref h27]))] s.heap.size = A at hD ⊢
  have hA : ∀ q : Nat, s.heap.size ≤ q → A q := fun q h => by rw [← hAe]; exact Or.inr h
  have hS : va_S A s.heap s.heap [] := va_S.rf
  have hP : va_P G vwCl [(h0, .inr (8, [.int 1, .int 0, .int (-1), .int 0, .int 0, .int (-1), .int 0, .int 0, .int 0, .int 0, .int 0, .ref h1, .ref h2, .ref h3, .ref h4, .ref h5, .ref h6, .ref h7, .ref h8, .ref h9, .ref h10, .ref h11, .ref h12, .ref h13, .ref h14, .ref h15, .ref h16, .ref h17, .ref h18, .ref h19, .int 0, .ref h20, .ref h21, .ref h22, .ref h23, .int 0, .int 0, .ref h24, .ref h25, .int (-1), .ref h26, .ref h27]))] s.heap := hP
  have hl := lv_entry ([.ref h0, .int 3, .int p0, .int 0, .int 0, .int 0]) (n := 6) (Nat.le_of_ble_eq_true rfl)
  rw [lg_entry_eq]
  generalize (lg_sl ([.ref h0, .int 3, .int p0, .int 0, .int 0, .int 0]) ++ List.replicate (6 - (lg_sl ([.ref h0, .int 3, .int p0, .int 0, .int 0, .int 0])).length) Slot.unset).toArray = ls at hl ⊢
  have hl : lv_has ls 6 [(0, .ref h0), (1, .int 3), (2, .int p0), (3, .int 0), (4, .int 0), (5, .int 0)] := hl
  refine lv_iload_n hx hb dX11_reason_0 rfl (lv_at hl 1 rfl) ?_
  refine lv_tableIn (tgt := 158) hx hb dX11_reason_1 (by decide) (by decide) (by decide) (by decide) ?_
  refine lv_iload_n hx hb dX11_reason_158 rfl (lv_at hl 2 rfl) ?_
  refine lv_iconst (v := 0) hx hb dX11_reason_159 (by decide) ?_
  refine lv_sipush (v := 200) hx hb dX11_reason_160 (by decide) ?_
  have hPc := hP.sub (ws' := []) [] rfl
  have hDc := hD.sub (ws' := []) [] (by decide) rfl
  refine wGoi (wc := []) (wr := [(h0, .inr (8, [.int 1, .int 0, .int (-1), .int 0, .int 0, .int (-1), .int 0, .int 0, .int 0, .int 0, .int 0, .ref h1, .ref h2, .ref h3, .ref h4, .ref h5, .ref h6, .ref h7, .ref h8, .ref h9, .ref h10, .ref h11, .ref h12, .ref h13, .ref h14, .ref h15, .ref h16, .ref h17, .ref h18, .ref h19, .int 0, .ref h20, .ref h21, .ref h22, .ref h23, .int 0, .int 0, .ref h24, .ref h25, .int (-1), .ref h26, .ref h27]))]) (va_runSN (As := [.int p0, .int 0, .int 200]) (rest := []) ⟨hx, hb, hml, hown, hts⟩ (m_X12_in_3 l G K p0 _) ⟨va_cnB (host := "MotionFloorModel") 3 hts (wGP t_ j_X12_in_3) rfl rfl rfl hE.2.2.2.2.2.2.2.2.2.1 (hw (.initialized RX12) (List.mem_of_getElem? (i := 0) rfl)) (by decide +kernel) ⟨Nat.le_of_ble_eq_true rfl, Nat.le_of_ble_eq_true rfl⟩, (hw (.static yX12_in) (List.mem_of_getElem? (i := 1) rfl)), trivial⟩ (wPS hK hE hPc hDc) rfl rfl hl.1 rfl (lv_room (Nat.le_of_ble_eq_true rfl)) dX11_reason_163 ⟨Nat.le_of_ble_eq_true rfl, Nat.le_of_ble_eq_true rfl⟩) hP hD hS hA [] [0] rfl rfl rfl (by decide) (fun r u H locs hw hP hD hS => ?_)
  rcases hw with ⟨c_w, rfl, rfl⟩ | ⟨c_w, rfl, rfl⟩
  · have c1 := c_w
    have hP : va_P G vwCl [(h0, .inr (8, [.int 1, .int 0, .int (-1), .int 0, .int 0, .int (-1), .int 0, .int 0, .int 0, .int 0, .int 0, .ref h1, .ref h2, .ref h3, .ref h4, .ref h5, .ref h6, .ref h7, .ref h8, .ref h9, .ref h10, .ref h11, .ref h12, .ref h13, .ref h14, .ref h15, .ref h16, .ref h17, .ref h18, .ref h19, .int 0, .ref h20, .ref h21, .ref h22, .ref h23, .int 0, .int 0, .ref h24, .ref h25, .int (-1), .ref h26, .ref h27]))] _ := hP
    have hD : va_D A [(h0, .inr (8, [.int 1, .int 0, .int (-1), .int 0, .int 0, .int (-1), .int 0, .int 0, .int 0, .int 0, .int 0, .ref h1, .ref h2, .ref h3, .ref h4, .ref h5, .ref h6, .ref h7, .ref h8, .ref h9, .ref h10, .ref h11, .ref h12, .ref h13, .ref h14, .ref h15, .ref h16, .ref h17, .ref h18, .ref h19, .int 0, .ref h20, .ref h21, .ref h22, .ref h23, .int 0, .int 0, .ref h24, .ref h25, .int (-1), .ref h26, .ref h27]))] := hD
    refine lv_if_ne (tgt := 174) hx hb dX11_reason_166 (by decide) (fun c_ => absurd c_ (by decide)) (fun _ => ?_)
    refine lv_bipush (v := 9) hx hb dX11_reason_169 (by decide) ?_
    refine lv_goto (tgt := 187) hx hb dX11_reason_171 (by decide) ?_
    have hP9 : va_P G vwCl [(h0, .inr (8, [.int 1, .int 0, .int (-1), .int 0, .int 0, .int (-1), .int 0, .int 0, .int 0, .int 0, .int 0, .ref h1, .ref h2, .ref h3, .ref h4, .ref h5, .ref h6, .ref h7, .ref h8, .ref h9, .ref h10, .ref h11, .ref h12, .ref h13, .ref h14, .ref h15, .ref h16, .ref h17, .ref h18, .ref h19, .int 0, .ref h20, .ref h21, .ref h22, .ref h23, .int 0, .int 0, .ref h24, .ref h25, .int (-1), .ref h26, .ref h27]))] _ := hP
    have hD9 : va_D A [(h0, .inr (8, [.int 1, .int 0, .int (-1), .int 0, .int 0, .int (-1), .int 0, .int 0, .int 0, .int 0, .int 0, .ref h1, .ref h2, .ref h3, .ref h4, .ref h5, .ref h6, .ref h7, .ref h8, .ref h9, .ref h10, .ref h11, .ref h12, .ref h13, .ref h14, .ref h15, .ref h16, .ref h17, .ref h18, .ref h19, .int 0, .ref h20, .ref h21, .ref h22, .ref h23, .int 0, .int 0, .ref h24, .ref h25, .int (-1), .ref h26, .ref h27]))] := hD
    exact W.iret (v := 9) hx hb hr (fun t ht hW => ⟨⟨9, _, rfl, Or.inl ⟨(by first | omega | decide | simp), rfl, rfl⟩, by rw [ht]; exact hP9, hD9⟩, hS.F ht⟩) hS.2.2 dX11_reason_187
  · have c2 := c_w
    have hP : va_P G vwCl [(h0, .inr (8, [.int 1, .int 0, .int (-1), .int 0, .int 0, .int (-1), .int 0, .int 0, .int 0, .int 0, .int 0, .ref h1, .ref h2, .ref h3, .ref h4, .ref h5, .ref h6, .ref h7, .ref h8, .ref h9, .ref h10, .ref h11, .ref h12, .ref h13, .ref h14, .ref h15, .ref h16, .ref h17, .ref h18, .ref h19, .int 0, .ref h20, .ref h21, .ref h22, .ref h23, .int 0, .int 0, .ref h24, .ref h25, .int (-1), .ref h26, .ref h27]))] _ := hP
    have hD : va_D A [(h0, .inr (8, [.int 1, .int 0, .int (-1), .int 0, .int 0, .int (-1), .int 0, .int 0, .int 0, .int 0, .int 0, .ref h1, .ref h2, .ref h3, .ref h4, .ref h5, .ref h6, .ref h7, .ref h8, .ref h9, .ref h10, .ref h11, .ref h12, .ref h13, .ref h14, .ref h15, .ref h16, .ref h17, .ref h18, .ref h19, .int 0, .ref h20, .ref h21, .ref h22, .ref h23, .int 0, .int 0, .ref h24, .ref h25, .int (-1), .ref h26, .ref h27]))] := hD
    refine lv_if_ne (tgt := 174) hx hb dX11_reason_166 (by decide) (fun _ => ?_) (fun c_ => absurd c_ (by decide))
    refine lv_aload_n hx hb dX11_reason_174 rfl (lv_at hl 0 rfl) ?_
    refine va_get (D := G) (ci := 8) (v := .int 0) (C := RX11) (T := TX11) (N := 42) hx hb hts iX11 hown hK hP 0 rfl rfl 6 (by decide) (hw (.fieldLink RX11 115 "MotionFloorModel$Hall" "pending" "I") (List.mem_of_getElem? (i := 2) rfl)) (fun _ h9 => h9) rfl dX11_reason_175 ?_
    refine lv_if_le (tgt := 186) hx hb dX11_reason_178 (by decide) (fun _ => ?_) (fun c_ => absurd c_ (by decide))
    refine lv_iconst (v := 0) hx hb dX11_reason_186 (by decide) ?_
    have hP9 : va_P G vwCl [(h0, .inr (8, [.int 1, .int 0, .int (-1), .int 0, .int 0, .int (-1), .int 0, .int 0, .int 0, .int 0, .int 0, .ref h1, .ref h2, .ref h3, .ref h4, .ref h5, .ref h6, .ref h7, .ref h8, .ref h9, .ref h10, .ref h11, .ref h12, .ref h13, .ref h14, .ref h15, .ref h16, .ref h17, .ref h18, .ref h19, .int 0, .ref h20, .ref h21, .ref h22, .ref h23, .int 0, .int 0, .ref h24, .ref h25, .int (-1), .ref h26, .ref h27]))] _ := hP
    have hD9 : va_D A [(h0, .inr (8, [.int 1, .int 0, .int (-1), .int 0, .int 0, .int (-1), .int 0, .int 0, .int 0, .int 0, .int 0, .ref h1, .ref h2, .ref h3, .ref h4, .ref h5, .ref h6, .ref h7, .ref h8, .ref h9, .ref h10, .ref h11, .ref h12, .ref h13, .ref h14, .ref h15, .ref h16, .ref h17, .ref h18, .ref h19, .int 0, .ref h20, .ref h21, .ref h22, .ref h23, .int 0, .int 0, .ref h24, .ref h25, .int (-1), .ref h26, .ref h27]))] := hD
    exact W.iret (v := 0) hx hb hr (fun t ht hW => ⟨⟨0, _, rfl, Or.inr (⟨(by first | omega | decide | simp), rfl, rfl⟩), by rw [ht]; exact hP9, hD9⟩, hS.F ht⟩) hS.2.2 dX11_reason_187
def e_X11_does_1 : List Cond := [.fieldLink RX11 106 "MotionFloorModel$Hall" "quorum" "I"]
def v_X11_does_1 : List Cond := .code yX11_does cX11_does 7 (some .int) :: (e_X11_does_1 ++ (wsX110 ++ []))
theorem te_X11_does_1 : GoodIn lw_tbl e_X11_does_1 := wGc z546 (wG0)
theorem t_X11_does_1 : GoodIn lw_tbl v_X11_does_1 := wGc z583 (wGa te_X11_does_1 (wGa zcX11 (wG0)))
set_option maxHeartbeats 4000000 in
set_option maxRecDepth 100000 in
theorem m_X11_does_1 (l : Launch) (G : va_G) (K : Nat → ClassId) (h0 h1 h2 h3 h4 h5 h6 h7 h8 h9 h10 h11 h12 h13 h14 h15 h16 h17 h18 h19 h20 h21 h22 h23 h24 h25 h26 h27 : Nat) (p0 : Int32) (sz : Nat) (bp0 : 0 ≤ p0.toInt ∧ p0.toInt ≤ 200) : Met l yX11_does v_X11_does_1 ({ frames := 0, cells := 0, slots := 0, locals := 0 }) (va_Pc [.ref h0, .int 3, .int p0, .int 0, .int 0, .int 0] (wS G K sz [(h0, .inr (8, [.int 1, .int 0, .int (-1), .int 0, .int 0, .int (-1), .int 0, .int 0, .int 0, .int 0, .int 0, .ref h1, .ref h2, .ref h3, .ref h4, .ref h5, .ref h6, .ref h7, .ref h8, .ref h9, .ref h10, .ref h11, .ref h12, .ref h13, .ref h14, .ref h15, .ref h16, .ref h17, .ref h18, .ref h19, .int 0, .ref h20, .ref h21, .ref h22, .ref h23, .int 0, .int 0, .ref h24, .ref h25, .int (-1), .ref h26, .ref h27]))])) (va_Qi (fun (r : Int32) (u : va_W) => (r = p0 ∧ u = [(h0, .inr (8, [.int 1, .int 0, .int (-1), .int p0, .int 0, .int (-1), .int 0, .int 0, .int 0, .int 0, .int 0, .ref h1, .ref h2, .ref h3, .ref h4, .ref h5, .ref h6, .ref h7, .ref h8, .ref h9, .ref h10, .ref h11, .ref h12, .ref h13, .ref h14, .ref h15, .ref h16, .ref h17, .ref h18, .ref h19, .int 0, .ref h20, .ref h21, .ref h22, .ref h23, .int 0, .int 0, .ref h24, .ref h25, .int (-1), .ref h26, .ref h27]))])) (wB G (va_A [(h0, .inr (8, [.int 1, .int 0, .int (-1), .int 0, .int 0, .int (-1), .int 0, .int 0, .int 0, .int 0, .int 0, .ref h1, .ref h2, .ref h3, .ref h4, .ref h5, .ref h6, .ref h7, .ref h8, .ref h9, .ref h10, .ref h11, .ref h12, .ref h13, .ref h14, .ref h15, .ref h16, .ref h17, .ref h18, .ref h19, .int 0, .ref h20, .ref h21, .ref h22, .ref h23, .int 0, .int 0, .ref h24, .ref h25, .int (-1), .ref h26, .ref h27]))] sz)) (va_A [(h0, .inr (8, [.int 1, .int 0, .int (-1), .int 0, .int 0, .int (-1), .int 0, .int 0, .int 0, .int 0, .int 0, .ref h1, .ref h2, .ref h3, .ref h4, .ref h5, .ref h6, .ref h7, .ref h8, .ref h9, .ref h10, .ref h11, .ref h12, .ref h13, .ref h14, .ref h15, .ref h16, .ref h17, .ref h18, .ref h19, .int 0, .ref h20, .ref h21, .ref h22, .ref h23, .int 0, .int 0, .ref h24, .ref h25, .int (-1), .ref h26, .ref h27]))] sz)) 0 0 (va_A [(h0, .inr (8, [.int 1, .int 0, .int (-1), .int 0, .int 0, .int (-1), .int 0, .int 0, .int 0, .int 0, .int 0, .ref h1, .ref h2, .ref h3, .ref h4, .ref h5, .ref h6, .ref h7, .ref h8, .ref h9, .ref h10, .ref h11, .ref h12, .ref h13, .ref h14, .ref h15, .ref h16, .ref h17, .ref h18, .ref h19, .int 0, .ref h20, .ref h21, .ref h22, .ref h23, .int 0, .int 0, .ref h24, .ref h25, .int (-1), .ref h26, .ref h27]))] sz) := by
  refine Met.ofW (cc := cX11_does) (maxL := 7) (ret := (some .int)) (by decide) rfl ?_
  intro p e s m args below meth c s₁ B hml hv
  obtain ⟨rfl, hsz, hP, hK, hD0, hE⟩ := hv
  have hx := B.exec
  have hb := B.bytes
  have hr := B.returns
  have hts := atoms_spec (ws := v_X11_does_1) B.pre
  have t_ := t_X11_does_1
  have mw : ∀ w ∈ e_X11_does_1, w ∈ v_X11_does_1 := fun w h => List.mem_cons_of_mem _ (List.mem_append_left _ h)
  have hw := fun w (h : w ∈ e_X11_does_1) => hts w (mw w h)
  have iX11 : ∀ w ∈ wsX110, w ∈ v_X11_does_1 := fun w h => List.mem_cons_of_mem _ (List.mem_append_right _ (List.mem_append_left _ h))
  have hown : s.vm.findClass RX11 = some m.cls := findClass_of_methodNamed B.named
  have hlocks := B.notSynchronized
  subst hsz
  have hD := hD0.self (sz := s.heap.size)
  generalize hAe : va_A [(h0, .inr (8, [.int 1, .int 0, .int (-1), .int 0, .int 0, .int (-1), .int 0, .int 0, .int 0, .int 0, .int 0, .ref h1, .ref h2, .ref h3, .ref h4, .ref h5, .ref h6, .ref h7, .ref h8, .ref h9, .ref h10, .ref h11, .ref h12, .ref h13, .ref h14, .ref h15, .ref h16, .ref h17, .ref h18, .ref h19, .int 0, .ref h20, .ref h21, .ref h22, .ref h23, .int 0, .int 0, .ref h24, .ref h25, .int (-1), .ref h26, .ref h27]))] s.heap.size = A at hD ⊢
  have hA : ∀ q : Nat, s.heap.size ≤ q → A q := fun q h => by rw [← hAe]; exact Or.inr h
  have hS : va_S A s.heap s.heap [] := va_S.rf
  have hP : va_P G vwCl [(h0, .inr (8, [.int 1, .int 0, .int (-1), .int 0, .int 0, .int (-1), .int 0, .int 0, .int 0, .int 0, .int 0, .ref h1, .ref h2, .ref h3, .ref h4, .ref h5, .ref h6, .ref h7, .ref h8, .ref h9, .ref h10, .ref h11, .ref h12, .ref h13, .ref h14, .ref h15, .ref h16, .ref h17, .ref h18, .ref h19, .int 0, .ref h20, .ref h21, .ref h22, .ref h23, .int 0, .int 0, .ref h24, .ref h25, .int (-1), .ref h26, .ref h27]))] s.heap := hP
  have hl := lv_entry ([.ref h0, .int 3, .int p0, .int 0, .int 0, .int 0]) (n := 7) (Nat.le_of_ble_eq_true rfl)
  rw [lg_entry_eq]
  generalize (lg_sl ([.ref h0, .int 3, .int p0, .int 0, .int 0, .int 0]) ++ List.replicate (7 - (lg_sl ([.ref h0, .int 3, .int p0, .int 0, .int 0, .int 0])).length) Slot.unset).toArray = ls at hl ⊢
  have hl : lv_has ls 7 [(0, .ref h0), (1, .int 3), (2, .int p0), (3, .int 0), (4, .int 0), (5, .int 0)] := hl
  refine lv_iload_n hx hb dX11_does_0 rfl (lv_at hl 1 rfl) ?_
  refine lv_tableIn (tgt := 157) hx hb dX11_does_1 (by decide) (by decide) (by decide) (by decide) ?_
  refine lv_aload_n hx hb dX11_does_157 rfl (lv_at hl 0 rfl) ?_
  refine lv_iload_n hx hb dX11_does_158 rfl (lv_at hl 2 rfl) ?_
  refine va_put (D := G) (ci := 8) (v := .int p0) (ty := .int) (C := RX11) (T := TX11) (N := 42) hx hb hts iX11 tyX11 tyX11_ok nmX11 hown hK hP hD hS 0 rfl rfl 3 (by decide) (hw (.fieldLink RX11 106 "MotionFloorModel$Hall" "quorum" "I") (List.mem_of_getElem? (i := 0) rfl)) (fun _ h9 => h9) rfl (by decide +kernel) rfl rfl (Nat.le_of_ble_eq_true rfl) dX11_does_159 (fun H locs hP hD hS => ?_)
  have hP : va_P G vwCl [(h0, .inr (8, [.int 1, .int 0, .int (-1), .int p0, .int 0, .int (-1), .int 0, .int 0, .int 0, .int 0, .int 0, .ref h1, .ref h2, .ref h3, .ref h4, .ref h5, .ref h6, .ref h7, .ref h8, .ref h9, .ref h10, .ref h11, .ref h12, .ref h13, .ref h14, .ref h15, .ref h16, .ref h17, .ref h18, .ref h19, .int 0, .ref h20, .ref h21, .ref h22, .ref h23, .int 0, .int 0, .ref h24, .ref h25, .int (-1), .ref h26, .ref h27]))] _ := hP
  have hD : va_D A [(h0, .inr (8, [.int 1, .int 0, .int (-1), .int p0, .int 0, .int (-1), .int 0, .int 0, .int 0, .int 0, .int 0, .ref h1, .ref h2, .ref h3, .ref h4, .ref h5, .ref h6, .ref h7, .ref h8, .ref h9, .ref h10, .ref h11, .ref h12, .ref h13, .ref h14, .ref h15, .ref h16, .ref h17, .ref h18, .ref h19, .int 0, .ref h20, .ref h21, .ref h22, .ref h23, .int 0, .int 0, .ref h24, .ref h25, .int (-1), .ref h26, .ref h27]))] := hD
  refine lv_iload_n hx hb dX11_does_162 rfl (lv_at hl 2 rfl) ?_
  have hP9 : va_P G vwCl [(h0, .inr (8, [.int 1, .int 0, .int (-1), .int p0, .int 0, .int (-1), .int 0, .int 0, .int 0, .int 0, .int 0, .ref h1, .ref h2, .ref h3, .ref h4, .ref h5, .ref h6, .ref h7, .ref h8, .ref h9, .ref h10, .ref h11, .ref h12, .ref h13, .ref h14, .ref h15, .ref h16, .ref h17, .ref h18, .ref h19, .int 0, .ref h20, .ref h21, .ref h22, .ref h23, .int 0, .int 0, .ref h24, .ref h25, .int (-1), .ref h26, .ref h27]))] _ := hP
  have hD9 : va_D A [(h0, .inr (8, [.int 1, .int 0, .int (-1), .int p0, .int 0, .int (-1), .int 0, .int 0, .int 0, .int 0, .int 0, .ref h1, .ref h2, .ref h3, .ref h4, .ref h5, .ref h6, .ref h7, .ref h8, .ref h9, .ref h10, .ref h11, .ref h12, .ref h13, .ref h14, .ref h15, .ref h16, .ref h17, .ref h18, .ref h19, .int 0, .ref h20, .ref h21, .ref h22, .ref h23, .int 0, .int 0, .ref h24, .ref h25, .int (-1), .ref h26, .ref h27]))] := hD
  exact W.iret (v := p0) hx hb hr (fun t ht hW => ⟨⟨p0, _, rfl, ⟨rfl, rfl⟩, by rw [ht]; exact hP9, hD9⟩, hS.F ht⟩) hS.2.2 dX11_does_163
def e_X12_in_4 : List Cond := []
def v_X12_in_4 : List Cond := .code yX12_in cX12_in 3 (some .boolean) :: (e_X12_in_4 ++ [])
theorem te_X12_in_4 : GoodIn lw_tbl e_X12_in_4 := wG0
theorem t_X12_in_4 : GoodIn lw_tbl v_X12_in_4 := wGc z573 (wGa te_X12_in_4 (wG0))
set_option maxHeartbeats 4000000 in
set_option maxRecDepth 100000 in
theorem m_X12_in_4 (l : Launch) (G : va_G) (K : Nat → ClassId) (sz : Nat) : Met l yX12_in v_X12_in_4 ({ frames := 0, cells := 0, slots := 0, locals := 0 }) (va_Pc [.int 3, .int 1, .int 22] (wS G K sz [])) (va_Qi (fun (r : Int32) (u : va_W) => (r = 1 ∧ u = [])) (wB G (va_A [] sz)) (va_A [] sz)) 0 0 (va_A [] sz) := by
  refine Met.ofW (cc := cX12_in) (maxL := 3) (ret := (some .boolean)) (by decide) rfl ?_
  intro p e s m args below meth c s₁ B hml hv
  obtain ⟨rfl, hsz, hP, hK, hD0, hE⟩ := hv
  have hx := B.exec
  have hb := B.bytes
  have hr := B.returns
  have hts := atoms_spec (ws := v_X12_in_4) B.pre
  have t_ := t_X12_in_4
  have mw : ∀ w ∈ e_X12_in_4, w ∈ v_X12_in_4 := fun w h => List.mem_cons_of_mem _ (List.mem_append_left _ h)
  have hw := fun w (h : w ∈ e_X12_in_4) => hts w (mw w h)
  have hown : s.vm.findClass RX12 = some m.cls := findClass_of_methodNamed B.named
  have hlocks := B.notSynchronized
  subst hsz
  have hD := hD0.self (sz := s.heap.size)
  generalize hAe : va_A [] s.heap.size = A at hD ⊢
  have hA : ∀ q : Nat, s.heap.size ≤ q → A q := fun q h => by rw [← hAe]; exact Or.inr h
  have hS : va_S A s.heap s.heap [] := va_S.rf
  have hP : va_P G vwCl [] s.heap := hP
  have hl := lv_entry ([.int 3, .int 1, .int 22]) (n := 3) (Nat.le_of_ble_eq_true rfl)
  rw [lg_entry_eq]
  generalize (lg_sl ([.int 3, .int 1, .int 22]) ++ List.replicate (3 - (lg_sl ([.int 3, .int 1, .int 22])).length) Slot.unset).toArray = ls at hl ⊢
  have hl : lv_has ls 3 [(0, .int 3), (1, .int 1), (2, .int 22)] := hl
  refine lv_iload_n hx hb dX12_in_0 rfl (lv_at hl 0 rfl) ?_
  refine lv_iload_n hx hb dX12_in_1 rfl (lv_at hl 1 rfl) ?_
  refine lv_icmp_lt (tgt := 14) hx hb dX12_in_2 (by decide) (fun c_ => absurd c_ (by decide)) (fun _ => ?_)
  refine lv_iload_n hx hb dX12_in_5 rfl (lv_at hl 0 rfl) ?_
  refine lv_iload_n hx hb dX12_in_6 rfl (lv_at hl 2 rfl) ?_
  refine lv_icmp_gt (tgt := 14) hx hb dX12_in_7 (by decide) (fun c_ => absurd c_ (by decide)) (fun _ => ?_)
  refine lv_iconst (v := 1) hx hb dX12_in_10 (by decide) ?_
  refine lv_goto (tgt := 15) hx hb dX12_in_11 (by decide) ?_
  have hP9 : va_P G vwCl [] _ := hP
  have hD9 : va_D A [] := hD
  exact W.zret (v := 1) (ty := .boolean) hx hb hr rfl (fun t ht hW => ⟨⟨1, _, rfl, ⟨rfl, rfl⟩, by rw [ht]; exact hP9, hD9⟩, hS.F ht⟩) hS.2.2 dX12_in_15
def e_X12_numbers_1 : List Cond := [.methodLink RX12 1 yX12_in, .static yX12_in, .initialized RX12]
def v_X12_numbers_1 : List Cond := .code yX12_numbers cX12_numbers 1 (some .int) :: (e_X12_numbers_1 ++ (v_X12_in_4 ++ []))
theorem te_X12_numbers_1 : GoodIn lw_tbl e_X12_numbers_1 := wGc z576 (wGc z575 (wGc z574 (wG0)))
theorem t_X12_numbers_1 : GoodIn lw_tbl v_X12_numbers_1 := wGc z584 (wGa te_X12_numbers_1 (wGa t_X12_in_4 (wG0)))
set_option maxHeartbeats 4000000 in
set_option maxRecDepth 100000 in
theorem m_X12_numbers_1 (l : Launch) (G : va_G) (K : Nat → ClassId) (sz : Nat) : Met l yX12_numbers v_X12_numbers_1 ({ frames := 1, cells := 0, slots := 0, locals := 22 }) (va_Pc [.int 3] (wS G K sz [])) (va_Qi (fun (r : Int32) (u : va_W) => (r = 1 ∧ u = [])) (wB G (va_A [] sz)) (va_A [] sz)) 0 0 (va_A [] sz) := by
  refine Met.ofW (cc := cX12_numbers) (maxL := 1) (ret := (some .int)) (by decide) rfl ?_
  intro p e s m args below meth c s₁ B hml hv
  obtain ⟨rfl, hsz, hP, hK, hD0, hE⟩ := hv
  have hx := B.exec
  have hb := B.bytes
  have hr := B.returns
  have hts := atoms_spec (ws := v_X12_numbers_1) B.pre
  have t_ := t_X12_numbers_1
  have mw : ∀ w ∈ e_X12_numbers_1, w ∈ v_X12_numbers_1 := fun w h => List.mem_cons_of_mem _ (List.mem_append_left _ h)
  have hw := fun w (h : w ∈ e_X12_numbers_1) => hts w (mw w h)
  have j_X12_in_4 : ∀ w ∈ v_X12_in_4, w ∈ v_X12_numbers_1 := fun w h => List.mem_cons_of_mem _ (List.mem_append_right _ (List.mem_append_left _ h))
  have hown : s.vm.findClass RX12 = some m.cls := findClass_of_methodNamed B.named
  have hlocks := B.notSynchronized
  subst hsz
  have hD := hD0.self (sz := s.heap.size)
  generalize hAe : va_A [] s.heap.size = A at hD ⊢
  have hA : ∀ q : Nat, s.heap.size ≤ q → A q := fun q h => by rw [← hAe]; exact Or.inr h
  have hS : va_S A s.heap s.heap [] := va_S.rf
  have hP : va_P G vwCl [] s.heap := hP
  have hl := lv_entry ([.int 3]) (n := 1) (Nat.le_of_ble_eq_true rfl)
  rw [lg_entry_eq]
  generalize (lg_sl ([.int 3]) ++ List.replicate (1 - (lg_sl ([.int 3])).length) Slot.unset).toArray = ls at hl ⊢
  have hl : lv_has ls 1 [(0, .int 3)] := hl
  refine lv_iload_n hx hb dX12_numbers_0 rfl (lv_at hl 0 rfl) ?_
  refine lv_tableOut (tgt := 94) hx hb dX12_numbers_1 (by decide) (by decide) ?_
  refine lv_iload_n hx hb dX12_numbers_94 rfl (lv_at hl 0 rfl) ?_
  refine lv_iconst (v := 1) hx hb dX12_numbers_95 (by decide) ?_
  refine lv_bipush (v := 22) hx hb dX12_numbers_96 (by decide) ?_
  have hPc := hP.sub (ws' := []) [] rfl
  have hDc := hD.sub (ws' := []) [] (by decide) rfl
  refine wGoi (wc := []) (wr := []) (va_runS (As := [.int 3, .int 1, .int 22]) (rest := []) ⟨hx, hb, hml, hown, hts⟩ (m_X12_in_4 l G K _) (va_cwS 3 hts (wGS t_ (mw (.methodLink RX12 1 yX12_in) (List.mem_of_getElem? (i := 0) rfl)) (mw (.static yX12_in) (List.mem_of_getElem? (i := 1) rfl)) (mw (.initialized RX12) (List.mem_of_getElem? (i := 2) rfl)) j_X12_in_4) rfl rfl rfl (by decide +kernel) ⟨Nat.le_of_ble_eq_true rfl, Nat.le_of_ble_eq_true rfl⟩) (wPS hK hE hPc hDc) rfl rfl hl.1 rfl (lv_room (Nat.le_of_ble_eq_true rfl)) dX12_numbers_98 ⟨Nat.le_of_ble_eq_true rfl, Nat.le_of_ble_eq_true rfl⟩) hP hD hS hA [] [] rfl rfl rfl (by decide) (fun r u H locs hw hP hD hS => ?_)
  rcases hw with ⟨rfl, rfl⟩
  have hP : va_P G vwCl [] _ := hP
  have hD : va_D A [] := hD
  refine lv_if_eq (tgt := 108) hx hb dX12_numbers_101 (by decide) (fun c_ => absurd c_ (by decide)) (fun _ => ?_)
  refine lv_iconst (v := 1) hx hb dX12_numbers_104 (by decide) ?_
  refine lv_goto (tgt := 109) hx hb dX12_numbers_105 (by decide) ?_
  have hP9 : va_P G vwCl [] _ := hP
  have hD9 : va_D A [] := hD
  exact W.iret (v := 1) hx hb hr (fun t ht hW => ⟨⟨1, _, rfl, ⟨rfl, rfl⟩, by rw [ht]; exact hP9, hD9⟩, hS.F ht⟩) hS.2.2 dX12_numbers_109
def e_X11_act_2 : List Cond := [.methodLink RX11 196 yX11_reason, .instanceMethod yX11_reason, .selects RX11 yX11_reason yX11_reason, .initialized RX11, .fieldLink RX11 127 "MotionFloorModel$Hall" "why" "I", .fieldLink RX11 118 "MotionFloorModel$Hall" "entries" "I", .methodLink RX11 200 yX11_does, .instanceMethod yX11_does, .selects RX11 yX11_does yX11_does, .initialized RX12, .static yX12_numbers, .fieldLink RX11 90 "MotionFloorModel$Hall" "minutes" "[I"]
def v_X11_act_2 : List Cond := .code yX11_act cX11_act 10 (some .int) :: (e_X11_act_2 ++ (wsX110 ++ (v_X11_reason_2 ++ (v_X11_does_1 ++ (v_X12_numbers_1 ++ [])))))
theorem te_X11_act_2 : GoodIn lw_tbl e_X11_act_2 := wGc z591 (wGc z590 (wGc z589 (wGc z568 (wGc z539 (wGc z542 (wGc z588 (wGc z587 (wGc z586 (wGc z574 (wGc z585 (wGc z508 (wG0))))))))))))
theorem t_X11_act_2 : GoodIn lw_tbl v_X11_act_2 := wGc z592 (wGa te_X11_act_2 (wGa zcX11 (wGa t_X11_reason_2 (wGa t_X11_does_1 (wGa t_X12_numbers_1 (wG0))))))
set_option maxHeartbeats 4000000 in
set_option maxRecDepth 100000 in
theorem m_X11_act_2 (l : Launch) (G : va_G) (K : Nat → ClassId) (h0 h1 h2 h3 h4 h5 h6 h7 h8 h9 h10 h11 h12 h13 h14 h15 h16 h17 h18 h19 h20 h21 h22 h23 h24 h25 h26 h27 : Nat) (p0 : Int32) (sz : Nat) : Met l yX11_act v_X11_act_2 ({ frames := 2, cells := 0, slots := 0, locals := 47 }) (va_Pc [.ref h0, .int 3, .int p0, .int 0, .int 0, .int 0] (wS G K sz [(h0, .inr (8, [.int 1, .int 0, .int (-1), .int 0, .int 0, .int (-1), .int 0, .int 0, .int 0, .int 0, .int 0, .ref h2, .ref h3, .ref h4, .ref h5, .ref h6, .ref h7, .ref h8, .ref h9, .ref h10, .ref h11, .ref h12, .ref h13, .ref h14, .ref h15, .ref h16, .ref h17, .ref h18, .ref h19, .ref h20, .int 0, .ref h21, .ref h22, .ref h23, .ref h24, .int 0, .int 0, .ref h25, .ref h26, .int (-1), .ref h1, .ref h27])), (h1, .inl (K 0, 3600, .inl (fun _ => 0)))])) (va_Qi (fun (r : Int32) (u : va_W) => ((((p0.toInt < 0 ∨ (p0.toInt ≥ 0 ∧ p0.toInt > 200)))) ∧ r = (-9) ∧ u = [(h0, .inr (8, [.int 1, .int 0, .int (-1), .int 0, .int 0, .int (-1), .int 0, .int 0, .int 0, .int 0, .int 9, .ref h2, .ref h3, .ref h4, .ref h5, .ref h6, .ref h7, .ref h8, .ref h9, .ref h10, .ref h11, .ref h12, .ref h13, .ref h14, .ref h15, .ref h16, .ref h17, .ref h18, .ref h19, .ref h20, .int 0, .ref h21, .ref h22, .ref h23, .ref h24, .int 0, .int 0, .ref h25, .ref h26, .int (-1), .ref h1, .ref h27])), (h1, .inl (K 0, 3600, .inl (fun _ => 0)))]) ∨ (((((p0.toInt ≥ 0 ∧ p0.toInt ≤ 200)))) ∧ r = p0 ∧ u = [(h0, .inr (8, [.int 1, .int 0, .int (-1), .int p0, .int 0, .int (-1), .int 0, .int 1, .int 0, .int 0, .int 0, .ref h2, .ref h3, .ref h4, .ref h5, .ref h6, .ref h7, .ref h8, .ref h9, .ref h10, .ref h11, .ref h12, .ref h13, .ref h14, .ref h15, .ref h16, .ref h17, .ref h18, .ref h19, .ref h20, .int 0, .ref h21, .ref h22, .ref h23, .ref h24, .int 0, .int 0, .ref h25, .ref h26, .int (-1), .ref h1, .ref h27])), (h1, .inl (K 0, 3600, .inl (upd (upd (upd (upd (upd (upd (fun _ => 0) 0 3) 1 p0) 2 0) 3 0) 4 0) 5 p0)))])) (wB G (va_A [(h0, .inr (8, [.int 1, .int 0, .int (-1), .int 0, .int 0, .int (-1), .int 0, .int 0, .int 0, .int 0, .int 0, .ref h2, .ref h3, .ref h4, .ref h5, .ref h6, .ref h7, .ref h8, .ref h9, .ref h10, .ref h11, .ref h12, .ref h13, .ref h14, .ref h15, .ref h16, .ref h17, .ref h18, .ref h19, .ref h20, .int 0, .ref h21, .ref h22, .ref h23, .ref h24, .int 0, .int 0, .ref h25, .ref h26, .int (-1), .ref h1, .ref h27])), (h1, .inl (K 0, 3600, .inl (fun _ => 0)))] sz)) (va_A [(h0, .inr (8, [.int 1, .int 0, .int (-1), .int 0, .int 0, .int (-1), .int 0, .int 0, .int 0, .int 0, .int 0, .ref h2, .ref h3, .ref h4, .ref h5, .ref h6, .ref h7, .ref h8, .ref h9, .ref h10, .ref h11, .ref h12, .ref h13, .ref h14, .ref h15, .ref h16, .ref h17, .ref h18, .ref h19, .ref h20, .int 0, .ref h21, .ref h22, .ref h23, .ref h24, .int 0, .int 0, .ref h25, .ref h26, .int (-1), .ref h1, .ref h27])), (h1, .inl (K 0, 3600, .inl (fun _ => 0)))] sz)) 0 0 (va_A [(h0, .inr (8, [.int 1, .int 0, .int (-1), .int 0, .int 0, .int (-1), .int 0, .int 0, .int 0, .int 0, .int 0, .ref h2, .ref h3, .ref h4, .ref h5, .ref h6, .ref h7, .ref h8, .ref h9, .ref h10, .ref h11, .ref h12, .ref h13, .ref h14, .ref h15, .ref h16, .ref h17, .ref h18, .ref h19, .ref h20, .int 0, .ref h21, .ref h22, .ref h23, .ref h24, .int 0, .int 0, .ref h25, .ref h26, .int (-1), .ref h1, .ref h27])), (h1, .inl (K 0, 3600, .inl (fun _ => 0)))] sz) := by
  refine Met.ofW (cc := cX11_act) (maxL := 10) (ret := (some .int)) (by decide) rfl ?_
  intro p e s m args below meth c s₁ B hml hv
  obtain ⟨rfl, hsz, hP, hK, hD0, hE⟩ := hv
  have hx := B.exec
  have hb := B.bytes
  have hr := B.returns
  have hts := atoms_spec (ws := v_X11_act_2) B.pre
  have t_ := t_X11_act_2
  have mw : ∀ w ∈ e_X11_act_2, w ∈ v_X11_act_2 := fun w h => List.mem_cons_of_mem _ (List.mem_append_left _ h)
  have hw := fun w (h : w ∈ e_X11_act_2) => hts w (mw w h)
  have iX11 : ∀ w ∈ wsX110, w ∈ v_X11_act_2 := fun w h => List.mem_cons_of_mem _ (List.mem_append_right _ (List.mem_append_left _ h))
  have j_X11_reason_2 : ∀ w ∈ v_X11_reason_2, w ∈ v_X11_act_2 := fun w h => List.mem_cons_of_mem _ (List.mem_append_right _ (List.mem_append_right _ (List.mem_append_left _ h)))
  have j_X11_does_1 : ∀ w ∈ v_X11_does_1, w ∈ v_X11_act_2 := fun w h => List.mem_cons_of_mem _ (List.mem_append_right _ (List.mem_append_right _ (List.mem_append_right _ (List.mem_append_left _ h))))
  have j_X12_numbers_1 : ∀ w ∈ v_X12_numbers_1, w ∈ v_X11_act_2 := fun w h => List.mem_cons_of_mem _ (List.mem_append_right _ (List.mem_append_right _ (List.mem_append_right _ (List.mem_append_right _ (List.mem_append_left _ h)))))
  have hown : s.vm.findClass RX11 = some m.cls := findClass_of_methodNamed B.named
  have hlocks := B.notSynchronized
  subst hsz
  have hD := hD0.self (sz := s.heap.size)
  generalize hAe : va_A [(h0, .inr (8, [.int 1, .int 0, .int (-1), .int 0, .int 0, .int (-1), .int 0, .int 0, .int 0, .int 0, .int 0, .ref h2, .ref h3, .ref h4, .ref h5, .ref h6, .ref h7, .ref h8, .ref h9, .ref h10, .ref h11, .ref h12, .ref h13, .ref h14, .ref h15, .ref h16, .ref h17, .ref h18, .ref h19, .ref h20, .int 0, .ref h21, .ref h22, .ref h23, .ref h24, .int 0, .int 0, .ref h25, .ref h26, .int (-1), .ref h1, .ref h27])), (h1, .inl (K 0, 3600, .inl (fun _ => 0)))] s.heap.size = A at hD ⊢
  have hA : ∀ q : Nat, s.heap.size ≤ q → A q := fun q h => by rw [← hAe]; exact Or.inr h
  have hS : va_S A s.heap s.heap [] := va_S.rf
  have hP : va_P G vwCl [(h0, .inr (8, [.int 1, .int 0, .int (-1), .int 0, .int 0, .int (-1), .int 0, .int 0, .int 0, .int 0, .int 0, .ref h2, .ref h3, .ref h4, .ref h5, .ref h6, .ref h7, .ref h8, .ref h9, .ref h10, .ref h11, .ref h12, .ref h13, .ref h14, .ref h15, .ref h16, .ref h17, .ref h18, .ref h19, .ref h20, .int 0, .ref h21, .ref h22, .ref h23, .ref h24, .int 0, .int 0, .ref h25, .ref h26, .int (-1), .ref h1, .ref h27])), (h1, .inl (K 0, 3600, .inl (fun _ => 0)))] s.heap := hP
  have hl := lv_entry ([.ref h0, .int 3, .int p0, .int 0, .int 0, .int 0]) (n := 10) (Nat.le_of_ble_eq_true rfl)
  rw [lg_entry_eq]
  generalize (lg_sl ([.ref h0, .int 3, .int p0, .int 0, .int 0, .int 0]) ++ List.replicate (10 - (lg_sl ([.ref h0, .int 3, .int p0, .int 0, .int 0, .int 0])).length) Slot.unset).toArray = ls at hl ⊢
  have hl : lv_has ls 10 [(0, .ref h0), (1, .int 3), (2, .int p0), (3, .int 0), (4, .int 0), (5, .int 0)] := hl
  refine lv_aload_n hx hb dX11_act_0 rfl (lv_at hl 0 rfl) ?_
  refine lv_iload_n hx hb dX11_act_1 rfl (lv_at hl 1 rfl) ?_
  refine lv_iload_n hx hb dX11_act_2 rfl (lv_at hl 2 rfl) ?_
  refine lv_iload_n hx hb dX11_act_3 rfl (lv_at hl 3 rfl) ?_
  refine lv_iload hx hb dX11_act_4 (lv_at hl 4 rfl) ?_
  refine lv_iload hx hb dX11_act_6 (lv_at hl 5 rfl) ?_
  have hPc := hP.sub (ws' := [(h0, .inr (8, [.int 1, .int 0, .int (-1), .int 0, .int 0, .int (-1), .int 0, .int 0, .int 0, .int 0, .int 0, .ref h2, .ref h3, .ref h4, .ref h5, .ref h6, .ref h7, .ref h8, .ref h9, .ref h10, .ref h11, .ref h12, .ref h13, .ref h14, .ref h15, .ref h16, .ref h17, .ref h18, .ref h19, .ref h20, .int 0, .ref h21, .ref h22, .ref h23, .ref h24, .int 0, .int 0, .ref h25, .ref h26, .int (-1), .ref h1, .ref h27]))]) [0] rfl
  have hDc := hD.sub (ws' := [(h0, .inr (8, [.int 1, .int 0, .int (-1), .int 0, .int 0, .int (-1), .int 0, .int 0, .int 0, .int 0, .int 0, .ref h2, .ref h3, .ref h4, .ref h5, .ref h6, .ref h7, .ref h8, .ref h9, .ref h10, .ref h11, .ref h12, .ref h13, .ref h14, .ref h15, .ref h16, .ref h17, .ref h18, .ref h19, .ref h20, .int 0, .ref h21, .ref h22, .ref h23, .ref h24, .int 0, .int 0, .ref h25, .ref h26, .int (-1), .ref h1, .ref h27]))]) [0] (by decide) rfl
  refine wGoi (wc := [(h0, .inr (8, [.int 1, .int 0, .int (-1), .int 0, .int 0, .int (-1), .int 0, .int 0, .int 0, .int 0, .int 0, .ref h2, .ref h3, .ref h4, .ref h5, .ref h6, .ref h7, .ref h8, .ref h9, .ref h10, .ref h11, .ref h12, .ref h13, .ref h14, .ref h15, .ref h16, .ref h17, .ref h18, .ref h19, .ref h20, .int 0, .ref h21, .ref h22, .ref h23, .ref h24, .int 0, .int 0, .ref h25, .ref h26, .int (-1), .ref h1, .ref h27]))]) (wr := [(h1, .inl (K 0, 3600, .inl (fun _ => 0)))]) (va_runV (As := [.int 3, .int p0, .int 0, .int 0, .int 0]) (rest := []) ⟨hx, hb, hml, hown, hts⟩ (m_X11_reason_2 l G K h0 h2 h3 h4 h5 h6 h7 h8 h9 h10 h11 h12 h13 h14 h15 h16 h17 h18 h19 h20 h21 h22 h23 h24 h25 h26 h1 h27 p0 _) (cwV 5 hts (wGV t_ (mw (.methodLink RX11 196 yX11_reason) (List.mem_of_getElem? (i := 0) rfl)) (mw (.instanceMethod yX11_reason) (List.mem_of_getElem? (i := 1) rfl)) (mw (.selects RX11 yX11_reason yX11_reason) (List.mem_of_getElem? (i := 2) rfl)) (mw (.initialized RX11) (List.mem_of_getElem? (i := 3) rfl)) j_X11_reason_2) rfl rfl rfl (by decide +kernel) ⟨Nat.le_of_ble_eq_true rfl, Nat.le_of_ble_eq_true rfl⟩) (wPV hK hE hPc hDc 8 0 rfl rfl) rfl rfl hl.1 rfl (lv_room (Nat.le_of_ble_eq_true rfl)) dX11_act_8 ⟨Nat.le_of_ble_eq_true rfl, Nat.le_of_ble_eq_true rfl⟩) hP hD hS hA [0] [1] rfl rfl rfl (by decide) (fun r u H locs hw hP hD hS => ?_)
  rcases hw with ⟨c_w, rfl, rfl⟩ | ⟨c_w, rfl, rfl⟩
  · have c1 := c_w
    have hP : va_P G vwCl [(h1, .inl (K 0, 3600, .inl (fun _ => 0))), (h0, .inr (8, [.int 1, .int 0, .int (-1), .int 0, .int 0, .int (-1), .int 0, .int 0, .int 0, .int 0, .int 0, .ref h2, .ref h3, .ref h4, .ref h5, .ref h6, .ref h7, .ref h8, .ref h9, .ref h10, .ref h11, .ref h12, .ref h13, .ref h14, .ref h15, .ref h16, .ref h17, .ref h18, .ref h19, .ref h20, .int 0, .ref h21, .ref h22, .ref h23, .ref h24, .int 0, .int 0, .ref h25, .ref h26, .int (-1), .ref h1, .ref h27]))] _ := hP
    have hD : va_D A [(h1, .inl (K 0, 3600, .inl (fun _ => 0))), (h0, .inr (8, [.int 1, .int 0, .int (-1), .int 0, .int 0, .int (-1), .int 0, .int 0, .int 0, .int 0, .int 0, .ref h2, .ref h3, .ref h4, .ref h5, .ref h6, .ref h7, .ref h8, .ref h9, .ref h10, .ref h11, .ref h12, .ref h13, .ref h14, .ref h15, .ref h16, .ref h17, .ref h18, .ref h19, .ref h20, .int 0, .ref h21, .ref h22, .ref h23, .ref h24, .int 0, .int 0, .ref h25, .ref h26, .int (-1), .ref h1, .ref h27]))] := hD
    refine lv_istore (lv' := [(6, .int 9), (0, .ref h0), (1, .int 3), (2, .int p0), (3, .int 0), (4, .int 0), (5, .int 0)]) hx hb dX11_act_11 hl (by decide) rfl (fun ls hl => ?_)
    refine lv_iload hx hb dX11_act_13 (lv_at hl 0 rfl) ?_
    refine lv_if_ne (tgt := 32) hx hb dX11_act_15 (by decide) (fun _ => ?_) (fun c_ => absurd c_ (by decide))
    refine lv_aload_n hx hb dX11_act_32 rfl (lv_at hl 1 rfl) ?_
    refine lv_iload hx hb dX11_act_33 (lv_at hl 0 rfl) ?_
    refine va_put (D := G) (ci := 8) (v := .int 9) (ty := .int) (C := RX11) (T := TX11) (N := 42) hx hb hts iX11 tyX11 tyX11_ok nmX11 hown hK hP hD hS 1 rfl rfl 10 (by decide) (hw (.fieldLink RX11 127 "MotionFloorModel$Hall" "why" "I") (List.mem_of_getElem? (i := 4) rfl)) (fun _ h9 => h9) rfl (by decide +kernel) rfl rfl (Nat.le_of_ble_eq_true rfl) dX11_act_35 (fun H locs hP hD hS => ?_)
    have hP : va_P G vwCl [(h1, .inl (K 0, 3600, .inl (fun _ => 0))), (h0, .inr (8, [.int 1, .int 0, .int (-1), .int 0, .int 0, .int (-1), .int 0, .int 0, .int 0, .int 0, .int 9, .ref h2, .ref h3, .ref h4, .ref h5, .ref h6, .ref h7, .ref h8, .ref h9, .ref h10, .ref h11, .ref h12, .ref h13, .ref h14, .ref h15, .ref h16, .ref h17, .ref h18, .ref h19, .ref h20, .int 0, .ref h21, .ref h22, .ref h23, .ref h24, .int 0, .int 0, .ref h25, .ref h26, .int (-1), .ref h1, .ref h27]))] _ := hP
    have hD : va_D A [(h1, .inl (K 0, 3600, .inl (fun _ => 0))), (h0, .inr (8, [.int 1, .int 0, .int (-1), .int 0, .int 0, .int (-1), .int 0, .int 0, .int 0, .int 0, .int 9, .ref h2, .ref h3, .ref h4, .ref h5, .ref h6, .ref h7, .ref h8, .ref h9, .ref h10, .ref h11, .ref h12, .ref h13, .ref h14, .ref h15, .ref h16, .ref h17, .ref h18, .ref h19, .ref h20, .int 0, .ref h21, .ref h22, .ref h23, .ref h24, .int 0, .int 0, .ref h25, .ref h26, .int (-1), .ref h1, .ref h27]))] := hD
    refine lv_iload hx hb dX11_act_38 (lv_at hl 0 rfl) ?_
    refine lv_if_le (tgt := 47) hx hb dX11_act_40 (by decide) (fun c_ => absurd c_ (by decide)) (fun _ => ?_)
    refine lv_iload hx hb dX11_act_43 (lv_at hl 0 rfl) ?_
    refine lv_ineg hx hb dX11_act_45 ?_
    refine wTop (v1 := .int (-9)) (congrArg Value.int (by decide)) ?_
    have hP9 := hP.sub (ws' := [(h0, .inr (8, [.int 1, .int 0, .int (-1), .int 0, .int 0, .int (-1), .int 0, .int 0, .int 0, .int 0, .int 9, .ref h2, .ref h3, .ref h4, .ref h5, .ref h6, .ref h7, .ref h8, .ref h9, .ref h10, .ref h11, .ref h12, .ref h13, .ref h14, .ref h15, .ref h16, .ref h17, .ref h18, .ref h19, .ref h20, .int 0, .ref h21, .ref h22, .ref h23, .ref h24, .int 0, .int 0, .ref h25, .ref h26, .int (-1), .ref h1, .ref h27])), (h1, .inl (K 0, 3600, .inl (fun _ => 0)))]) [1, 0] rfl
    have hD9 := hD.sub (ws' := [(h0, .inr (8, [.int 1, .int 0, .int (-1), .int 0, .int 0, .int (-1), .int 0, .int 0, .int 0, .int 0, .int 9, .ref h2, .ref h3, .ref h4, .ref h5, .ref h6, .ref h7, .ref h8, .ref h9, .ref h10, .ref h11, .ref h12, .ref h13, .ref h14, .ref h15, .ref h16, .ref h17, .ref h18, .ref h19, .ref h20, .int 0, .ref h21, .ref h22, .ref h23, .ref h24, .int 0, .int 0, .ref h25, .ref h26, .int (-1), .ref h1, .ref h27])), (h1, .inl (K 0, 3600, .inl (fun _ => 0)))]) [1, 0] (by decide) rfl
    exact W.iret (v := (-9)) hx hb hr (fun t ht hW => ⟨⟨(-9), _, rfl, Or.inl ⟨(by first | omega | decide | simp), rfl, rfl⟩, by rw [ht]; exact hP9, hD9⟩, hS.F ht⟩) hS.2.2 dX11_act_46
  · have c2 := c_w
    have hP : va_P G vwCl [(h1, .inl (K 0, 3600, .inl (fun _ => 0))), (h0, .inr (8, [.int 1, .int 0, .int (-1), .int 0, .int 0, .int (-1), .int 0, .int 0, .int 0, .int 0, .int 0, .ref h2, .ref h3, .ref h4, .ref h5, .ref h6, .ref h7, .ref h8, .ref h9, .ref h10, .ref h11, .ref h12, .ref h13, .ref h14, .ref h15, .ref h16, .ref h17, .ref h18, .ref h19, .ref h20, .int 0, .ref h21, .ref h22, .ref h23, .ref h24, .int 0, .int 0, .ref h25, .ref h26, .int (-1), .ref h1, .ref h27]))] _ := hP
    have hD : va_D A [(h1, .inl (K 0, 3600, .inl (fun _ => 0))), (h0, .inr (8, [.int 1, .int 0, .int (-1), .int 0, .int 0, .int (-1), .int 0, .int 0, .int 0, .int 0, .int 0, .ref h2, .ref h3, .ref h4, .ref h5, .ref h6, .ref h7, .ref h8, .ref h9, .ref h10, .ref h11, .ref h12, .ref h13, .ref h14, .ref h15, .ref h16, .ref h17, .ref h18, .ref h19, .ref h20, .int 0, .ref h21, .ref h22, .ref h23, .ref h24, .int 0, .int 0, .ref h25, .ref h26, .int (-1), .ref h1, .ref h27]))] := hD
    refine lv_istore (lv' := [(6, .int 0), (0, .ref h0), (1, .int 3), (2, .int p0), (3, .int 0), (4, .int 0), (5, .int 0)]) hx hb dX11_act_11 hl (by decide) rfl (fun ls hl => ?_)
    refine lv_iload hx hb dX11_act_13 (lv_at hl 0 rfl) ?_
    refine lv_if_ne (tgt := 32) hx hb dX11_act_15 (by decide) (fun c_ => absurd c_ (by decide)) (fun _ => ?_)
    refine lv_aload_n hx hb dX11_act_18 rfl (lv_at hl 1 rfl) ?_
    refine va_get (D := G) (ci := 8) (v := .int 0) (C := RX11) (T := TX11) (N := 42) hx hb hts iX11 hown hK hP 1 rfl rfl 7 (by decide) (hw (.fieldLink RX11 118 "MotionFloorModel$Hall" "entries" "I") (List.mem_of_getElem? (i := 5) rfl)) (fun _ h9 => h9) rfl dX11_act_19 ?_
    refine lv_sipush (v := 600) hx hb dX11_act_22 (by decide) ?_
    refine lv_icmp_ne (tgt := 32) hx hb dX11_act_25 (by decide) (fun _ => ?_) (fun c_ => absurd c_ (by decide))
    refine lv_aload_n hx hb dX11_act_32 rfl (lv_at hl 1 rfl) ?_
    refine lv_iload hx hb dX11_act_33 (lv_at hl 0 rfl) ?_
    refine va_put (D := G) (ci := 8) (v := .int 0) (ty := .int) (C := RX11) (T := TX11) (N := 42) hx hb hts iX11 tyX11 tyX11_ok nmX11 hown hK hP hD hS 1 rfl rfl 10 (by decide) (hw (.fieldLink RX11 127 "MotionFloorModel$Hall" "why" "I") (List.mem_of_getElem? (i := 4) rfl)) (fun _ h9 => h9) rfl (by decide +kernel) rfl rfl (Nat.le_of_ble_eq_true rfl) dX11_act_35 (fun H locs hP hD hS => ?_)
    have hP : va_P G vwCl [(h1, .inl (K 0, 3600, .inl (fun _ => 0))), (h0, .inr (8, [.int 1, .int 0, .int (-1), .int 0, .int 0, .int (-1), .int 0, .int 0, .int 0, .int 0, .int 0, .ref h2, .ref h3, .ref h4, .ref h5, .ref h6, .ref h7, .ref h8, .ref h9, .ref h10, .ref h11, .ref h12, .ref h13, .ref h14, .ref h15, .ref h16, .ref h17, .ref h18, .ref h19, .ref h20, .int 0, .ref h21, .ref h22, .ref h23, .ref h24, .int 0, .int 0, .ref h25, .ref h26, .int (-1), .ref h1, .ref h27]))] _ := hP
    have hD : va_D A [(h1, .inl (K 0, 3600, .inl (fun _ => 0))), (h0, .inr (8, [.int 1, .int 0, .int (-1), .int 0, .int 0, .int (-1), .int 0, .int 0, .int 0, .int 0, .int 0, .ref h2, .ref h3, .ref h4, .ref h5, .ref h6, .ref h7, .ref h8, .ref h9, .ref h10, .ref h11, .ref h12, .ref h13, .ref h14, .ref h15, .ref h16, .ref h17, .ref h18, .ref h19, .ref h20, .int 0, .ref h21, .ref h22, .ref h23, .ref h24, .int 0, .int 0, .ref h25, .ref h26, .int (-1), .ref h1, .ref h27]))] := hD
    refine lv_iload hx hb dX11_act_38 (lv_at hl 0 rfl) ?_
    refine lv_if_le (tgt := 47) hx hb dX11_act_40 (by decide) (fun _ => ?_) (fun c_ => absurd c_ (by decide))
    refine lv_aload_n hx hb dX11_act_47 rfl (lv_at hl 1 rfl) ?_
    refine lv_iload_n hx hb dX11_act_48 rfl (lv_at hl 2 rfl) ?_
    refine lv_iload_n hx hb dX11_act_49 rfl (lv_at hl 3 rfl) ?_
    refine lv_iload_n hx hb dX11_act_50 rfl (lv_at hl 4 rfl) ?_
    refine lv_iload hx hb dX11_act_51 (lv_at hl 5 rfl) ?_
    refine lv_iload hx hb dX11_act_53 (lv_at hl 6 rfl) ?_
    have hPc := hP.sub (ws' := [(h0, .inr (8, [.int 1, .int 0, .int (-1), .int 0, .int 0, .int (-1), .int 0, .int 0, .int 0, .int 0, .int 0, .ref h2, .ref h3, .ref h4, .ref h5, .ref h6, .ref h7, .ref h8, .ref h9, .ref h10, .ref h11, .ref h12, .ref h13, .ref h14, .ref h15, .ref h16, .ref h17, .ref h18, .ref h19, .ref h20, .int 0, .ref h21, .ref h22, .ref h23, .ref h24, .int 0, .int 0, .ref h25, .ref h26, .int (-1), .ref h1, .ref h27]))]) [1] rfl
    have hDc := hD.sub (ws' := [(h0, .inr (8, [.int 1, .int 0, .int (-1), .int 0, .int 0, .int (-1), .int 0, .int 0, .int 0, .int 0, .int 0, .ref h2, .ref h3, .ref h4, .ref h5, .ref h6, .ref h7, .ref h8, .ref h9, .ref h10, .ref h11, .ref h12, .ref h13, .ref h14, .ref h15, .ref h16, .ref h17, .ref h18, .ref h19, .ref h20, .int 0, .ref h21, .ref h22, .ref h23, .ref h24, .int 0, .int 0, .ref h25, .ref h26, .int (-1), .ref h1, .ref h27]))]) [1] (by decide) rfl
    refine wGoi (wc := [(h0, .inr (8, [.int 1, .int 0, .int (-1), .int 0, .int 0, .int (-1), .int 0, .int 0, .int 0, .int 0, .int 0, .ref h2, .ref h3, .ref h4, .ref h5, .ref h6, .ref h7, .ref h8, .ref h9, .ref h10, .ref h11, .ref h12, .ref h13, .ref h14, .ref h15, .ref h16, .ref h17, .ref h18, .ref h19, .ref h20, .int 0, .ref h21, .ref h22, .ref h23, .ref h24, .int 0, .int 0, .ref h25, .ref h26, .int (-1), .ref h1, .ref h27]))]) (wr := [(h1, .inl (K 0, 3600, .inl (fun _ => 0)))]) (va_runV (As := [.int 3, .int p0, .int 0, .int 0, .int 0]) (rest := []) ⟨hx, hb, hml, hown, hts⟩ (m_X11_does_1 l G K h0 h2 h3 h4 h5 h6 h7 h8 h9 h10 h11 h12 h13 h14 h15 h16 h17 h18 h19 h20 h21 h22 h23 h24 h25 h26 h1 h27 p0 _ (by omega)) (cwV 5 hts (wGV t_ (mw (.methodLink RX11 200 yX11_does) (List.mem_of_getElem? (i := 6) rfl)) (mw (.instanceMethod yX11_does) (List.mem_of_getElem? (i := 7) rfl)) (mw (.selects RX11 yX11_does yX11_does) (List.mem_of_getElem? (i := 8) rfl)) (mw (.initialized RX11) (List.mem_of_getElem? (i := 3) rfl)) j_X11_does_1) rfl rfl rfl (by decide +kernel) ⟨Nat.le_of_ble_eq_true rfl, Nat.le_of_ble_eq_true rfl⟩) (wPV hK hE hPc hDc 8 0 rfl rfl) rfl rfl hl.1 rfl (lv_room (Nat.le_of_ble_eq_true rfl)) dX11_act_55 ⟨Nat.le_of_ble_eq_true rfl, Nat.le_of_ble_eq_true rfl⟩) hP hD hS hA [1] [0] rfl rfl rfl (by decide) (fun r u H locs hw hP hD hS => ?_)
    rcases hw with ⟨rfl, rfl⟩
    have hP : va_P G vwCl [(h1, .inl (K 0, 3600, .inl (fun _ => 0))), (h0, .inr (8, [.int 1, .int 0, .int (-1), .int p0, .int 0, .int (-1), .int 0, .int 0, .int 0, .int 0, .int 0, .ref h2, .ref h3, .ref h4, .ref h5, .ref h6, .ref h7, .ref h8, .ref h9, .ref h10, .ref h11, .ref h12, .ref h13, .ref h14, .ref h15, .ref h16, .ref h17, .ref h18, .ref h19, .ref h20, .int 0, .ref h21, .ref h22, .ref h23, .ref h24, .int 0, .int 0, .ref h25, .ref h26, .int (-1), .ref h1, .ref h27]))] _ := hP
    have hD : va_D A [(h1, .inl (K 0, 3600, .inl (fun _ => 0))), (h0, .inr (8, [.int 1, .int 0, .int (-1), .int p0, .int 0, .int (-1), .int 0, .int 0, .int 0, .int 0, .int 0, .ref h2, .ref h3, .ref h4, .ref h5, .ref h6, .ref h7, .ref h8, .ref h9, .ref h10, .ref h11, .ref h12, .ref h13, .ref h14, .ref h15, .ref h16, .ref h17, .ref h18, .ref h19, .ref h20, .int 0, .ref h21, .ref h22, .ref h23, .ref h24, .int 0, .int 0, .ref h25, .ref h26, .int (-1), .ref h1, .ref h27]))] := hD
    refine lv_istore (lv' := [(7, .int p0), (6, .int 0), (0, .ref h0), (1, .int 3), (2, .int p0), (3, .int 0), (4, .int 0), (5, .int 0)]) hx hb dX11_act_58 hl (by decide) rfl (fun ls hl => ?_)
    refine lv_bipush (v := 6) hx hb dX11_act_60 (by decide) ?_
    refine lv_aload_n hx hb dX11_act_62 rfl (lv_at hl 2 rfl) ?_
    refine va_get (D := G) (ci := 8) (v := .int 0) (C := RX11) (T := TX11) (N := 42) hx hb hts iX11 hown hK hP 1 rfl rfl 7 (by decide) (hw (.fieldLink RX11 118 "MotionFloorModel$Hall" "entries" "I") (List.mem_of_getElem? (i := 5) rfl)) (fun _ h9 => h9) rfl dX11_act_63 ?_
    refine lv_imul hx hb dX11_act_66 ?_
    refine wTop (v1 := .int 0) (congrArg Value.int (by decide)) ?_
    refine lv_istore (lv' := [(8, .int 0), (7, .int p0), (6, .int 0), (0, .ref h0), (1, .int 3), (2, .int p0), (3, .int 0), (4, .int 0), (5, .int 0)]) hx hb dX11_act_67 hl (by decide) rfl (fun ls hl => ?_)
    refine lv_iload_n hx hb dX11_act_69 rfl (lv_at hl 4 rfl) ?_
    have hPc := hP.sub (ws' := []) [] rfl
    have hDc := hD.sub (ws' := []) [] (by decide) rfl
    refine wGoi (wc := []) (wr := [(h1, .inl (K 0, 3600, .inl (fun _ => 0))), (h0, .inr (8, [.int 1, .int 0, .int (-1), .int p0, .int 0, .int (-1), .int 0, .int 0, .int 0, .int 0, .int 0, .ref h2, .ref h3, .ref h4, .ref h5, .ref h6, .ref h7, .ref h8, .ref h9, .ref h10, .ref h11, .ref h12, .ref h13, .ref h14, .ref h15, .ref h16, .ref h17, .ref h18, .ref h19, .ref h20, .int 0, .ref h21, .ref h22, .ref h23, .ref h24, .int 0, .int 0, .ref h25, .ref h26, .int (-1), .ref h1, .ref h27]))]) (va_runSN (As := [.int 3]) (rest := []) ⟨hx, hb, hml, hown, hts⟩ (m_X12_numbers_1 l G K _) ⟨va_cnB (host := "MotionFloorModel") 1 hts (wGP t_ j_X12_numbers_1) rfl rfl rfl hE.2.2.2.2.2.2.2.2.2.2 (hw (.initialized RX12) (List.mem_of_getElem? (i := 9) rfl)) (by decide +kernel) ⟨Nat.le_of_ble_eq_true rfl, Nat.le_of_ble_eq_true rfl⟩, (hw (.static yX12_numbers) (List.mem_of_getElem? (i := 10) rfl)), trivial⟩ (wPS hK hE hPc hDc) rfl rfl hl.1 rfl (lv_room (Nat.le_of_ble_eq_true rfl)) dX11_act_70 ⟨Nat.le_of_ble_eq_true rfl, Nat.le_of_ble_eq_true rfl⟩) hP hD hS hA [] [0, 1] rfl rfl rfl (by decide) (fun r u H locs hw hP hD hS => ?_)
    rcases hw with ⟨rfl, rfl⟩
    have hP : va_P G vwCl [(h1, .inl (K 0, 3600, .inl (fun _ => 0))), (h0, .inr (8, [.int 1, .int 0, .int (-1), .int p0, .int 0, .int (-1), .int 0, .int 0, .int 0, .int 0, .int 0, .ref h2, .ref h3, .ref h4, .ref h5, .ref h6, .ref h7, .ref h8, .ref h9, .ref h10, .ref h11, .ref h12, .ref h13, .ref h14, .ref h15, .ref h16, .ref h17, .ref h18, .ref h19, .ref h20, .int 0, .ref h21, .ref h22, .ref h23, .ref h24, .int 0, .int 0, .ref h25, .ref h26, .int (-1), .ref h1, .ref h27]))] _ := hP
    have hD : va_D A [(h1, .inl (K 0, 3600, .inl (fun _ => 0))), (h0, .inr (8, [.int 1, .int 0, .int (-1), .int p0, .int 0, .int (-1), .int 0, .int 0, .int 0, .int 0, .int 0, .ref h2, .ref h3, .ref h4, .ref h5, .ref h6, .ref h7, .ref h8, .ref h9, .ref h10, .ref h11, .ref h12, .ref h13, .ref h14, .ref h15, .ref h16, .ref h17, .ref h18, .ref h19, .ref h20, .int 0, .ref h21, .ref h22, .ref h23, .ref h24, .int 0, .int 0, .ref h25, .ref h26, .int (-1), .ref h1, .ref h27]))] := hD
    refine lv_istore (lv' := [(9, .int 1), (8, .int 0), (7, .int p0), (6, .int 0), (0, .ref h0), (1, .int 3), (2, .int p0), (3, .int 0), (4, .int 0), (5, .int 0)]) hx hb dX11_act_73 hl (by decide) rfl (fun ls hl => ?_)
    refine lv_aload_n hx hb dX11_act_75 rfl (lv_at hl 4 rfl) ?_
    refine va_get (D := G) (ci := 8) (v := .ref h1) (C := RX11) (T := TX11) (N := 42) hx hb hts iX11 hown hK hP 1 rfl rfl 40 (by decide) (hw (.fieldLink RX11 90 "MotionFloorModel$Hall" "minutes" "[I") (List.mem_of_getElem? (i := 11) rfl)) (fun _ h9 => h9) rfl dX11_act_76 ?_
    refine lv_iload hx hb dX11_act_79 (lv_at hl 1 rfl) ?_
    refine lv_iload_n hx hb dX11_act_81 rfl (lv_at hl 5 rfl) ?_
    refine va_iast hx hb hK hP hD hS 0 0 rfl rfl (vp_in_iff.mpr (by decide)) dX11_act_82 (fun H locs hP hD hS => ?_)
    have hP : va_P G vwCl [(h1, .inl (K 0, 3600, .inl (upd (fun _ => 0) 0 3))), (h0, .inr (8, [.int 1, .int 0, .int (-1), .int p0, .int 0, .int (-1), .int 0, .int 0, .int 0, .int 0, .int 0, .ref h2, .ref h3, .ref h4, .ref h5, .ref h6, .ref h7, .ref h8, .ref h9, .ref h10, .ref h11, .ref h12, .ref h13, .ref h14, .ref h15, .ref h16, .ref h17, .ref h18, .ref h19, .ref h20, .int 0, .ref h21, .ref h22, .ref h23, .ref h24, .int 0, .int 0, .ref h25, .ref h26, .int (-1), .ref h1, .ref h27]))] _ := hP
    have hD : va_D A [(h1, .inl (K 0, 3600, .inl (upd (fun _ => 0) 0 3))), (h0, .inr (8, [.int 1, .int 0, .int (-1), .int p0, .int 0, .int (-1), .int 0, .int 0, .int 0, .int 0, .int 0, .ref h2, .ref h3, .ref h4, .ref h5, .ref h6, .ref h7, .ref h8, .ref h9, .ref h10, .ref h11, .ref h12, .ref h13, .ref h14, .ref h15, .ref h16, .ref h17, .ref h18, .ref h19, .ref h20, .int 0, .ref h21, .ref h22, .ref h23, .ref h24, .int 0, .int 0, .ref h25, .ref h26, .int (-1), .ref h1, .ref h27]))] := hD
    refine lv_aload_n hx hb dX11_act_83 rfl (lv_at hl 4 rfl) ?_
    refine va_get (D := G) (ci := 8) (v := .ref h1) (C := RX11) (T := TX11) (N := 42) hx hb hts iX11 hown hK hP 1 rfl rfl 40 (by decide) (hw (.fieldLink RX11 90 "MotionFloorModel$Hall" "minutes" "[I") (List.mem_of_getElem? (i := 11) rfl)) (fun _ h9 => h9) rfl dX11_act_84 ?_
    refine lv_iload hx hb dX11_act_87 (lv_at hl 1 rfl) ?_
    refine lv_iconst (v := 1) hx hb dX11_act_89 (by decide) ?_
    refine lv_iadd hx hb dX11_act_90 ?_
    refine wTop (v1 := .int 1) (congrArg Value.int (by decide)) ?_
    refine lv_iload hx hb dX11_act_91 (lv_at hl 0 rfl) ?_
    refine lv_if_le (tgt := 100) hx hb dX11_act_93 (by decide) (fun c_ => absurd c_ (by decide)) (fun _ => ?_)
    refine lv_iload_n hx hb dX11_act_96 rfl (lv_at hl 6 rfl) ?_
    refine lv_goto (tgt := 101) hx hb dX11_act_97 (by decide) ?_
    refine va_iast hx hb hK hP hD hS 0 0 rfl rfl (vp_in_iff.mpr (by decide)) dX11_act_101 (fun H locs hP hD hS => ?_)
    have hP : va_P G vwCl [(h1, .inl (K 0, 3600, .inl (upd (upd (fun _ => 0) 0 3) 1 p0))), (h0, .inr (8, [.int 1, .int 0, .int (-1), .int p0, .int 0, .int (-1), .int 0, .int 0, .int 0, .int 0, .int 0, .ref h2, .ref h3, .ref h4, .ref h5, .ref h6, .ref h7, .ref h8, .ref h9, .ref h10, .ref h11, .ref h12, .ref h13, .ref h14, .ref h15, .ref h16, .ref h17, .ref h18, .ref h19, .ref h20, .int 0, .ref h21, .ref h22, .ref h23, .ref h24, .int 0, .int 0, .ref h25, .ref h26, .int (-1), .ref h1, .ref h27]))] _ := hP
    have hD : va_D A [(h1, .inl (K 0, 3600, .inl (upd (upd (fun _ => 0) 0 3) 1 p0))), (h0, .inr (8, [.int 1, .int 0, .int (-1), .int p0, .int 0, .int (-1), .int 0, .int 0, .int 0, .int 0, .int 0, .ref h2, .ref h3, .ref h4, .ref h5, .ref h6, .ref h7, .ref h8, .ref h9, .ref h10, .ref h11, .ref h12, .ref h13, .ref h14, .ref h15, .ref h16, .ref h17, .ref h18, .ref h19, .ref h20, .int 0, .ref h21, .ref h22, .ref h23, .ref h24, .int 0, .int 0, .ref h25, .ref h26, .int (-1), .ref h1, .ref h27]))] := hD
    refine lv_aload_n hx hb dX11_act_102 rfl (lv_at hl 4 rfl) ?_
    refine va_get (D := G) (ci := 8) (v := .ref h1) (C := RX11) (T := TX11) (N := 42) hx hb hts iX11 hown hK hP 1 rfl rfl 40 (by decide) (hw (.fieldLink RX11 90 "MotionFloorModel$Hall" "minutes" "[I") (List.mem_of_getElem? (i := 11) rfl)) (fun _ h9 => h9) rfl dX11_act_103 ?_
    refine lv_iload hx hb dX11_act_106 (lv_at hl 1 rfl) ?_
    refine lv_iconst (v := 2) hx hb dX11_act_108 (by decide) ?_
    refine lv_iadd hx hb dX11_act_109 ?_
    refine wTop (v1 := .int 2) (congrArg Value.int (by decide)) ?_
    refine lv_iload hx hb dX11_act_110 (lv_at hl 0 rfl) ?_
    refine lv_iconst (v := 1) hx hb dX11_act_112 (by decide) ?_
    refine lv_icmp_le (tgt := 120) hx hb dX11_act_113 (by decide) (fun _ => ?_) (fun c_ => absurd c_ (by decide))
    refine lv_iconst (v := 0) hx hb dX11_act_120 (by decide) ?_
    refine va_iast hx hb hK hP hD hS 0 0 rfl rfl (vp_in_iff.mpr (by decide)) dX11_act_121 (fun H locs hP hD hS => ?_)
    have hP : va_P G vwCl [(h1, .inl (K 0, 3600, .inl (upd (upd (upd (fun _ => 0) 0 3) 1 p0) 2 0))), (h0, .inr (8, [.int 1, .int 0, .int (-1), .int p0, .int 0, .int (-1), .int 0, .int 0, .int 0, .int 0, .int 0, .ref h2, .ref h3, .ref h4, .ref h5, .ref h6, .ref h7, .ref h8, .ref h9, .ref h10, .ref h11, .ref h12, .ref h13, .ref h14, .ref h15, .ref h16, .ref h17, .ref h18, .ref h19, .ref h20, .int 0, .ref h21, .ref h22, .ref h23, .ref h24, .int 0, .int 0, .ref h25, .ref h26, .int (-1), .ref h1, .ref h27]))] _ := hP
    have hD : va_D A [(h1, .inl (K 0, 3600, .inl (upd (upd (upd (fun _ => 0) 0 3) 1 p0) 2 0))), (h0, .inr (8, [.int 1, .int 0, .int (-1), .int p0, .int 0, .int (-1), .int 0, .int 0, .int 0, .int 0, .int 0, .ref h2, .ref h3, .ref h4, .ref h5, .ref h6, .ref h7, .ref h8, .ref h9, .ref h10, .ref h11, .ref h12, .ref h13, .ref h14, .ref h15, .ref h16, .ref h17, .ref h18, .ref h19, .ref h20, .int 0, .ref h21, .ref h22, .ref h23, .ref h24, .int 0, .int 0, .ref h25, .ref h26, .int (-1), .ref h1, .ref h27]))] := hD
    refine lv_aload_n hx hb dX11_act_122 rfl (lv_at hl 4 rfl) ?_
    refine va_get (D := G) (ci := 8) (v := .ref h1) (C := RX11) (T := TX11) (N := 42) hx hb hts iX11 hown hK hP 1 rfl rfl 40 (by decide) (hw (.fieldLink RX11 90 "MotionFloorModel$Hall" "minutes" "[I") (List.mem_of_getElem? (i := 11) rfl)) (fun _ h9 => h9) rfl dX11_act_123 ?_
    refine lv_iload hx hb dX11_act_126 (lv_at hl 1 rfl) ?_
    refine lv_iconst (v := 3) hx hb dX11_act_128 (by decide) ?_
    refine lv_iadd hx hb dX11_act_129 ?_
    refine wTop (v1 := .int 3) (congrArg Value.int (by decide)) ?_
    refine lv_iload hx hb dX11_act_130 (lv_at hl 0 rfl) ?_
    refine lv_iconst (v := 2) hx hb dX11_act_132 (by decide) ?_
    refine lv_icmp_le (tgt := 141) hx hb dX11_act_133 (by decide) (fun _ => ?_) (fun c_ => absurd c_ (by decide))
    refine lv_iconst (v := 0) hx hb dX11_act_141 (by decide) ?_
    refine va_iast hx hb hK hP hD hS 0 0 rfl rfl (vp_in_iff.mpr (by decide)) dX11_act_142 (fun H locs hP hD hS => ?_)
    have hP : va_P G vwCl [(h1, .inl (K 0, 3600, .inl (upd (upd (upd (upd (fun _ => 0) 0 3) 1 p0) 2 0) 3 0))), (h0, .inr (8, [.int 1, .int 0, .int (-1), .int p0, .int 0, .int (-1), .int 0, .int 0, .int 0, .int 0, .int 0, .ref h2, .ref h3, .ref h4, .ref h5, .ref h6, .ref h7, .ref h8, .ref h9, .ref h10, .ref h11, .ref h12, .ref h13, .ref h14, .ref h15, .ref h16, .ref h17, .ref h18, .ref h19, .ref h20, .int 0, .ref h21, .ref h22, .ref h23, .ref h24, .int 0, .int 0, .ref h25, .ref h26, .int (-1), .ref h1, .ref h27]))] _ := hP
    have hD : va_D A [(h1, .inl (K 0, 3600, .inl (upd (upd (upd (upd (fun _ => 0) 0 3) 1 p0) 2 0) 3 0))), (h0, .inr (8, [.int 1, .int 0, .int (-1), .int p0, .int 0, .int (-1), .int 0, .int 0, .int 0, .int 0, .int 0, .ref h2, .ref h3, .ref h4, .ref h5, .ref h6, .ref h7, .ref h8, .ref h9, .ref h10, .ref h11, .ref h12, .ref h13, .ref h14, .ref h15, .ref h16, .ref h17, .ref h18, .ref h19, .ref h20, .int 0, .ref h21, .ref h22, .ref h23, .ref h24, .int 0, .int 0, .ref h25, .ref h26, .int (-1), .ref h1, .ref h27]))] := hD
    refine lv_aload_n hx hb dX11_act_143 rfl (lv_at hl 4 rfl) ?_
    refine va_get (D := G) (ci := 8) (v := .ref h1) (C := RX11) (T := TX11) (N := 42) hx hb hts iX11 hown hK hP 1 rfl rfl 40 (by decide) (hw (.fieldLink RX11 90 "MotionFloorModel$Hall" "minutes" "[I") (List.mem_of_getElem? (i := 11) rfl)) (fun _ h9 => h9) rfl dX11_act_144 ?_
    refine lv_iload hx hb dX11_act_147 (lv_at hl 1 rfl) ?_
    refine lv_iconst (v := 4) hx hb dX11_act_149 (by decide) ?_
    refine lv_iadd hx hb dX11_act_150 ?_
    refine wTop (v1 := .int 4) (congrArg Value.int (by decide)) ?_
    refine lv_iload hx hb dX11_act_151 (lv_at hl 0 rfl) ?_
    refine lv_iconst (v := 3) hx hb dX11_act_153 (by decide) ?_
    refine lv_icmp_le (tgt := 162) hx hb dX11_act_154 (by decide) (fun _ => ?_) (fun c_ => absurd c_ (by decide))
    refine lv_iconst (v := 0) hx hb dX11_act_162 (by decide) ?_
    refine va_iast hx hb hK hP hD hS 0 0 rfl rfl (vp_in_iff.mpr (by decide)) dX11_act_163 (fun H locs hP hD hS => ?_)
    have hP : va_P G vwCl [(h1, .inl (K 0, 3600, .inl (upd (upd (upd (upd (upd (fun _ => 0) 0 3) 1 p0) 2 0) 3 0) 4 0))), (h0, .inr (8, [.int 1, .int 0, .int (-1), .int p0, .int 0, .int (-1), .int 0, .int 0, .int 0, .int 0, .int 0, .ref h2, .ref h3, .ref h4, .ref h5, .ref h6, .ref h7, .ref h8, .ref h9, .ref h10, .ref h11, .ref h12, .ref h13, .ref h14, .ref h15, .ref h16, .ref h17, .ref h18, .ref h19, .ref h20, .int 0, .ref h21, .ref h22, .ref h23, .ref h24, .int 0, .int 0, .ref h25, .ref h26, .int (-1), .ref h1, .ref h27]))] _ := hP
    have hD : va_D A [(h1, .inl (K 0, 3600, .inl (upd (upd (upd (upd (upd (fun _ => 0) 0 3) 1 p0) 2 0) 3 0) 4 0))), (h0, .inr (8, [.int 1, .int 0, .int (-1), .int p0, .int 0, .int (-1), .int 0, .int 0, .int 0, .int 0, .int 0, .ref h2, .ref h3, .ref h4, .ref h5, .ref h6, .ref h7, .ref h8, .ref h9, .ref h10, .ref h11, .ref h12, .ref h13, .ref h14, .ref h15, .ref h16, .ref h17, .ref h18, .ref h19, .ref h20, .int 0, .ref h21, .ref h22, .ref h23, .ref h24, .int 0, .int 0, .ref h25, .ref h26, .int (-1), .ref h1, .ref h27]))] := hD
    refine lv_aload_n hx hb dX11_act_164 rfl (lv_at hl 4 rfl) ?_
    refine va_get (D := G) (ci := 8) (v := .ref h1) (C := RX11) (T := TX11) (N := 42) hx hb hts iX11 hown hK hP 1 rfl rfl 40 (by decide) (hw (.fieldLink RX11 90 "MotionFloorModel$Hall" "minutes" "[I") (List.mem_of_getElem? (i := 11) rfl)) (fun _ h9 => h9) rfl dX11_act_165 ?_
    refine lv_iload hx hb dX11_act_168 (lv_at hl 1 rfl) ?_
    refine lv_iconst (v := 5) hx hb dX11_act_170 (by decide) ?_
    refine lv_iadd hx hb dX11_act_171 ?_
    refine wTop (v1 := .int 5) (congrArg Value.int (by decide)) ?_
    refine lv_iload hx hb dX11_act_172 (lv_at hl 2 rfl) ?_
    refine va_iast hx hb hK hP hD hS 0 0 rfl rfl (vp_in_iff.mpr (by decide)) dX11_act_174 (fun H locs hP hD hS => ?_)
    have hP : va_P G vwCl [(h1, .inl (K 0, 3600, .inl (upd (upd (upd (upd (upd (upd (fun _ => 0) 0 3) 1 p0) 2 0) 3 0) 4 0) 5 p0))), (h0, .inr (8, [.int 1, .int 0, .int (-1), .int p0, .int 0, .int (-1), .int 0, .int 0, .int 0, .int 0, .int 0, .ref h2, .ref h3, .ref h4, .ref h5, .ref h6, .ref h7, .ref h8, .ref h9, .ref h10, .ref h11, .ref h12, .ref h13, .ref h14, .ref h15, .ref h16, .ref h17, .ref h18, .ref h19, .ref h20, .int 0, .ref h21, .ref h22, .ref h23, .ref h24, .int 0, .int 0, .ref h25, .ref h26, .int (-1), .ref h1, .ref h27]))] _ := hP
    have hD : va_D A [(h1, .inl (K 0, 3600, .inl (upd (upd (upd (upd (upd (upd (fun _ => 0) 0 3) 1 p0) 2 0) 3 0) 4 0) 5 p0))), (h0, .inr (8, [.int 1, .int 0, .int (-1), .int p0, .int 0, .int (-1), .int 0, .int 0, .int 0, .int 0, .int 0, .ref h2, .ref h3, .ref h4, .ref h5, .ref h6, .ref h7, .ref h8, .ref h9, .ref h10, .ref h11, .ref h12, .ref h13, .ref h14, .ref h15, .ref h16, .ref h17, .ref h18, .ref h19, .ref h20, .int 0, .ref h21, .ref h22, .ref h23, .ref h24, .int 0, .int 0, .ref h25, .ref h26, .int (-1), .ref h1, .ref h27]))] := hD
    refine lv_aload_n hx hb dX11_act_175 rfl (lv_at hl 4 rfl) ?_
    refine lv_dup hx hb dX11_act_176 rfl ?_
    refine va_get (D := G) (ci := 8) (v := .int 0) (C := RX11) (T := TX11) (N := 42) hx hb hts iX11 hown hK hP 1 rfl rfl 7 (by decide) (hw (.fieldLink RX11 118 "MotionFloorModel$Hall" "entries" "I") (List.mem_of_getElem? (i := 5) rfl)) (fun _ h9 => h9) rfl dX11_act_177 ?_
    refine lv_iconst (v := 1) hx hb dX11_act_180 (by decide) ?_
    refine lv_iadd hx hb dX11_act_181 ?_
    refine wTop (v1 := .int 1) (congrArg Value.int (by decide)) ?_
    refine va_put (D := G) (ci := 8) (v := .int 1) (ty := .int) (C := RX11) (T := TX11) (N := 42) hx hb hts iX11 tyX11 tyX11_ok nmX11 hown hK hP hD hS 1 rfl rfl 7 (by decide) (hw (.fieldLink RX11 118 "MotionFloorModel$Hall" "entries" "I") (List.mem_of_getElem? (i := 5) rfl)) (fun _ h9 => h9) rfl (by decide +kernel) rfl rfl (Nat.le_of_ble_eq_true rfl) dX11_act_182 (fun H locs hP hD hS => ?_)
    have hP : va_P G vwCl [(h1, .inl (K 0, 3600, .inl (upd (upd (upd (upd (upd (upd (fun _ => 0) 0 3) 1 p0) 2 0) 3 0) 4 0) 5 p0))), (h0, .inr (8, [.int 1, .int 0, .int (-1), .int p0, .int 0, .int (-1), .int 0, .int 1, .int 0, .int 0, .int 0, .ref h2, .ref h3, .ref h4, .ref h5, .ref h6, .ref h7, .ref h8, .ref h9, .ref h10, .ref h11, .ref h12, .ref h13, .ref h14, .ref h15, .ref h16, .ref h17, .ref h18, .ref h19, .ref h20, .int 0, .ref h21, .ref h22, .ref h23, .ref h24, .int 0, .int 0, .ref h25, .ref h26, .int (-1), .ref h1, .ref h27]))] _ := hP
    have hD : va_D A [(h1, .inl (K 0, 3600, .inl (upd (upd (upd (upd (upd (upd (fun _ => 0) 0 3) 1 p0) 2 0) 3 0) 4 0) 5 p0))), (h0, .inr (8, [.int 1, .int 0, .int (-1), .int p0, .int 0, .int (-1), .int 0, .int 1, .int 0, .int 0, .int 0, .ref h2, .ref h3, .ref h4, .ref h5, .ref h6, .ref h7, .ref h8, .ref h9, .ref h10, .ref h11, .ref h12, .ref h13, .ref h14, .ref h15, .ref h16, .ref h17, .ref h18, .ref h19, .ref h20, .int 0, .ref h21, .ref h22, .ref h23, .ref h24, .int 0, .int 0, .ref h25, .ref h26, .int (-1), .ref h1, .ref h27]))] := hD
    refine lv_iload hx hb dX11_act_185 (lv_at hl 2 rfl) ?_
    have hP9 := hP.sub (ws' := [(h0, .inr (8, [.int 1, .int 0, .int (-1), .int p0, .int 0, .int (-1), .int 0, .int 1, .int 0, .int 0, .int 0, .ref h2, .ref h3, .ref h4, .ref h5, .ref h6, .ref h7, .ref h8, .ref h9, .ref h10, .ref h11, .ref h12, .ref h13, .ref h14, .ref h15, .ref h16, .ref h17, .ref h18, .ref h19, .ref h20, .int 0, .ref h21, .ref h22, .ref h23, .ref h24, .int 0, .int 0, .ref h25, .ref h26, .int (-1), .ref h1, .ref h27])), (h1, .inl (K 0, 3600, .inl (upd (upd (upd (upd (upd (upd (fun _ => 0) 0 3) 1 p0) 2 0) 3 0) 4 0) 5 p0)))]) [1, 0] rfl
    have hD9 := hD.sub (ws' := [(h0, .inr (8, [.int 1, .int 0, .int (-1), .int p0, .int 0, .int (-1), .int 0, .int 1, .int 0, .int 0, .int 0, .ref h2, .ref h3, .ref h4, .ref h5, .ref h6, .ref h7, .ref h8, .ref h9, .ref h10, .ref h11, .ref h12, .ref h13, .ref h14, .ref h15, .ref h16, .ref h17, .ref h18, .ref h19, .ref h20, .int 0, .ref h21, .ref h22, .ref h23, .ref h24, .int 0, .int 0, .ref h25, .ref h26, .int (-1), .ref h1, .ref h27])), (h1, .inl (K 0, 3600, .inl (upd (upd (upd (upd (upd (upd (fun _ => 0) 0 3) 1 p0) 2 0) 3 0) 4 0) 5 p0)))]) [1, 0] (by decide) rfl
    exact W.iret (v := p0) hx hb hr (fun t ht hW => ⟨⟨p0, _, rfl, Or.inr (⟨(by first | omega | decide | simp), rfl, rfl⟩), by rw [ht]; exact hP9, hD9⟩, hS.F ht⟩) hS.2.2 dX11_act_187
def e_X12_quorum_0 : List Cond := [.fieldLink RX12 16 "MotionFloorModel" "hall" "LMotionFloorModel$Hall;", .methodLink RX12 40 yX11_act, .instanceMethod yX11_act, .selects RX11 yX11_act yX11_act, .initialized RX11]
def v_X12_quorum_0 : List Cond := .code yX12_quorum cX12_quorum 2 (some .int) :: (e_X12_quorum_0 ++ (wsX120 ++ (v_X11_act_2 ++ [])))
theorem te_X12_quorum_0 : GoodIn lw_tbl e_X12_quorum_0 := wGc z566 (wGc z595 (wGc z594 (wGc z593 (wGc z568 (wG0)))))
theorem t_X12_quorum_0 : GoodIn lw_tbl v_X12_quorum_0 := wGc z598 (wGa te_X12_quorum_0 (wGa zcX12 (wGa t_X11_act_2 (wG0))))
set_option maxHeartbeats 4000000 in
set_option maxRecDepth 100000 in
theorem m_X12_quorum_0 (l : Launch) (G : va_G) (K : Nat → ClassId) (h0 h1 h2 h3 h4 h5 h6 h7 h8 h9 h10 h11 h12 h13 h14 h15 h16 h17 h18 h19 h20 h21 h22 h23 h24 h25 h26 h27 h28 h29 h30 h31 h32 h33 : Nat) (p0 : Int32) (sz : Nat) : Met l yX12_quorum v_X12_quorum_0 ({ frames := 3, cells := 0, slots := 0, locals := 76 }) (va_Pc [.ref h0, .int p0] (wS G K sz [(h0, .inr (9, [.ref h1, .ref h3, .ref h4, .ref h5, .ref h6, .ref h7, .int 0])), (h1, .inr (8, [.int 1, .int 0, .int (-1), .int 0, .int 0, .int (-1), .int 0, .int 0, .int 0, .int 0, .int 0, .ref h8, .ref h9, .ref h10, .ref h11, .ref h12, .ref h13, .ref h14, .ref h15, .ref h16, .ref h17, .ref h18, .ref h19, .ref h20, .ref h21, .ref h22, .ref h23, .ref h24, .ref h25, .ref h26, .int 0, .ref h27, .ref h28, .ref h29, .ref h30, .int 0, .int 0, .ref h31, .ref h32, .int (-1), .ref h2, .ref h33])), (h2, .inl (K 0, 3600, .inl (fun _ => 0)))])) (va_Qi (fun (r : Int32) (u : va_W) => (((((p0.toInt < 0 ∨ (p0.toInt ≥ 0 ∧ p0.toInt > 200))))) ∧ r = (-9) ∧ u = [(h0, .inr (9, [.ref h1, .ref h3, .ref h4, .ref h5, .ref h6, .ref h7, .int 0])), (h1, .inr (8, [.int 1, .int 0, .int (-1), .int 0, .int 0, .int (-1), .int 0, .int 0, .int 0, .int 0, .int 9, .ref h8, .ref h9, .ref h10, .ref h11, .ref h12, .ref h13, .ref h14, .ref h15, .ref h16, .ref h17, .ref h18, .ref h19, .ref h20, .ref h21, .ref h22, .ref h23, .ref h24, .ref h25, .ref h26, .int 0, .ref h27, .ref h28, .ref h29, .ref h30, .int 0, .int 0, .ref h31, .ref h32, .int (-1), .ref h2, .ref h33])), (h2, .inl (K 0, 3600, .inl (fun _ => 0)))]) ∨ ((((((p0.toInt ≥ 0 ∧ p0.toInt ≤ 200))))) ∧ r = p0 ∧ u = [(h0, .inr (9, [.ref h1, .ref h3, .ref h4, .ref h5, .ref h6, .ref h7, .int 0])), (h1, .inr (8, [.int 1, .int 0, .int (-1), .int p0, .int 0, .int (-1), .int 0, .int 1, .int 0, .int 0, .int 0, .ref h8, .ref h9, .ref h10, .ref h11, .ref h12, .ref h13, .ref h14, .ref h15, .ref h16, .ref h17, .ref h18, .ref h19, .ref h20, .ref h21, .ref h22, .ref h23, .ref h24, .ref h25, .ref h26, .int 0, .ref h27, .ref h28, .ref h29, .ref h30, .int 0, .int 0, .ref h31, .ref h32, .int (-1), .ref h2, .ref h33])), (h2, .inl (K 0, 3600, .inl (upd (upd (upd (upd (upd (upd (fun _ => 0) 0 3) 1 p0) 2 0) 3 0) 4 0) 5 p0)))])) (wB G (va_A [(h0, .inr (9, [.ref h1, .ref h3, .ref h4, .ref h5, .ref h6, .ref h7, .int 0])), (h1, .inr (8, [.int 1, .int 0, .int (-1), .int 0, .int 0, .int (-1), .int 0, .int 0, .int 0, .int 0, .int 0, .ref h8, .ref h9, .ref h10, .ref h11, .ref h12, .ref h13, .ref h14, .ref h15, .ref h16, .ref h17, .ref h18, .ref h19, .ref h20, .ref h21, .ref h22, .ref h23, .ref h24, .ref h25, .ref h26, .int 0, .ref h27, .ref h28, .ref h29, .ref h30, .int 0, .int 0, .ref h31, .ref h32, .int (-1), .ref h2, .ref h33])), (h2, .inl (K 0, 3600, .inl (fun _ => 0)))] sz)) (va_A [(h0, .inr (9, [.ref h1, .ref h3, .ref h4, .ref h5, .ref h6, .ref h7, .int 0])), (h1, .inr (8, [.int 1, .int 0, .int (-1), .int 0, .int 0, .int (-1), .int 0, .int 0, .int 0, .int 0, .int 0, .ref h8, .ref h9, .ref h10, .ref h11, .ref h12, .ref h13, .ref h14, .ref h15, .ref h16, .ref h17, .ref h18, .ref h19, .ref h20, .ref h21, .ref h22, .ref h23, .ref h24, .ref h25, .ref h26, .int 0, .ref h27, .ref h28, .ref h29, .ref h30, .int 0, .int 0, .ref h31, .ref h32, .int (-1), .ref h2, .ref h33])), (h2, .inl (K 0, 3600, .inl (fun _ => 0)))] sz)) 0 0 (va_A [(h0, .inr (9, [.ref h1, .ref h3, .ref h4, .ref h5, .ref h6, .ref h7, .int 0])), (h1, .inr (8, [.int 1, .int 0, .int (-1), .int 0, .int 0, .int (-1), .int 0, .int 0, .int 0, .int 0, .int 0, .ref h8, .ref h9, .ref h10, .ref h11, .ref h12, .ref h13, .ref h14, .ref h15, .ref h16, .ref h17, .ref h18, .ref h19, .ref h20, .ref h21, .ref h22, .ref h23, .ref h24, .ref h25, .ref h26, .int 0, .ref h27, .ref h28, .ref h29, .ref h30, .int 0, .int 0, .ref h31, .ref h32, .int (-1), .ref h2, .ref h33])), (h2, .inl (K 0, 3600, .inl (fun _ => 0)))] sz) := by
  refine Met.ofW (cc := cX12_quorum) (maxL := 2) (ret := (some .int)) (by decide) rfl ?_
  intro p e s m args below meth c s₁ B hml hv
  obtain ⟨rfl, hsz, hP, hK, hD0, hE⟩ := hv
  have hx := B.exec
  have hb := B.bytes
  have hr := B.returns
  have hts := atoms_spec (ws := v_X12_quorum_0) B.pre
  have t_ := t_X12_quorum_0
  have mw : ∀ w ∈ e_X12_quorum_0, w ∈ v_X12_quorum_0 := fun w h => List.mem_cons_of_mem _ (List.mem_append_left _ h)
  have hw := fun w (h : w ∈ e_X12_quorum_0) => hts w (mw w h)
  have iX12 : ∀ w ∈ wsX120, w ∈ v_X12_quorum_0 := fun w h => List.mem_cons_of_mem _ (List.mem_append_right _ (List.mem_append_left _ h))
  have j_X11_act_2 : ∀ w ∈ v_X11_act_2, w ∈ v_X12_quorum_0 := fun w h => List.mem_cons_of_mem _ (List.mem_append_right _ (List.mem_append_right _ (List.mem_append_left _ h)))
  have hown : s.vm.findClass RX12 = some m.cls := findClass_of_methodNamed B.named
  have hlocks := B.notSynchronized
  subst hsz
  have hD := hD0.self (sz := s.heap.size)
  generalize hAe : va_A [(h0, .inr (9, [.ref h1, .ref h3, .ref h4, .ref h5, .ref h6, .ref h7, .int 0])), (h1, .inr (8, [.int 1, .int 0, .int (-1), .int 0, .int 0, .int (-1), .int 0, .int 0, .int 0, .int 0, .int 0, .ref h8, .ref h9, .ref h10, .ref h11, .ref h12, .ref h13, .ref h14, .ref h15, .ref h16, .ref h17, .ref h18, .ref h19, .ref h20, .ref h21, .ref h22, .ref h23, .ref h24, .ref h25, .ref h26, .int 0, .ref h27, .ref h28, .ref h29, .ref h30, .int 0, .int 0, .ref h31, .ref h32, .int (-1), .ref h2, .ref h33])), (h2, .inl (K 0, 3600, .inl (fun _ => 0)))] s.heap.size = A at hD ⊢
  have hA : ∀ q : Nat, s.heap.size ≤ q → A q := fun q h => by rw [← hAe]; exact Or.inr h
  have hS : va_S A s.heap s.heap [] := va_S.rf
  have hP : va_P G vwCl [(h0, .inr (9, [.ref h1, .ref h3, .ref h4, .ref h5, .ref h6, .ref h7, .int 0])), (h1, .inr (8, [.int 1, .int 0, .int (-1), .int 0, .int 0, .int (-1), .int 0, .int 0, .int 0, .int 0, .int 0, .ref h8, .ref h9, .ref h10, .ref h11, .ref h12, .ref h13, .ref h14, .ref h15, .ref h16, .ref h17, .ref h18, .ref h19, .ref h20, .ref h21, .ref h22, .ref h23, .ref h24, .ref h25, .ref h26, .int 0, .ref h27, .ref h28, .ref h29, .ref h30, .int 0, .int 0, .ref h31, .ref h32, .int (-1), .ref h2, .ref h33])), (h2, .inl (K 0, 3600, .inl (fun _ => 0)))] s.heap := hP
  have hl := lv_entry ([.ref h0, .int p0]) (n := 2) (Nat.le_of_ble_eq_true rfl)
  rw [lg_entry_eq]
  generalize (lg_sl ([.ref h0, .int p0]) ++ List.replicate (2 - (lg_sl ([.ref h0, .int p0])).length) Slot.unset).toArray = ls at hl ⊢
  have hl : lv_has ls 2 [(0, .ref h0), (1, .int p0)] := hl
  refine lv_aload_n hx hb dX12_quorum_0 rfl (lv_at hl 0 rfl) ?_
  refine va_get (D := G) (ci := 9) (v := .ref h1) (C := RX12) (T := TX12) (N := 7) hx hb hts iX12 hown hK hP 0 rfl rfl 0 (by decide) (hw (.fieldLink RX12 16 "MotionFloorModel" "hall" "LMotionFloorModel$Hall;") (List.mem_of_getElem? (i := 0) rfl)) (fun _ h9 => h9) rfl dX12_quorum_1 ?_
  refine lv_iconst (v := 3) hx hb dX12_quorum_4 (by decide) ?_
  refine lv_iload_n hx hb dX12_quorum_5 rfl (lv_at hl 1 rfl) ?_
  refine lv_iconst (v := 0) hx hb dX12_quorum_6 (by decide) ?_
  refine lv_iconst (v := 0) hx hb dX12_quorum_7 (by decide) ?_
  refine lv_iconst (v := 0) hx hb dX12_quorum_8 (by decide) ?_
  have hPc := hP.sub (ws' := [(h1, .inr (8, [.int 1, .int 0, .int (-1), .int 0, .int 0, .int (-1), .int 0, .int 0, .int 0, .int 0, .int 0, .ref h8, .ref h9, .ref h10, .ref h11, .ref h12, .ref h13, .ref h14, .ref h15, .ref h16, .ref h17, .ref h18, .ref h19, .ref h20, .ref h21, .ref h22, .ref h23, .ref h24, .ref h25, .ref h26, .int 0, .ref h27, .ref h28, .ref h29, .ref h30, .int 0, .int 0, .ref h31, .ref h32, .int (-1), .ref h2, .ref h33])), (h2, .inl (K 0, 3600, .inl (fun _ => 0)))]) [1, 2] rfl
  have hDc := hD.sub (ws' := [(h1, .inr (8, [.int 1, .int 0, .int (-1), .int 0, .int 0, .int (-1), .int 0, .int 0, .int 0, .int 0, .int 0, .ref h8, .ref h9, .ref h10, .ref h11, .ref h12, .ref h13, .ref h14, .ref h15, .ref h16, .ref h17, .ref h18, .ref h19, .ref h20, .ref h21, .ref h22, .ref h23, .ref h24, .ref h25, .ref h26, .int 0, .ref h27, .ref h28, .ref h29, .ref h30, .int 0, .int 0, .ref h31, .ref h32, .int (-1), .ref h2, .ref h33])), (h2, .inl (K 0, 3600, .inl (fun _ => 0)))]) [1, 2] (by decide) rfl
  refine wGoi (wc := [(h1, .inr (8, [.int 1, .int 0, .int (-1), .int 0, .int 0, .int (-1), .int 0, .int 0, .int 0, .int 0, .int 0, .ref h8, .ref h9, .ref h10, .ref h11, .ref h12, .ref h13, .ref h14, .ref h15, .ref h16, .ref h17, .ref h18, .ref h19, .ref h20, .ref h21, .ref h22, .ref h23, .ref h24, .ref h25, .ref h26, .int 0, .ref h27, .ref h28, .ref h29, .ref h30, .int 0, .int 0, .ref h31, .ref h32, .int (-1), .ref h2, .ref h33])), (h2, .inl (K 0, 3600, .inl (fun _ => 0)))]) (wr := [(h0, .inr (9, [.ref h1, .ref h3, .ref h4, .ref h5, .ref h6, .ref h7, .int 0]))]) (va_runV (As := [.int 3, .int p0, .int 0, .int 0, .int 0]) (rest := []) ⟨hx, hb, hml, hown, hts⟩ (m_X11_act_2 l G K h1 h2 h8 h9 h10 h11 h12 h13 h14 h15 h16 h17 h18 h19 h20 h21 h22 h23 h24 h25 h26 h27 h28 h29 h30 h31 h32 h33 p0 _) (cwV 5 hts (wGV t_ (mw (.methodLink RX12 40 yX11_act) (List.mem_of_getElem? (i := 1) rfl)) (mw (.instanceMethod yX11_act) (List.mem_of_getElem? (i := 2) rfl)) (mw (.selects RX11 yX11_act yX11_act) (List.mem_of_getElem? (i := 3) rfl)) (mw (.initialized RX11) (List.mem_of_getElem? (i := 4) rfl)) j_X11_act_2) rfl rfl rfl (by decide +kernel) ⟨Nat.le_of_ble_eq_true rfl, Nat.le_of_ble_eq_true rfl⟩) (wPV hK hE hPc hDc 8 0 rfl rfl) rfl rfl hl.1 rfl (lv_room (Nat.le_of_ble_eq_true rfl)) dX12_quorum_9 ⟨Nat.le_of_ble_eq_true rfl, Nat.le_of_ble_eq_true rfl⟩) hP hD hS hA [1, 2] [0] rfl rfl rfl (by decide) (fun r u H locs hw hP hD hS => ?_)
  rcases hw with ⟨c_w, rfl, rfl⟩ | ⟨c_w, rfl, rfl⟩
  · have c1 := c_w
    have hP : va_P G vwCl [(h0, .inr (9, [.ref h1, .ref h3, .ref h4, .ref h5, .ref h6, .ref h7, .int 0])), (h1, .inr (8, [.int 1, .int 0, .int (-1), .int 0, .int 0, .int (-1), .int 0, .int 0, .int 0, .int 0, .int 9, .ref h8, .ref h9, .ref h10, .ref h11, .ref h12, .ref h13, .ref h14, .ref h15, .ref h16, .ref h17, .ref h18, .ref h19, .ref h20, .ref h21, .ref h22, .ref h23, .ref h24, .ref h25, .ref h26, .int 0, .ref h27, .ref h28, .ref h29, .ref h30, .int 0, .int 0, .ref h31, .ref h32, .int (-1), .ref h2, .ref h33])), (h2, .inl (K 0, 3600, .inl (fun _ => 0)))] _ := hP
    have hD : va_D A [(h0, .inr (9, [.ref h1, .ref h3, .ref h4, .ref h5, .ref h6, .ref h7, .int 0])), (h1, .inr (8, [.int 1, .int 0, .int (-1), .int 0, .int 0, .int (-1), .int 0, .int 0, .int 0, .int 0, .int 9, .ref h8, .ref h9, .ref h10, .ref h11, .ref h12, .ref h13, .ref h14, .ref h15, .ref h16, .ref h17, .ref h18, .ref h19, .ref h20, .ref h21, .ref h22, .ref h23, .ref h24, .ref h25, .ref h26, .int 0, .ref h27, .ref h28, .ref h29, .ref h30, .int 0, .int 0, .ref h31, .ref h32, .int (-1), .ref h2, .ref h33])), (h2, .inl (K 0, 3600, .inl (fun _ => 0)))] := hD
    have hP9 : va_P G vwCl [(h0, .inr (9, [.ref h1, .ref h3, .ref h4, .ref h5, .ref h6, .ref h7, .int 0])), (h1, .inr (8, [.int 1, .int 0, .int (-1), .int 0, .int 0, .int (-1), .int 0, .int 0, .int 0, .int 0, .int 9, .ref h8, .ref h9, .ref h10, .ref h11, .ref h12, .ref h13, .ref h14, .ref h15, .ref h16, .ref h17, .ref h18, .ref h19, .ref h20, .ref h21, .ref h22, .ref h23, .ref h24, .ref h25, .ref h26, .int 0, .ref h27, .ref h28, .ref h29, .ref h30, .int 0, .int 0, .ref h31, .ref h32, .int (-1), .ref h2, .ref h33])), (h2, .inl (K 0, 3600, .inl (fun _ => 0)))] _ := hP
    have hD9 : va_D A [(h0, .inr (9, [.ref h1, .ref h3, .ref h4, .ref h5, .ref h6, .ref h7, .int 0])), (h1, .inr (8, [.int 1, .int 0, .int (-1), .int 0, .int 0, .int (-1), .int 0, .int 0, .int 0, .int 0, .int 9, .ref h8, .ref h9, .ref h10, .ref h11, .ref h12, .ref h13, .ref h14, .ref h15, .ref h16, .ref h17, .ref h18, .ref h19, .ref h20, .ref h21, .ref h22, .ref h23, .ref h24, .ref h25, .ref h26, .int 0, .ref h27, .ref h28, .ref h29, .ref h30, .int 0, .int 0, .ref h31, .ref h32, .int (-1), .ref h2, .ref h33])), (h2, .inl (K 0, 3600, .inl (fun _ => 0)))] := hD
    exact W.iret (v := (-9)) hx hb hr (fun t ht hW => ⟨⟨(-9), _, rfl, Or.inl ⟨(by first | omega | decide | simp), rfl, rfl⟩, by rw [ht]; exact hP9, hD9⟩, hS.F ht⟩) hS.2.2 dX12_quorum_12
  · have c2 := c_w
    have hP : va_P G vwCl [(h0, .inr (9, [.ref h1, .ref h3, .ref h4, .ref h5, .ref h6, .ref h7, .int 0])), (h1, .inr (8, [.int 1, .int 0, .int (-1), .int p0, .int 0, .int (-1), .int 0, .int 1, .int 0, .int 0, .int 0, .ref h8, .ref h9, .ref h10, .ref h11, .ref h12, .ref h13, .ref h14, .ref h15, .ref h16, .ref h17, .ref h18, .ref h19, .ref h20, .ref h21, .ref h22, .ref h23, .ref h24, .ref h25, .ref h26, .int 0, .ref h27, .ref h28, .ref h29, .ref h30, .int 0, .int 0, .ref h31, .ref h32, .int (-1), .ref h2, .ref h33])), (h2, .inl (K 0, 3600, .inl (upd (upd (upd (upd (upd (upd (fun _ => 0) 0 3) 1 p0) 2 0) 3 0) 4 0) 5 p0)))] _ := hP
    have hD : va_D A [(h0, .inr (9, [.ref h1, .ref h3, .ref h4, .ref h5, .ref h6, .ref h7, .int 0])), (h1, .inr (8, [.int 1, .int 0, .int (-1), .int p0, .int 0, .int (-1), .int 0, .int 1, .int 0, .int 0, .int 0, .ref h8, .ref h9, .ref h10, .ref h11, .ref h12, .ref h13, .ref h14, .ref h15, .ref h16, .ref h17, .ref h18, .ref h19, .ref h20, .ref h21, .ref h22, .ref h23, .ref h24, .ref h25, .ref h26, .int 0, .ref h27, .ref h28, .ref h29, .ref h30, .int 0, .int 0, .ref h31, .ref h32, .int (-1), .ref h2, .ref h33])), (h2, .inl (K 0, 3600, .inl (upd (upd (upd (upd (upd (upd (fun _ => 0) 0 3) 1 p0) 2 0) 3 0) 4 0) 5 p0)))] := hD
    have hP9 : va_P G vwCl [(h0, .inr (9, [.ref h1, .ref h3, .ref h4, .ref h5, .ref h6, .ref h7, .int 0])), (h1, .inr (8, [.int 1, .int 0, .int (-1), .int p0, .int 0, .int (-1), .int 0, .int 1, .int 0, .int 0, .int 0, .ref h8, .ref h9, .ref h10, .ref h11, .ref h12, .ref h13, .ref h14, .ref h15, .ref h16, .ref h17, .ref h18, .ref h19, .ref h20, .ref h21, .ref h22, .ref h23, .ref h24, .ref h25, .ref h26, .int 0, .ref h27, .ref h28, .ref h29, .ref h30, .int 0, .int 0, .ref h31, .ref h32, .int (-1), .ref h2, .ref h33])), (h2, .inl (K 0, 3600, .inl (upd (upd (upd (upd (upd (upd (fun _ => 0) 0 3) 1 p0) 2 0) 3 0) 4 0) 5 p0)))] _ := hP
    have hD9 : va_D A [(h0, .inr (9, [.ref h1, .ref h3, .ref h4, .ref h5, .ref h6, .ref h7, .int 0])), (h1, .inr (8, [.int 1, .int 0, .int (-1), .int p0, .int 0, .int (-1), .int 0, .int 1, .int 0, .int 0, .int 0, .ref h8, .ref h9, .ref h10, .ref h11, .ref h12, .ref h13, .ref h14, .ref h15, .ref h16, .ref h17, .ref h18, .ref h19, .ref h20, .ref h21, .ref h22, .ref h23, .ref h24, .ref h25, .ref h26, .int 0, .ref h27, .ref h28, .ref h29, .ref h30, .int 0, .int 0, .ref h31, .ref h32, .int (-1), .ref h2, .ref h33])), (h2, .inl (K 0, 3600, .inl (upd (upd (upd (upd (upd (upd (fun _ => 0) 0 3) 1 p0) 2 0) 3 0) 4 0) 5 p0)))] := hD
    exact W.iret (v := p0) hx hb hr (fun t ht hW => ⟨⟨p0, _, rfl, Or.inr (⟨(by first | omega | decide | simp), rfl, rfl⟩), by rw [ht]; exact hP9, hD9⟩, hS.F ht⟩) hS.2.2 dX12_quorum_12
def e_X11_reason_3 : List Cond := [.methodLink RX11 140 yX11_isSeat, .instanceMethod yX11_isSeat, .selects RX11 yX11_isSeat yX11_isSeat, .initialized RX11, .fieldLink RX11 9 "MotionFloorModel$Hall" "isThere" "[Z"]
def v_X11_reason_3 : List Cond := .code yX11_reason cX11_reason 6 (some .int) :: (e_X11_reason_3 ++ (wsX110 ++ (v_X11_isSeat_0 ++ [])))
theorem te_X11_reason_3 : GoodIn lw_tbl e_X11_reason_3 := wGc z581 (wGc z580 (wGc z579 (wGc z568 (wGc z534 (wG0)))))
theorem t_X11_reason_3 : GoodIn lw_tbl v_X11_reason_3 := wGc z582 (wGa te_X11_reason_3 (wGa zcX11 (wGa t_X11_isSeat_0 (wG0))))
set_option maxHeartbeats 4000000 in
set_option maxRecDepth 100000 in
theorem m_X11_reason_3 (l : Launch) (G : va_G) (K : Nat → ClassId) (h0 h1 h2 h3 h4 h5 h6 h7 h8 h9 h10 h11 h12 h13 h14 h15 h16 h17 h18 h19 h20 h21 h22 h23 h24 h25 h26 h27 : Nat) (p0 : Int32) (sz : Nat) : Met l yX11_reason v_X11_reason_3 ({ frames := 2, cells := 0, slots := 0, locals := 43 }) (va_Pc [.ref h0, .int 4, .int p0, .int 0, .int 0, .int 0] (wS G K sz [(h0, .inr (8, [.int 1, .int 0, .int (-1), .int 0, .int 0, .int (-1), .int 0, .int 0, .int 0, .int 0, .int 0, .ref h1, .ref h2, .ref h3, .ref h4, .ref h5, .ref h6, .ref h7, .ref h8, .ref h9, .ref h10, .ref h11, .ref h12, .ref h13, .ref h14, .ref h15, .ref h16, .ref h17, .ref h18, .ref h19, .int 0, .ref h20, .ref h21, .ref h22, .ref h23, .int 0, .int 0, .ref h24, .ref h25, .int (-1), .ref h26, .ref h27])), (h1, .inl (K 1, 200, .inl (fun _ => 0)))])) (va_Qi (fun (r : Int32) (u : va_W) => ((((p0.toInt < 0 ∨ (p0.toInt ≥ 0 ∧ p0.toInt > 0)))) ∧ r = 9 ∧ u = [(h0, .inr (8, [.int 1, .int 0, .int (-1), .int 0, .int 0, .int (-1), .int 0, .int 0, .int 0, .int 0, .int 0, .ref h1, .ref h2, .ref h3, .ref h4, .ref h5, .ref h6, .ref h7, .ref h8, .ref h9, .ref h10, .ref h11, .ref h12, .ref h13, .ref h14, .ref h15, .ref h16, .ref h17, .ref h18, .ref h19, .int 0, .ref h20, .ref h21, .ref h22, .ref h23, .int 0, .int 0, .ref h24, .ref h25, .int (-1), .ref h26, .ref h27])), (h1, .inl (K 1, 200, .inl (fun _ => 0)))]) ∨ (((((p0.toInt ≥ 0 ∧ p0.toInt ≤ 0)))) ∧ r = 8 ∧ u = [(h0, .inr (8, [.int 1, .int 0, .int (-1), .int 0, .int 0, .int (-1), .int 0, .int 0, .int 0, .int 0, .int 0, .ref h1, .ref h2, .ref h3, .ref h4, .ref h5, .ref h6, .ref h7, .ref h8, .ref h9, .ref h10, .ref h11, .ref h12, .ref h13, .ref h14, .ref h15, .ref h16, .ref h17, .ref h18, .ref h19, .int 0, .ref h20, .ref h21, .ref h22, .ref h23, .int 0, .int 0, .ref h24, .ref h25, .int (-1), .ref h26, .ref h27])), (h1, .inl (K 1, 200, .inl (fun _ => 0)))])) (wB G (va_A [(h0, .inr (8, [.int 1, .int 0, .int (-1), .int 0, .int 0, .int (-1), .int 0, .int 0, .int 0, .int 0, .int 0, .ref h1, .ref h2, .ref h3, .ref h4, .ref h5, .ref h6, .ref h7, .ref h8, .ref h9, .ref h10, .ref h11, .ref h12, .ref h13, .ref h14, .ref h15, .ref h16, .ref h17, .ref h18, .ref h19, .int 0, .ref h20, .ref h21, .ref h22, .ref h23, .int 0, .int 0, .ref h24, .ref h25, .int (-1), .ref h26, .ref h27])), (h1, .inl (K 1, 200, .inl (fun _ => 0)))] sz)) (va_A [(h0, .inr (8, [.int 1, .int 0, .int (-1), .int 0, .int 0, .int (-1), .int 0, .int 0, .int 0, .int 0, .int 0, .ref h1, .ref h2, .ref h3, .ref h4, .ref h5, .ref h6, .ref h7, .ref h8, .ref h9, .ref h10, .ref h11, .ref h12, .ref h13, .ref h14, .ref h15, .ref h16, .ref h17, .ref h18, .ref h19, .int 0, .ref h20, .ref h21, .ref h22, .ref h23, .int 0, .int 0, .ref h24, .ref h25, .int (-1), .ref h26, .ref h27])), (h1, .inl (K 1, 200, .inl (fun _ => 0)))] sz)) 0 0 (va_A [(h0, .inr (8, [.int 1, .int 0, .int (-1), .int 0, .int 0, .int (-1), .int 0, .int 0, .int 0, .int 0, .int 0, .ref h1, .ref h2, .ref h3, .ref h4, .ref h5, .ref h6, .ref h7, .ref h8, .ref h9, .ref h10, .ref h11, .ref h12, .ref h13, .ref h14, .ref h15, .ref h16, .ref h17, .ref h18, .ref h19, .int 0, .ref h20, .ref h21, .ref h22, .ref h23, .int 0, .int 0, .ref h24, .ref h25, .int (-1), .ref h26, .ref h27])), (h1, .inl (K 1, 200, .inl (fun _ => 0)))] sz) := by
  refine Met.ofW (cc := cX11_reason) (maxL := 6) (ret := (some .int)) (by decide) rfl ?_
  intro p e s m args below meth c s₁ B hml hv
  obtain ⟨rfl, hsz, hP, hK, hD0, hE⟩ := hv
  have hx := B.exec
  have hb := B.bytes
  have hr := B.returns
  have hts := atoms_spec (ws := v_X11_reason_3) B.pre
  have t_ := t_X11_reason_3
  have mw : ∀ w ∈ e_X11_reason_3, w ∈ v_X11_reason_3 := fun w h => List.mem_cons_of_mem _ (List.mem_append_left _ h)
  have hw := fun w (h : w ∈ e_X11_reason_3) => hts w (mw w h)
  have iX11 : ∀ w ∈ wsX110, w ∈ v_X11_reason_3 := fun w h => List.mem_cons_of_mem _ (List.mem_append_right _ (List.mem_append_left _ h))
  have j_X11_isSeat_0 : ∀ w ∈ v_X11_isSeat_0, w ∈ v_X11_reason_3 := fun w h => List.mem_cons_of_mem _ (List.mem_append_right _ (List.mem_append_right _ (List.mem_append_left _ h)))
  have hown : s.vm.findClass RX11 = some m.cls := findClass_of_methodNamed B.named
  have hlocks := B.notSynchronized
  subst hsz
  have hD := hD0.self (sz := s.heap.size)
  generalize hAe : va_A [(h0, .inr (8, [.int 1, .int 0, .int (-1), .int 0, .int 0, .int (-1), .int 0, .int 0, .int 0, .int 0, .int 0, .ref h1, .ref h2, .ref h3, .ref h4, .ref h5, .ref h6, .ref h7, .ref h8, .ref h9, .ref h10, .ref h11, .ref h12, .ref h13, .ref h14, .ref h15, .ref h16, .ref h17, .ref h18, .ref h19, .int 0, .ref h20, .ref h21, .ref h22, .ref h23, .int 0, .int 0, .ref h24, .ref h25, .int (-1), .ref h26, .ref h27])), (h1, .inl (K 1, 200, .inl (fun _ => 0)))] s.heap.size = A at hD ⊢
  have hA : ∀ q : Nat, s.heap.size ≤ q → A q := fun q h => by rw [← hAe]; exact Or.inr h
  have hS : va_S A s.heap s.heap [] := va_S.rf
  have hP : va_P G vwCl [(h0, .inr (8, [.int 1, .int 0, .int (-1), .int 0, .int 0, .int (-1), .int 0, .int 0, .int 0, .int 0, .int 0, .ref h1, .ref h2, .ref h3, .ref h4, .ref h5, .ref h6, .ref h7, .ref h8, .ref h9, .ref h10, .ref h11, .ref h12, .ref h13, .ref h14, .ref h15, .ref h16, .ref h17, .ref h18, .ref h19, .int 0, .ref h20, .ref h21, .ref h22, .ref h23, .int 0, .int 0, .ref h24, .ref h25, .int (-1), .ref h26, .ref h27])), (h1, .inl (K 1, 200, .inl (fun _ => 0)))] s.heap := hP
  have hl := lv_entry ([.ref h0, .int 4, .int p0, .int 0, .int 0, .int 0]) (n := 6) (Nat.le_of_ble_eq_true rfl)
  rw [lg_entry_eq]
  generalize (lg_sl ([.ref h0, .int 4, .int p0, .int 0, .int 0, .int 0]) ++ List.replicate (6 - (lg_sl ([.ref h0, .int 4, .int p0, .int 0, .int 0, .int 0])).length) Slot.unset).toArray = ls at hl ⊢
  have hl : lv_has ls 6 [(0, .ref h0), (1, .int 4), (2, .int p0), (3, .int 0), (4, .int 0), (5, .int 0)] := hl
  refine lv_iload_n hx hb dX11_reason_0 rfl (lv_at hl 1 rfl) ?_
  refine lv_tableIn (tgt := 129) hx hb dX11_reason_1 (by decide) (by decide) (by decide) (by decide) ?_
  refine lv_aload_n hx hb dX11_reason_129 rfl (lv_at hl 0 rfl) ?_
  refine lv_iload_n hx hb dX11_reason_130 rfl (lv_at hl 2 rfl) ?_
  have hPc := hP.sub (ws' := [(h0, .inr (8, [.int 1, .int 0, .int (-1), .int 0, .int 0, .int (-1), .int 0, .int 0, .int 0, .int 0, .int 0, .ref h1, .ref h2, .ref h3, .ref h4, .ref h5, .ref h6, .ref h7, .ref h8, .ref h9, .ref h10, .ref h11, .ref h12, .ref h13, .ref h14, .ref h15, .ref h16, .ref h17, .ref h18, .ref h19, .int 0, .ref h20, .ref h21, .ref h22, .ref h23, .int 0, .int 0, .ref h24, .ref h25, .int (-1), .ref h26, .ref h27]))]) [0] rfl
  have hDc := hD.sub (ws' := [(h0, .inr (8, [.int 1, .int 0, .int (-1), .int 0, .int 0, .int (-1), .int 0, .int 0, .int 0, .int 0, .int 0, .ref h1, .ref h2, .ref h3, .ref h4, .ref h5, .ref h6, .ref h7, .ref h8, .ref h9, .ref h10, .ref h11, .ref h12, .ref h13, .ref h14, .ref h15, .ref h16, .ref h17, .ref h18, .ref h19, .int 0, .ref h20, .ref h21, .ref h22, .ref h23, .int 0, .int 0, .ref h24, .ref h25, .int (-1), .ref h26, .ref h27]))]) [0] (by decide) rfl
  refine wGoi (wc := [(h0, .inr (8, [.int 1, .int 0, .int (-1), .int 0, .int 0, .int (-1), .int 0, .int 0, .int 0, .int 0, .int 0, .ref h1, .ref h2, .ref h3, .ref h4, .ref h5, .ref h6, .ref h7, .ref h8, .ref h9, .ref h10, .ref h11, .ref h12, .ref h13, .ref h14, .ref h15, .ref h16, .ref h17, .ref h18, .ref h19, .int 0, .ref h20, .ref h21, .ref h22, .ref h23, .int 0, .int 0, .ref h24, .ref h25, .int (-1), .ref h26, .ref h27]))]) (wr := [(h1, .inl (K 1, 200, .inl (fun _ => 0)))]) (va_runV (As := [.int p0]) (rest := []) ⟨hx, hb, hml, hown, hts⟩ (m_X11_isSeat_0 l G K h0 h1 h2 h3 h4 h5 h6 h7 h8 h9 h10 h11 h12 h13 h14 h15 h16 h17 h18 h19 h20 h21 h22 h23 h24 h25 h26 h27 p0 _) (cwV 1 hts (wGV t_ (mw (.methodLink RX11 140 yX11_isSeat) (List.mem_of_getElem? (i := 0) rfl)) (mw (.instanceMethod yX11_isSeat) (List.mem_of_getElem? (i := 1) rfl)) (mw (.selects RX11 yX11_isSeat yX11_isSeat) (List.mem_of_getElem? (i := 2) rfl)) (mw (.initialized RX11) (List.mem_of_getElem? (i := 3) rfl)) j_X11_isSeat_0) rfl rfl rfl (by decide +kernel) ⟨Nat.le_of_ble_eq_true rfl, Nat.le_of_ble_eq_true rfl⟩) (wPV hK hE hPc hDc 8 0 rfl rfl) rfl rfl hl.1 rfl (lv_room (Nat.le_of_ble_eq_true rfl)) dX11_reason_131 ⟨Nat.le_of_ble_eq_true rfl, Nat.le_of_ble_eq_true rfl⟩) hP hD hS hA [0] [1] rfl rfl rfl (by decide) (fun r u H locs hw hP hD hS => ?_)
  rcases hw with ⟨c_w, rfl, rfl⟩ | ⟨c_w, rfl, rfl⟩
  · have c1 := c_w
    have hP : va_P G vwCl [(h1, .inl (K 1, 200, .inl (fun _ => 0))), (h0, .inr (8, [.int 1, .int 0, .int (-1), .int 0, .int 0, .int (-1), .int 0, .int 0, .int 0, .int 0, .int 0, .ref h1, .ref h2, .ref h3, .ref h4, .ref h5, .ref h6, .ref h7, .ref h8, .ref h9, .ref h10, .ref h11, .ref h12, .ref h13, .ref h14, .ref h15, .ref h16, .ref h17, .ref h18, .ref h19, .int 0, .ref h20, .ref h21, .ref h22, .ref h23, .int 0, .int 0, .ref h24, .ref h25, .int (-1), .ref h26, .ref h27]))] _ := hP
    have hD : va_D A [(h1, .inl (K 1, 200, .inl (fun _ => 0))), (h0, .inr (8, [.int 1, .int 0, .int (-1), .int 0, .int 0, .int (-1), .int 0, .int 0, .int 0, .int 0, .int 0, .ref h1, .ref h2, .ref h3, .ref h4, .ref h5, .ref h6, .ref h7, .ref h8, .ref h9, .ref h10, .ref h11, .ref h12, .ref h13, .ref h14, .ref h15, .ref h16, .ref h17, .ref h18, .ref h19, .int 0, .ref h20, .ref h21, .ref h22, .ref h23, .int 0, .int 0, .ref h24, .ref h25, .int (-1), .ref h26, .ref h27]))] := hD
    refine lv_if_ne (tgt := 142) hx hb dX11_reason_134 (by decide) (fun c_ => absurd c_ (by decide)) (fun _ => ?_)
    refine lv_bipush (v := 9) hx hb dX11_reason_137 (by decide) ?_
    refine lv_goto (tgt := 157) hx hb dX11_reason_139 (by decide) ?_
    have hP9 := hP.sub (ws' := [(h0, .inr (8, [.int 1, .int 0, .int (-1), .int 0, .int 0, .int (-1), .int 0, .int 0, .int 0, .int 0, .int 0, .ref h1, .ref h2, .ref h3, .ref h4, .ref h5, .ref h6, .ref h7, .ref h8, .ref h9, .ref h10, .ref h11, .ref h12, .ref h13, .ref h14, .ref h15, .ref h16, .ref h17, .ref h18, .ref h19, .int 0, .ref h20, .ref h21, .ref h22, .ref h23, .int 0, .int 0, .ref h24, .ref h25, .int (-1), .ref h26, .ref h27])), (h1, .inl (K 1, 200, .inl (fun _ => 0)))]) [1, 0] rfl
    have hD9 := hD.sub (ws' := [(h0, .inr (8, [.int 1, .int 0, .int (-1), .int 0, .int 0, .int (-1), .int 0, .int 0, .int 0, .int 0, .int 0, .ref h1, .ref h2, .ref h3, .ref h4, .ref h5, .ref h6, .ref h7, .ref h8, .ref h9, .ref h10, .ref h11, .ref h12, .ref h13, .ref h14, .ref h15, .ref h16, .ref h17, .ref h18, .ref h19, .int 0, .ref h20, .ref h21, .ref h22, .ref h23, .int 0, .int 0, .ref h24, .ref h25, .int (-1), .ref h26, .ref h27])), (h1, .inl (K 1, 200, .inl (fun _ => 0)))]) [1, 0] (by decide) rfl
    exact W.iret (v := 9) hx hb hr (fun t ht hW => ⟨⟨9, _, rfl, Or.inl ⟨(by first | omega | decide | simp), rfl, rfl⟩, by rw [ht]; exact hP9, hD9⟩, hS.F ht⟩) hS.2.2 dX11_reason_157
  · have c2 := c_w
    have hP : va_P G vwCl [(h1, .inl (K 1, 200, .inl (fun _ => 0))), (h0, .inr (8, [.int 1, .int 0, .int (-1), .int 0, .int 0, .int (-1), .int 0, .int 0, .int 0, .int 0, .int 0, .ref h1, .ref h2, .ref h3, .ref h4, .ref h5, .ref h6, .ref h7, .ref h8, .ref h9, .ref h10, .ref h11, .ref h12, .ref h13, .ref h14, .ref h15, .ref h16, .ref h17, .ref h18, .ref h19, .int 0, .ref h20, .ref h21, .ref h22, .ref h23, .int 0, .int 0, .ref h24, .ref h25, .int (-1), .ref h26, .ref h27]))] _ := hP
    have hD : va_D A [(h1, .inl (K 1, 200, .inl (fun _ => 0))), (h0, .inr (8, [.int 1, .int 0, .int (-1), .int 0, .int 0, .int (-1), .int 0, .int 0, .int 0, .int 0, .int 0, .ref h1, .ref h2, .ref h3, .ref h4, .ref h5, .ref h6, .ref h7, .ref h8, .ref h9, .ref h10, .ref h11, .ref h12, .ref h13, .ref h14, .ref h15, .ref h16, .ref h17, .ref h18, .ref h19, .int 0, .ref h20, .ref h21, .ref h22, .ref h23, .int 0, .int 0, .ref h24, .ref h25, .int (-1), .ref h26, .ref h27]))] := hD
    obtain rfl : p0 = 0 := wIs (b := 0) (by decide) (by omega)
    have z_0 : (0 : Int32).toInt = 0 := by decide
    refine lv_if_ne (tgt := 142) hx hb dX11_reason_134 (by decide) (fun _ => ?_) (fun c_ => absurd c_ (by decide))
    refine lv_aload_n hx hb dX11_reason_142 rfl (lv_at hl 0 rfl) ?_
    refine va_get (D := G) (ci := 8) (v := .ref h1) (C := RX11) (T := TX11) (N := 42) hx hb hts iX11 hown hK hP 1 rfl rfl 11 (by decide) (hw (.fieldLink RX11 9 "MotionFloorModel$Hall" "isThere" "[Z") (List.mem_of_getElem? (i := 4) rfl)) (fun _ h9 => h9) rfl dX11_reason_143 ?_
    refine lv_iload_n hx hb dX11_reason_146 rfl (lv_at hl 2 rfl) ?_
    refine va_zald hx hb hK hP 0 1 rfl rfl (vp_in_iff.mpr (by decide)) dX11_reason_147 ?_
    refine wTop (v1 := .int 0) rfl ?_
    refine lv_if_ne (tgt := 156) hx hb dX11_reason_148 (by decide) (fun c_ => absurd c_ (by decide)) (fun _ => ?_)
    refine lv_bipush (v := 8) hx hb dX11_reason_151 (by decide) ?_
    refine lv_goto (tgt := 157) hx hb dX11_reason_153 (by decide) ?_
    have hP9 := hP.sub (ws' := [(h0, .inr (8, [.int 1, .int 0, .int (-1), .int 0, .int 0, .int (-1), .int 0, .int 0, .int 0, .int 0, .int 0, .ref h1, .ref h2, .ref h3, .ref h4, .ref h5, .ref h6, .ref h7, .ref h8, .ref h9, .ref h10, .ref h11, .ref h12, .ref h13, .ref h14, .ref h15, .ref h16, .ref h17, .ref h18, .ref h19, .int 0, .ref h20, .ref h21, .ref h22, .ref h23, .int 0, .int 0, .ref h24, .ref h25, .int (-1), .ref h26, .ref h27])), (h1, .inl (K 1, 200, .inl (fun _ => 0)))]) [1, 0] rfl
    have hD9 := hD.sub (ws' := [(h0, .inr (8, [.int 1, .int 0, .int (-1), .int 0, .int 0, .int (-1), .int 0, .int 0, .int 0, .int 0, .int 0, .ref h1, .ref h2, .ref h3, .ref h4, .ref h5, .ref h6, .ref h7, .ref h8, .ref h9, .ref h10, .ref h11, .ref h12, .ref h13, .ref h14, .ref h15, .ref h16, .ref h17, .ref h18, .ref h19, .int 0, .ref h20, .ref h21, .ref h22, .ref h23, .int 0, .int 0, .ref h24, .ref h25, .int (-1), .ref h26, .ref h27])), (h1, .inl (K 1, 200, .inl (fun _ => 0)))]) [1, 0] (by decide) rfl
    exact W.iret (v := 8) hx hb hr (fun t ht hW => ⟨⟨8, _, rfl, Or.inr (⟨(by first | omega | decide | simp), rfl, rfl⟩), by rw [ht]; exact hP9, hD9⟩, hS.F ht⟩) hS.2.2 dX11_reason_157
def e_X11_act_3 : List Cond := [.methodLink RX11 196 yX11_reason, .instanceMethod yX11_reason, .selects RX11 yX11_reason yX11_reason, .initialized RX11, .fieldLink RX11 127 "MotionFloorModel$Hall" "why" "I"]
def v_X11_act_3 : List Cond := .code yX11_act cX11_act 10 (some .int) :: (e_X11_act_3 ++ (wsX110 ++ (v_X11_reason_3 ++ [])))
theorem te_X11_act_3 : GoodIn lw_tbl e_X11_act_3 := wGc z591 (wGc z590 (wGc z589 (wGc z568 (wGc z539 (wG0)))))
theorem t_X11_act_3 : GoodIn lw_tbl v_X11_act_3 := wGc z592 (wGa te_X11_act_3 (wGa zcX11 (wGa t_X11_reason_3 (wG0))))
set_option maxHeartbeats 4000000 in
set_option maxRecDepth 100000 in
theorem m_X11_act_3 (l : Launch) (G : va_G) (K : Nat → ClassId) (h0 h1 h2 h3 h4 h5 h6 h7 h8 h9 h10 h11 h12 h13 h14 h15 h16 h17 h18 h19 h20 h21 h22 h23 h24 h25 h26 h27 : Nat) (p0 : Int32) (sz : Nat) : Met l yX11_act v_X11_act_3 ({ frames := 3, cells := 0, slots := 0, locals := 68 }) (va_Pc [.ref h0, .int 4, .int p0, .int 0, .int 0, .int 0] (wS G K sz [(h0, .inr (8, [.int 1, .int 0, .int (-1), .int 0, .int 0, .int (-1), .int 0, .int 0, .int 0, .int 0, .int 0, .ref h1, .ref h2, .ref h3, .ref h4, .ref h5, .ref h6, .ref h7, .ref h8, .ref h9, .ref h10, .ref h11, .ref h12, .ref h13, .ref h14, .ref h15, .ref h16, .ref h17, .ref h18, .ref h19, .int 0, .ref h20, .ref h21, .ref h22, .ref h23, .int 0, .int 0, .ref h24, .ref h25, .int (-1), .ref h26, .ref h27])), (h1, .inl (K 1, 200, .inl (fun _ => 0)))])) (va_Qi (fun (r : Int32) (u : va_W) => (((((p0.toInt < 0 ∨ (p0.toInt ≥ 0 ∧ p0.toInt > 0))))) ∧ r = (-9) ∧ u = [(h0, .inr (8, [.int 1, .int 0, .int (-1), .int 0, .int 0, .int (-1), .int 0, .int 0, .int 0, .int 0, .int 9, .ref h1, .ref h2, .ref h3, .ref h4, .ref h5, .ref h6, .ref h7, .ref h8, .ref h9, .ref h10, .ref h11, .ref h12, .ref h13, .ref h14, .ref h15, .ref h16, .ref h17, .ref h18, .ref h19, .int 0, .ref h20, .ref h21, .ref h22, .ref h23, .int 0, .int 0, .ref h24, .ref h25, .int (-1), .ref h26, .ref h27])), (h1, .inl (K 1, 200, .inl (fun _ => 0)))]) ∨ ((((((p0.toInt ≥ 0 ∧ p0.toInt ≤ 0))))) ∧ r = (-8) ∧ u = [(h0, .inr (8, [.int 1, .int 0, .int (-1), .int 0, .int 0, .int (-1), .int 0, .int 0, .int 0, .int 0, .int 8, .ref h1, .ref h2, .ref h3, .ref h4, .ref h5, .ref h6, .ref h7, .ref h8, .ref h9, .ref h10, .ref h11, .ref h12, .ref h13, .ref h14, .ref h15, .ref h16, .ref h17, .ref h18, .ref h19, .int 0, .ref h20, .ref h21, .ref h22, .ref h23, .int 0, .int 0, .ref h24, .ref h25, .int (-1), .ref h26, .ref h27])), (h1, .inl (K 1, 200, .inl (fun _ => 0)))])) (wB G (va_A [(h0, .inr (8, [.int 1, .int 0, .int (-1), .int 0, .int 0, .int (-1), .int 0, .int 0, .int 0, .int 0, .int 0, .ref h1, .ref h2, .ref h3, .ref h4, .ref h5, .ref h6, .ref h7, .ref h8, .ref h9, .ref h10, .ref h11, .ref h12, .ref h13, .ref h14, .ref h15, .ref h16, .ref h17, .ref h18, .ref h19, .int 0, .ref h20, .ref h21, .ref h22, .ref h23, .int 0, .int 0, .ref h24, .ref h25, .int (-1), .ref h26, .ref h27])), (h1, .inl (K 1, 200, .inl (fun _ => 0)))] sz)) (va_A [(h0, .inr (8, [.int 1, .int 0, .int (-1), .int 0, .int 0, .int (-1), .int 0, .int 0, .int 0, .int 0, .int 0, .ref h1, .ref h2, .ref h3, .ref h4, .ref h5, .ref h6, .ref h7, .ref h8, .ref h9, .ref h10, .ref h11, .ref h12, .ref h13, .ref h14, .ref h15, .ref h16, .ref h17, .ref h18, .ref h19, .int 0, .ref h20, .ref h21, .ref h22, .ref h23, .int 0, .int 0, .ref h24, .ref h25, .int (-1), .ref h26, .ref h27])), (h1, .inl (K 1, 200, .inl (fun _ => 0)))] sz)) 0 0 (va_A [(h0, .inr (8, [.int 1, .int 0, .int (-1), .int 0, .int 0, .int (-1), .int 0, .int 0, .int 0, .int 0, .int 0, .ref h1, .ref h2, .ref h3, .ref h4, .ref h5, .ref h6, .ref h7, .ref h8, .ref h9, .ref h10, .ref h11, .ref h12, .ref h13, .ref h14, .ref h15, .ref h16, .ref h17, .ref h18, .ref h19, .int 0, .ref h20, .ref h21, .ref h22, .ref h23, .int 0, .int 0, .ref h24, .ref h25, .int (-1), .ref h26, .ref h27])), (h1, .inl (K 1, 200, .inl (fun _ => 0)))] sz) := by
  refine Met.ofW (cc := cX11_act) (maxL := 10) (ret := (some .int)) (by decide) rfl ?_
  intro p e s m args below meth c s₁ B hml hv
  obtain ⟨rfl, hsz, hP, hK, hD0, hE⟩ := hv
  have hx := B.exec
  have hb := B.bytes
  have hr := B.returns
  have hts := atoms_spec (ws := v_X11_act_3) B.pre
  have t_ := t_X11_act_3
  have mw : ∀ w ∈ e_X11_act_3, w ∈ v_X11_act_3 := fun w h => List.mem_cons_of_mem _ (List.mem_append_left _ h)
  have hw := fun w (h : w ∈ e_X11_act_3) => hts w (mw w h)
  have iX11 : ∀ w ∈ wsX110, w ∈ v_X11_act_3 := fun w h => List.mem_cons_of_mem _ (List.mem_append_right _ (List.mem_append_left _ h))
  have j_X11_reason_3 : ∀ w ∈ v_X11_reason_3, w ∈ v_X11_act_3 := fun w h => List.mem_cons_of_mem _ (List.mem_append_right _ (List.mem_append_right _ (List.mem_append_left _ h)))
  have hown : s.vm.findClass RX11 = some m.cls := findClass_of_methodNamed B.named
  have hlocks := B.notSynchronized
  subst hsz
  have hD := hD0.self (sz := s.heap.size)
  generalize hAe : va_A [(h0, .inr (8, [.int 1, .int 0, .int (-1), .int 0, .int 0, .int (-1), .int 0, .int 0, .int 0, .int 0, .int 0, .ref h1, .ref h2, .ref h3, .ref h4, .ref h5, .ref h6, .ref h7, .ref h8, .ref h9, .ref h10, .ref h11, .ref h12, .ref h13, .ref h14, .ref h15, .ref h16, .ref h17, .ref h18, .ref h19, .int 0, .ref h20, .ref h21, .ref h22, .ref h23, .int 0, .int 0, .ref h24, .ref h25, .int (-1), .ref h26, .ref h27])), (h1, .inl (K 1, 200, .inl (fun _ => 0)))] s.heap.size = A at hD ⊢
  have hA : ∀ q : Nat, s.heap.size ≤ q → A q := fun q h => by rw [← hAe]; exact Or.inr h
  have hS : va_S A s.heap s.heap [] := va_S.rf
  have hP : va_P G vwCl [(h0, .inr (8, [.int 1, .int 0, .int (-1), .int 0, .int 0, .int (-1), .int 0, .int 0, .int 0, .int 0, .int 0, .ref h1, .ref h2, .ref h3, .ref h4, .ref h5, .ref h6, .ref h7, .ref h8, .ref h9, .ref h10, .ref h11, .ref h12, .ref h13, .ref h14, .ref h15, .ref h16, .ref h17, .ref h18, .ref h19, .int 0, .ref h20, .ref h21, .ref h22, .ref h23, .int 0, .int 0, .ref h24, .ref h25, .int (-1), .ref h26, .ref h27])), (h1, .inl (K 1, 200, .inl (fun _ => 0)))] s.heap := hP
  have hl := lv_entry ([.ref h0, .int 4, .int p0, .int 0, .int 0, .int 0]) (n := 10) (Nat.le_of_ble_eq_true rfl)
  rw [lg_entry_eq]
  generalize (lg_sl ([.ref h0, .int 4, .int p0, .int 0, .int 0, .int 0]) ++ List.replicate (10 - (lg_sl ([.ref h0, .int 4, .int p0, .int 0, .int 0, .int 0])).length) Slot.unset).toArray = ls at hl ⊢
  have hl : lv_has ls 10 [(0, .ref h0), (1, .int 4), (2, .int p0), (3, .int 0), (4, .int 0), (5, .int 0)] := hl
  refine lv_aload_n hx hb dX11_act_0 rfl (lv_at hl 0 rfl) ?_
  refine lv_iload_n hx hb dX11_act_1 rfl (lv_at hl 1 rfl) ?_
  refine lv_iload_n hx hb dX11_act_2 rfl (lv_at hl 2 rfl) ?_
  refine lv_iload_n hx hb dX11_act_3 rfl (lv_at hl 3 rfl) ?_
  refine lv_iload hx hb dX11_act_4 (lv_at hl 4 rfl) ?_
  refine lv_iload hx hb dX11_act_6 (lv_at hl 5 rfl) ?_
  have hPc := hP.sub (ws' := [(h0, .inr (8, [.int 1, .int 0, .int (-1), .int 0, .int 0, .int (-1), .int 0, .int 0, .int 0, .int 0, .int 0, .ref h1, .ref h2, .ref h3, .ref h4, .ref h5, .ref h6, .ref h7, .ref h8, .ref h9, .ref h10, .ref h11, .ref h12, .ref h13, .ref h14, .ref h15, .ref h16, .ref h17, .ref h18, .ref h19, .int 0, .ref h20, .ref h21, .ref h22, .ref h23, .int 0, .int 0, .ref h24, .ref h25, .int (-1), .ref h26, .ref h27])), (h1, .inl (K 1, 200, .inl (fun _ => 0)))]) [0, 1] rfl
  have hDc := hD.sub (ws' := [(h0, .inr (8, [.int 1, .int 0, .int (-1), .int 0, .int 0, .int (-1), .int 0, .int 0, .int 0, .int 0, .int 0, .ref h1, .ref h2, .ref h3, .ref h4, .ref h5, .ref h6, .ref h7, .ref h8, .ref h9, .ref h10, .ref h11, .ref h12, .ref h13, .ref h14, .ref h15, .ref h16, .ref h17, .ref h18, .ref h19, .int 0, .ref h20, .ref h21, .ref h22, .ref h23, .int 0, .int 0, .ref h24, .ref h25, .int (-1), .ref h26, .ref h27])), (h1, .inl (K 1, 200, .inl (fun _ => 0)))]) [0, 1] (by decide) rfl
  refine wGoi (wc := [(h0, .inr (8, [.int 1, .int 0, .int (-1), .int 0, .int 0, .int (-1), .int 0, .int 0, .int 0, .int 0, .int 0, .ref h1, .ref h2, .ref h3, .ref h4, .ref h5, .ref h6, .ref h7, .ref h8, .ref h9, .ref h10, .ref h11, .ref h12, .ref h13, .ref h14, .ref h15, .ref h16, .ref h17, .ref h18, .ref h19, .int 0, .ref h20, .ref h21, .ref h22, .ref h23, .int 0, .int 0, .ref h24, .ref h25, .int (-1), .ref h26, .ref h27])), (h1, .inl (K 1, 200, .inl (fun _ => 0)))]) (wr := []) (va_runV (As := [.int 4, .int p0, .int 0, .int 0, .int 0]) (rest := []) ⟨hx, hb, hml, hown, hts⟩ (m_X11_reason_3 l G K h0 h1 h2 h3 h4 h5 h6 h7 h8 h9 h10 h11 h12 h13 h14 h15 h16 h17 h18 h19 h20 h21 h22 h23 h24 h25 h26 h27 p0 _) (cwV 5 hts (wGV t_ (mw (.methodLink RX11 196 yX11_reason) (List.mem_of_getElem? (i := 0) rfl)) (mw (.instanceMethod yX11_reason) (List.mem_of_getElem? (i := 1) rfl)) (mw (.selects RX11 yX11_reason yX11_reason) (List.mem_of_getElem? (i := 2) rfl)) (mw (.initialized RX11) (List.mem_of_getElem? (i := 3) rfl)) j_X11_reason_3) rfl rfl rfl (by decide +kernel) ⟨Nat.le_of_ble_eq_true rfl, Nat.le_of_ble_eq_true rfl⟩) (wPV hK hE hPc hDc 8 0 rfl rfl) rfl rfl hl.1 rfl (lv_room (Nat.le_of_ble_eq_true rfl)) dX11_act_8 ⟨Nat.le_of_ble_eq_true rfl, Nat.le_of_ble_eq_true rfl⟩) hP hD hS hA [0, 1] [] rfl rfl rfl (by decide) (fun r u H locs hw hP hD hS => ?_)
  rcases hw with ⟨c_w, rfl, rfl⟩ | ⟨c_w, rfl, rfl⟩
  · have c1 := c_w
    have hP : va_P G vwCl [(h0, .inr (8, [.int 1, .int 0, .int (-1), .int 0, .int 0, .int (-1), .int 0, .int 0, .int 0, .int 0, .int 0, .ref h1, .ref h2, .ref h3, .ref h4, .ref h5, .ref h6, .ref h7, .ref h8, .ref h9, .ref h10, .ref h11, .ref h12, .ref h13, .ref h14, .ref h15, .ref h16, .ref h17, .ref h18, .ref h19, .int 0, .ref h20, .ref h21, .ref h22, .ref h23, .int 0, .int 0, .ref h24, .ref h25, .int (-1), .ref h26, .ref h27])), (h1, .inl (K 1, 200, .inl (fun _ => 0)))] _ := hP
    have hD : va_D A [(h0, .inr (8, [.int 1, .int 0, .int (-1), .int 0, .int 0, .int (-1), .int 0, .int 0, .int 0, .int 0, .int 0, .ref h1, .ref h2, .ref h3, .ref h4, .ref h5, .ref h6, .ref h7, .ref h8, .ref h9, .ref h10, .ref h11, .ref h12, .ref h13, .ref h14, .ref h15, .ref h16, .ref h17, .ref h18, .ref h19, .int 0, .ref h20, .ref h21, .ref h22, .ref h23, .int 0, .int 0, .ref h24, .ref h25, .int (-1), .ref h26, .ref h27])), (h1, .inl (K 1, 200, .inl (fun _ => 0)))] := hD
    refine lv_istore (lv' := [(6, .int 9), (0, .ref h0), (1, .int 4), (2, .int p0), (3, .int 0), (4, .int 0), (5, .int 0)]) hx hb dX11_act_11 hl (by decide) rfl (fun ls hl => ?_)
    refine lv_iload hx hb dX11_act_13 (lv_at hl 0 rfl) ?_
    refine lv_if_ne (tgt := 32) hx hb dX11_act_15 (by decide) (fun _ => ?_) (fun c_ => absurd c_ (by decide))
    refine lv_aload_n hx hb dX11_act_32 rfl (lv_at hl 1 rfl) ?_
    refine lv_iload hx hb dX11_act_33 (lv_at hl 0 rfl) ?_
    refine va_put (D := G) (ci := 8) (v := .int 9) (ty := .int) (C := RX11) (T := TX11) (N := 42) hx hb hts iX11 tyX11 tyX11_ok nmX11 hown hK hP hD hS 0 rfl rfl 10 (by decide) (hw (.fieldLink RX11 127 "MotionFloorModel$Hall" "why" "I") (List.mem_of_getElem? (i := 4) rfl)) (fun _ h9 => h9) rfl (by decide +kernel) rfl rfl (Nat.le_of_ble_eq_true rfl) dX11_act_35 (fun H locs hP hD hS => ?_)
    have hP : va_P G vwCl [(h0, .inr (8, [.int 1, .int 0, .int (-1), .int 0, .int 0, .int (-1), .int 0, .int 0, .int 0, .int 0, .int 9, .ref h1, .ref h2, .ref h3, .ref h4, .ref h5, .ref h6, .ref h7, .ref h8, .ref h9, .ref h10, .ref h11, .ref h12, .ref h13, .ref h14, .ref h15, .ref h16, .ref h17, .ref h18, .ref h19, .int 0, .ref h20, .ref h21, .ref h22, .ref h23, .int 0, .int 0, .ref h24, .ref h25, .int (-1), .ref h26, .ref h27])), (h1, .inl (K 1, 200, .inl (fun _ => 0)))] _ := hP
    have hD : va_D A [(h0, .inr (8, [.int 1, .int 0, .int (-1), .int 0, .int 0, .int (-1), .int 0, .int 0, .int 0, .int 0, .int 9, .ref h1, .ref h2, .ref h3, .ref h4, .ref h5, .ref h6, .ref h7, .ref h8, .ref h9, .ref h10, .ref h11, .ref h12, .ref h13, .ref h14, .ref h15, .ref h16, .ref h17, .ref h18, .ref h19, .int 0, .ref h20, .ref h21, .ref h22, .ref h23, .int 0, .int 0, .ref h24, .ref h25, .int (-1), .ref h26, .ref h27])), (h1, .inl (K 1, 200, .inl (fun _ => 0)))] := hD
    refine lv_iload hx hb dX11_act_38 (lv_at hl 0 rfl) ?_
    refine lv_if_le (tgt := 47) hx hb dX11_act_40 (by decide) (fun c_ => absurd c_ (by decide)) (fun _ => ?_)
    refine lv_iload hx hb dX11_act_43 (lv_at hl 0 rfl) ?_
    refine lv_ineg hx hb dX11_act_45 ?_
    refine wTop (v1 := .int (-9)) (congrArg Value.int (by decide)) ?_
    have hP9 : va_P G vwCl [(h0, .inr (8, [.int 1, .int 0, .int (-1), .int 0, .int 0, .int (-1), .int 0, .int 0, .int 0, .int 0, .int 9, .ref h1, .ref h2, .ref h3, .ref h4, .ref h5, .ref h6, .ref h7, .ref h8, .ref h9, .ref h10, .ref h11, .ref h12, .ref h13, .ref h14, .ref h15, .ref h16, .ref h17, .ref h18, .ref h19, .int 0, .ref h20, .ref h21, .ref h22, .ref h23, .int 0, .int 0, .ref h24, .ref h25, .int (-1), .ref h26, .ref h27])), (h1, .inl (K 1, 200, .inl (fun _ => 0)))] _ := hP
    have hD9 : va_D A [(h0, .inr (8, [.int 1, .int 0, .int (-1), .int 0, .int 0, .int (-1), .int 0, .int 0, .int 0, .int 0, .int 9, .ref h1, .ref h2, .ref h3, .ref h4, .ref h5, .ref h6, .ref h7, .ref h8, .ref h9, .ref h10, .ref h11, .ref h12, .ref h13, .ref h14, .ref h15, .ref h16, .ref h17, .ref h18, .ref h19, .int 0, .ref h20, .ref h21, .ref h22, .ref h23, .int 0, .int 0, .ref h24, .ref h25, .int (-1), .ref h26, .ref h27])), (h1, .inl (K 1, 200, .inl (fun _ => 0)))] := hD
    exact W.iret (v := (-9)) hx hb hr (fun t ht hW => ⟨⟨(-9), _, rfl, Or.inl ⟨(by first | omega | decide | simp), rfl, rfl⟩, by rw [ht]; exact hP9, hD9⟩, hS.F ht⟩) hS.2.2 dX11_act_46
  · have c2 := c_w
    have hP : va_P G vwCl [(h0, .inr (8, [.int 1, .int 0, .int (-1), .int 0, .int 0, .int (-1), .int 0, .int 0, .int 0, .int 0, .int 0, .ref h1, .ref h2, .ref h3, .ref h4, .ref h5, .ref h6, .ref h7, .ref h8, .ref h9, .ref h10, .ref h11, .ref h12, .ref h13, .ref h14, .ref h15, .ref h16, .ref h17, .ref h18, .ref h19, .int 0, .ref h20, .ref h21, .ref h22, .ref h23, .int 0, .int 0, .ref h24, .ref h25, .int (-1), .ref h26, .ref h27])), (h1, .inl (K 1, 200, .inl (fun _ => 0)))] _ := hP
    have hD : va_D A [(h0, .inr (8, [.int 1, .int 0, .int (-1), .int 0, .int 0, .int (-1), .int 0, .int 0, .int 0, .int 0, .int 0, .ref h1, .ref h2, .ref h3, .ref h4, .ref h5, .ref h6, .ref h7, .ref h8, .ref h9, .ref h10, .ref h11, .ref h12, .ref h13, .ref h14, .ref h15, .ref h16, .ref h17, .ref h18, .ref h19, .int 0, .ref h20, .ref h21, .ref h22, .ref h23, .int 0, .int 0, .ref h24, .ref h25, .int (-1), .ref h26, .ref h27])), (h1, .inl (K 1, 200, .inl (fun _ => 0)))] := hD
    obtain rfl : p0 = 0 := wIs (b := 0) (by decide) (by omega)
    have z_0 : (0 : Int32).toInt = 0 := by decide
    refine lv_istore (lv' := [(6, .int 8), (0, .ref h0), (1, .int 4), (2, .int 0), (3, .int 0), (4, .int 0), (5, .int 0)]) hx hb dX11_act_11 hl (by decide) rfl (fun ls hl => ?_)
    refine lv_iload hx hb dX11_act_13 (lv_at hl 0 rfl) ?_
    refine lv_if_ne (tgt := 32) hx hb dX11_act_15 (by decide) (fun _ => ?_) (fun c_ => absurd c_ (by decide))
    refine lv_aload_n hx hb dX11_act_32 rfl (lv_at hl 1 rfl) ?_
    refine lv_iload hx hb dX11_act_33 (lv_at hl 0 rfl) ?_
    refine va_put (D := G) (ci := 8) (v := .int 8) (ty := .int) (C := RX11) (T := TX11) (N := 42) hx hb hts iX11 tyX11 tyX11_ok nmX11 hown hK hP hD hS 0 rfl rfl 10 (by decide) (hw (.fieldLink RX11 127 "MotionFloorModel$Hall" "why" "I") (List.mem_of_getElem? (i := 4) rfl)) (fun _ h9 => h9) rfl (by decide +kernel) rfl rfl (Nat.le_of_ble_eq_true rfl) dX11_act_35 (fun H locs hP hD hS => ?_)
    have hP : va_P G vwCl [(h0, .inr (8, [.int 1, .int 0, .int (-1), .int 0, .int 0, .int (-1), .int 0, .int 0, .int 0, .int 0, .int 8, .ref h1, .ref h2, .ref h3, .ref h4, .ref h5, .ref h6, .ref h7, .ref h8, .ref h9, .ref h10, .ref h11, .ref h12, .ref h13, .ref h14, .ref h15, .ref h16, .ref h17, .ref h18, .ref h19, .int 0, .ref h20, .ref h21, .ref h22, .ref h23, .int 0, .int 0, .ref h24, .ref h25, .int (-1), .ref h26, .ref h27])), (h1, .inl (K 1, 200, .inl (fun _ => 0)))] _ := hP
    have hD : va_D A [(h0, .inr (8, [.int 1, .int 0, .int (-1), .int 0, .int 0, .int (-1), .int 0, .int 0, .int 0, .int 0, .int 8, .ref h1, .ref h2, .ref h3, .ref h4, .ref h5, .ref h6, .ref h7, .ref h8, .ref h9, .ref h10, .ref h11, .ref h12, .ref h13, .ref h14, .ref h15, .ref h16, .ref h17, .ref h18, .ref h19, .int 0, .ref h20, .ref h21, .ref h22, .ref h23, .int 0, .int 0, .ref h24, .ref h25, .int (-1), .ref h26, .ref h27])), (h1, .inl (K 1, 200, .inl (fun _ => 0)))] := hD
    refine lv_iload hx hb dX11_act_38 (lv_at hl 0 rfl) ?_
    refine lv_if_le (tgt := 47) hx hb dX11_act_40 (by decide) (fun c_ => absurd c_ (by decide)) (fun _ => ?_)
    refine lv_iload hx hb dX11_act_43 (lv_at hl 0 rfl) ?_
    refine lv_ineg hx hb dX11_act_45 ?_
    refine wTop (v1 := .int (-8)) (congrArg Value.int (by decide)) ?_
    have hP9 : va_P G vwCl [(h0, .inr (8, [.int 1, .int 0, .int (-1), .int 0, .int 0, .int (-1), .int 0, .int 0, .int 0, .int 0, .int 8, .ref h1, .ref h2, .ref h3, .ref h4, .ref h5, .ref h6, .ref h7, .ref h8, .ref h9, .ref h10, .ref h11, .ref h12, .ref h13, .ref h14, .ref h15, .ref h16, .ref h17, .ref h18, .ref h19, .int 0, .ref h20, .ref h21, .ref h22, .ref h23, .int 0, .int 0, .ref h24, .ref h25, .int (-1), .ref h26, .ref h27])), (h1, .inl (K 1, 200, .inl (fun _ => 0)))] _ := hP
    have hD9 : va_D A [(h0, .inr (8, [.int 1, .int 0, .int (-1), .int 0, .int 0, .int (-1), .int 0, .int 0, .int 0, .int 0, .int 8, .ref h1, .ref h2, .ref h3, .ref h4, .ref h5, .ref h6, .ref h7, .ref h8, .ref h9, .ref h10, .ref h11, .ref h12, .ref h13, .ref h14, .ref h15, .ref h16, .ref h17, .ref h18, .ref h19, .int 0, .ref h20, .ref h21, .ref h22, .ref h23, .int 0, .int 0, .ref h24, .ref h25, .int (-1), .ref h26, .ref h27])), (h1, .inl (K 1, 200, .inl (fun _ => 0)))] := hD
    exact W.iret (v := (-8)) hx hb hr (fun t ht hW => ⟨⟨(-8), _, rfl, Or.inr (⟨(by first | omega | decide | simp), rfl, rfl⟩), by rw [ht]; exact hP9, hD9⟩, hS.F ht⟩) hS.2.2 dX11_act_46
def e_X12_chair_0 : List Cond := [.fieldLink RX12 16 "MotionFloorModel" "hall" "LMotionFloorModel$Hall;", .methodLink RX12 40 yX11_act, .instanceMethod yX11_act, .selects RX11 yX11_act yX11_act, .initialized RX11]
def v_X12_chair_0 : List Cond := .code yX12_chair cX12_chair 2 (some .int) :: (e_X12_chair_0 ++ (wsX120 ++ (v_X11_act_3 ++ [])))
theorem te_X12_chair_0 : GoodIn lw_tbl e_X12_chair_0 := wGc z566 (wGc z595 (wGc z594 (wGc z593 (wGc z568 (wG0)))))
theorem t_X12_chair_0 : GoodIn lw_tbl v_X12_chair_0 := wGc z599 (wGa te_X12_chair_0 (wGa zcX12 (wGa t_X11_act_3 (wG0))))
set_option maxHeartbeats 4000000 in
set_option maxRecDepth 100000 in
theorem m_X12_chair_0 (l : Launch) (G : va_G) (K : Nat → ClassId) (h0 h1 h2 h3 h4 h5 h6 h7 h8 h9 h10 h11 h12 h13 h14 h15 h16 h17 h18 h19 h20 h21 h22 h23 h24 h25 h26 h27 h28 h29 h30 h31 h32 h33 : Nat) (p0 : Int32) (sz : Nat) : Met l yX12_chair v_X12_chair_0 ({ frames := 4, cells := 0, slots := 0, locals := 97 }) (va_Pc [.ref h0, .int p0] (wS G K sz [(h0, .inr (9, [.ref h1, .ref h3, .ref h4, .ref h5, .ref h6, .ref h7, .int 0])), (h1, .inr (8, [.int 1, .int 0, .int (-1), .int 0, .int 0, .int (-1), .int 0, .int 0, .int 0, .int 0, .int 0, .ref h2, .ref h8, .ref h9, .ref h10, .ref h11, .ref h12, .ref h13, .ref h14, .ref h15, .ref h16, .ref h17, .ref h18, .ref h19, .ref h20, .ref h21, .ref h22, .ref h23, .ref h24, .ref h25, .int 0, .ref h26, .ref h27, .ref h28, .ref h29, .int 0, .int 0, .ref h30, .ref h31, .int (-1), .ref h32, .ref h33])), (h2, .inl (K 1, 200, .inl (fun _ => 0)))])) (va_Qi (fun (r : Int32) (u : va_W) => ((((((p0.toInt < 0 ∨ (p0.toInt ≥ 0 ∧ p0.toInt > 0)))))) ∧ r = (-9) ∧ u = [(h0, .inr (9, [.ref h1, .ref h3, .ref h4, .ref h5, .ref h6, .ref h7, .int 0])), (h1, .inr (8, [.int 1, .int 0, .int (-1), .int 0, .int 0, .int (-1), .int 0, .int 0, .int 0, .int 0, .int 9, .ref h2, .ref h8, .ref h9, .ref h10, .ref h11, .ref h12, .ref h13, .ref h14, .ref h15, .ref h16, .ref h17, .ref h18, .ref h19, .ref h20, .ref h21, .ref h22, .ref h23, .ref h24, .ref h25, .int 0, .ref h26, .ref h27, .ref h28, .ref h29, .int 0, .int 0, .ref h30, .ref h31, .int (-1), .ref h32, .ref h33])), (h2, .inl (K 1, 200, .inl (fun _ => 0)))]) ∨ (((((((p0.toInt ≥ 0 ∧ p0.toInt ≤ 0)))))) ∧ r = (-8) ∧ u = [(h0, .inr (9, [.ref h1, .ref h3, .ref h4, .ref h5, .ref h6, .ref h7, .int 0])), (h1, .inr (8, [.int 1, .int 0, .int (-1), .int 0, .int 0, .int (-1), .int 0, .int 0, .int 0, .int 0, .int 8, .ref h2, .ref h8, .ref h9, .ref h10, .ref h11, .ref h12, .ref h13, .ref h14, .ref h15, .ref h16, .ref h17, .ref h18, .ref h19, .ref h20, .ref h21, .ref h22, .ref h23, .ref h24, .ref h25, .int 0, .ref h26, .ref h27, .ref h28, .ref h29, .int 0, .int 0, .ref h30, .ref h31, .int (-1), .ref h32, .ref h33])), (h2, .inl (K 1, 200, .inl (fun _ => 0)))])) (wB G (va_A [(h0, .inr (9, [.ref h1, .ref h3, .ref h4, .ref h5, .ref h6, .ref h7, .int 0])), (h1, .inr (8, [.int 1, .int 0, .int (-1), .int 0, .int 0, .int (-1), .int 0, .int 0, .int 0, .int 0, .int 0, .ref h2, .ref h8, .ref h9, .ref h10, .ref h11, .ref h12, .ref h13, .ref h14, .ref h15, .ref h16, .ref h17, .ref h18, .ref h19, .ref h20, .ref h21, .ref h22, .ref h23, .ref h24, .ref h25, .int 0, .ref h26, .ref h27, .ref h28, .ref h29, .int 0, .int 0, .ref h30, .ref h31, .int (-1), .ref h32, .ref h33])), (h2, .inl (K 1, 200, .inl (fun _ => 0)))] sz)) (va_A [(h0, .inr (9, [.ref h1, .ref h3, .ref h4, .ref h5, .ref h6, .ref h7, .int 0])), (h1, .inr (8, [.int 1, .int 0, .int (-1), .int 0, .int 0, .int (-1), .int 0, .int 0, .int 0, .int 0, .int 0, .ref h2, .ref h8, .ref h9, .ref h10, .ref h11, .ref h12, .ref h13, .ref h14, .ref h15, .ref h16, .ref h17, .ref h18, .ref h19, .ref h20, .ref h21, .ref h22, .ref h23, .ref h24, .ref h25, .int 0, .ref h26, .ref h27, .ref h28, .ref h29, .int 0, .int 0, .ref h30, .ref h31, .int (-1), .ref h32, .ref h33])), (h2, .inl (K 1, 200, .inl (fun _ => 0)))] sz)) 0 0 (va_A [(h0, .inr (9, [.ref h1, .ref h3, .ref h4, .ref h5, .ref h6, .ref h7, .int 0])), (h1, .inr (8, [.int 1, .int 0, .int (-1), .int 0, .int 0, .int (-1), .int 0, .int 0, .int 0, .int 0, .int 0, .ref h2, .ref h8, .ref h9, .ref h10, .ref h11, .ref h12, .ref h13, .ref h14, .ref h15, .ref h16, .ref h17, .ref h18, .ref h19, .ref h20, .ref h21, .ref h22, .ref h23, .ref h24, .ref h25, .int 0, .ref h26, .ref h27, .ref h28, .ref h29, .int 0, .int 0, .ref h30, .ref h31, .int (-1), .ref h32, .ref h33])), (h2, .inl (K 1, 200, .inl (fun _ => 0)))] sz) := by
  refine Met.ofW (cc := cX12_chair) (maxL := 2) (ret := (some .int)) (by decide) rfl ?_
  intro p e s m args below meth c s₁ B hml hv
  obtain ⟨rfl, hsz, hP, hK, hD0, hE⟩ := hv
  have hx := B.exec
  have hb := B.bytes
  have hr := B.returns
  have hts := atoms_spec (ws := v_X12_chair_0) B.pre
  have t_ := t_X12_chair_0
  have mw : ∀ w ∈ e_X12_chair_0, w ∈ v_X12_chair_0 := fun w h => List.mem_cons_of_mem _ (List.mem_append_left _ h)
  have hw := fun w (h : w ∈ e_X12_chair_0) => hts w (mw w h)
  have iX12 : ∀ w ∈ wsX120, w ∈ v_X12_chair_0 := fun w h => List.mem_cons_of_mem _ (List.mem_append_right _ (List.mem_append_left _ h))
  have j_X11_act_3 : ∀ w ∈ v_X11_act_3, w ∈ v_X12_chair_0 := fun w h => List.mem_cons_of_mem _ (List.mem_append_right _ (List.mem_append_right _ (List.mem_append_left _ h)))
  have hown : s.vm.findClass RX12 = some m.cls := findClass_of_methodNamed B.named
  have hlocks := B.notSynchronized
  subst hsz
  have hD := hD0.self (sz := s.heap.size)
  generalize hAe : va_A [(h0, .inr (9, [.ref h1, .ref h3, .ref h4, .ref h5, .ref h6, .ref h7, .int 0])), (h1, .inr (8, [.int 1, .int 0, .int (-1), .int 0, .int 0, .int (-1), .int 0, .int 0, .int 0, .int 0, .int 0, .ref h2, .ref h8, .ref h9, .ref h10, .ref h11, .ref h12, .ref h13, .ref h14, .ref h15, .ref h16, .ref h17, .ref h18, .ref h19, .ref h20, .ref h21, .ref h22, .ref h23, .ref h24, .ref h25, .int 0, .ref h26, .ref h27, .ref h28, .ref h29, .int 0, .int 0, .ref h30, .ref h31, .int (-1), .ref h32, .ref h33])), (h2, .inl (K 1, 200, .inl (fun _ => 0)))] s.heap.size = A at hD ⊢
  have hA : ∀ q : Nat, s.heap.size ≤ q → A q := fun q h => by rw [← hAe]; exact Or.inr h
  have hS : va_S A s.heap s.heap [] := va_S.rf
  have hP : va_P G vwCl [(h0, .inr (9, [.ref h1, .ref h3, .ref h4, .ref h5, .ref h6, .ref h7, .int 0])), (h1, .inr (8, [.int 1, .int 0, .int (-1), .int 0, .int 0, .int (-1), .int 0, .int 0, .int 0, .int 0, .int 0, .ref h2, .ref h8, .ref h9, .ref h10, .ref h11, .ref h12, .ref h13, .ref h14, .ref h15, .ref h16, .ref h17, .ref h18, .ref h19, .ref h20, .ref h21, .ref h22, .ref h23, .ref h24, .ref h25, .int 0, .ref h26, .ref h27, .ref h28, .ref h29, .int 0, .int 0, .ref h30, .ref h31, .int (-1), .ref h32, .ref h33])), (h2, .inl (K 1, 200, .inl (fun _ => 0)))] s.heap := hP
  have hl := lv_entry ([.ref h0, .int p0]) (n := 2) (Nat.le_of_ble_eq_true rfl)
  rw [lg_entry_eq]
  generalize (lg_sl ([.ref h0, .int p0]) ++ List.replicate (2 - (lg_sl ([.ref h0, .int p0])).length) Slot.unset).toArray = ls at hl ⊢
  have hl : lv_has ls 2 [(0, .ref h0), (1, .int p0)] := hl
  refine lv_aload_n hx hb dX12_chair_0 rfl (lv_at hl 0 rfl) ?_
  refine va_get (D := G) (ci := 9) (v := .ref h1) (C := RX12) (T := TX12) (N := 7) hx hb hts iX12 hown hK hP 0 rfl rfl 0 (by decide) (hw (.fieldLink RX12 16 "MotionFloorModel" "hall" "LMotionFloorModel$Hall;") (List.mem_of_getElem? (i := 0) rfl)) (fun _ h9 => h9) rfl dX12_chair_1 ?_
  refine lv_iconst (v := 4) hx hb dX12_chair_4 (by decide) ?_
  refine lv_iload_n hx hb dX12_chair_5 rfl (lv_at hl 1 rfl) ?_
  refine lv_iconst (v := 0) hx hb dX12_chair_6 (by decide) ?_
  refine lv_iconst (v := 0) hx hb dX12_chair_7 (by decide) ?_
  refine lv_iconst (v := 0) hx hb dX12_chair_8 (by decide) ?_
  have hPc := hP.sub (ws' := [(h1, .inr (8, [.int 1, .int 0, .int (-1), .int 0, .int 0, .int (-1), .int 0, .int 0, .int 0, .int 0, .int 0, .ref h2, .ref h8, .ref h9, .ref h10, .ref h11, .ref h12, .ref h13, .ref h14, .ref h15, .ref h16, .ref h17, .ref h18, .ref h19, .ref h20, .ref h21, .ref h22, .ref h23, .ref h24, .ref h25, .int 0, .ref h26, .ref h27, .ref h28, .ref h29, .int 0, .int 0, .ref h30, .ref h31, .int (-1), .ref h32, .ref h33])), (h2, .inl (K 1, 200, .inl (fun _ => 0)))]) [1, 2] rfl
  have hDc := hD.sub (ws' := [(h1, .inr (8, [.int 1, .int 0, .int (-1), .int 0, .int 0, .int (-1), .int 0, .int 0, .int 0, .int 0, .int 0, .ref h2, .ref h8, .ref h9, .ref h10, .ref h11, .ref h12, .ref h13, .ref h14, .ref h15, .ref h16, .ref h17, .ref h18, .ref h19, .ref h20, .ref h21, .ref h22, .ref h23, .ref h24, .ref h25, .int 0, .ref h26, .ref h27, .ref h28, .ref h29, .int 0, .int 0, .ref h30, .ref h31, .int (-1), .ref h32, .ref h33])), (h2, .inl (K 1, 200, .inl (fun _ => 0)))]) [1, 2] (by decide) rfl
  refine wGoi (wc := [(h1, .inr (8, [.int 1, .int 0, .int (-1), .int 0, .int 0, .int (-1), .int 0, .int 0, .int 0, .int 0, .int 0, .ref h2, .ref h8, .ref h9, .ref h10, .ref h11, .ref h12, .ref h13, .ref h14, .ref h15, .ref h16, .ref h17, .ref h18, .ref h19, .ref h20, .ref h21, .ref h22, .ref h23, .ref h24, .ref h25, .int 0, .ref h26, .ref h27, .ref h28, .ref h29, .int 0, .int 0, .ref h30, .ref h31, .int (-1), .ref h32, .ref h33])), (h2, .inl (K 1, 200, .inl (fun _ => 0)))]) (wr := [(h0, .inr (9, [.ref h1, .ref h3, .ref h4, .ref h5, .ref h6, .ref h7, .int 0]))]) (va_runV (As := [.int 4, .int p0, .int 0, .int 0, .int 0]) (rest := []) ⟨hx, hb, hml, hown, hts⟩ (m_X11_act_3 l G K h1 h2 h8 h9 h10 h11 h12 h13 h14 h15 h16 h17 h18 h19 h20 h21 h22 h23 h24 h25 h26 h27 h28 h29 h30 h31 h32 h33 p0 _) (cwV 5 hts (wGV t_ (mw (.methodLink RX12 40 yX11_act) (List.mem_of_getElem? (i := 1) rfl)) (mw (.instanceMethod yX11_act) (List.mem_of_getElem? (i := 2) rfl)) (mw (.selects RX11 yX11_act yX11_act) (List.mem_of_getElem? (i := 3) rfl)) (mw (.initialized RX11) (List.mem_of_getElem? (i := 4) rfl)) j_X11_act_3) rfl rfl rfl (by decide +kernel) ⟨Nat.le_of_ble_eq_true rfl, Nat.le_of_ble_eq_true rfl⟩) (wPV hK hE hPc hDc 8 0 rfl rfl) rfl rfl hl.1 rfl (lv_room (Nat.le_of_ble_eq_true rfl)) dX12_chair_9 ⟨Nat.le_of_ble_eq_true rfl, Nat.le_of_ble_eq_true rfl⟩) hP hD hS hA [1, 2] [0] rfl rfl rfl (by decide) (fun r u H locs hw hP hD hS => ?_)
  rcases hw with ⟨c_w, rfl, rfl⟩ | ⟨c_w, rfl, rfl⟩
  · have c1 := c_w
    have hP : va_P G vwCl [(h0, .inr (9, [.ref h1, .ref h3, .ref h4, .ref h5, .ref h6, .ref h7, .int 0])), (h1, .inr (8, [.int 1, .int 0, .int (-1), .int 0, .int 0, .int (-1), .int 0, .int 0, .int 0, .int 0, .int 9, .ref h2, .ref h8, .ref h9, .ref h10, .ref h11, .ref h12, .ref h13, .ref h14, .ref h15, .ref h16, .ref h17, .ref h18, .ref h19, .ref h20, .ref h21, .ref h22, .ref h23, .ref h24, .ref h25, .int 0, .ref h26, .ref h27, .ref h28, .ref h29, .int 0, .int 0, .ref h30, .ref h31, .int (-1), .ref h32, .ref h33])), (h2, .inl (K 1, 200, .inl (fun _ => 0)))] _ := hP
    have hD : va_D A [(h0, .inr (9, [.ref h1, .ref h3, .ref h4, .ref h5, .ref h6, .ref h7, .int 0])), (h1, .inr (8, [.int 1, .int 0, .int (-1), .int 0, .int 0, .int (-1), .int 0, .int 0, .int 0, .int 0, .int 9, .ref h2, .ref h8, .ref h9, .ref h10, .ref h11, .ref h12, .ref h13, .ref h14, .ref h15, .ref h16, .ref h17, .ref h18, .ref h19, .ref h20, .ref h21, .ref h22, .ref h23, .ref h24, .ref h25, .int 0, .ref h26, .ref h27, .ref h28, .ref h29, .int 0, .int 0, .ref h30, .ref h31, .int (-1), .ref h32, .ref h33])), (h2, .inl (K 1, 200, .inl (fun _ => 0)))] := hD
    have hP9 : va_P G vwCl [(h0, .inr (9, [.ref h1, .ref h3, .ref h4, .ref h5, .ref h6, .ref h7, .int 0])), (h1, .inr (8, [.int 1, .int 0, .int (-1), .int 0, .int 0, .int (-1), .int 0, .int 0, .int 0, .int 0, .int 9, .ref h2, .ref h8, .ref h9, .ref h10, .ref h11, .ref h12, .ref h13, .ref h14, .ref h15, .ref h16, .ref h17, .ref h18, .ref h19, .ref h20, .ref h21, .ref h22, .ref h23, .ref h24, .ref h25, .int 0, .ref h26, .ref h27, .ref h28, .ref h29, .int 0, .int 0, .ref h30, .ref h31, .int (-1), .ref h32, .ref h33])), (h2, .inl (K 1, 200, .inl (fun _ => 0)))] _ := hP
    have hD9 : va_D A [(h0, .inr (9, [.ref h1, .ref h3, .ref h4, .ref h5, .ref h6, .ref h7, .int 0])), (h1, .inr (8, [.int 1, .int 0, .int (-1), .int 0, .int 0, .int (-1), .int 0, .int 0, .int 0, .int 0, .int 9, .ref h2, .ref h8, .ref h9, .ref h10, .ref h11, .ref h12, .ref h13, .ref h14, .ref h15, .ref h16, .ref h17, .ref h18, .ref h19, .ref h20, .ref h21, .ref h22, .ref h23, .ref h24, .ref h25, .int 0, .ref h26, .ref h27, .ref h28, .ref h29, .int 0, .int 0, .ref h30, .ref h31, .int (-1), .ref h32, .ref h33])), (h2, .inl (K 1, 200, .inl (fun _ => 0)))] := hD
    exact W.iret (v := (-9)) hx hb hr (fun t ht hW => ⟨⟨(-9), _, rfl, Or.inl ⟨(by first | omega | decide | simp), rfl, rfl⟩, by rw [ht]; exact hP9, hD9⟩, hS.F ht⟩) hS.2.2 dX12_chair_12
  · have c2 := c_w
    have hP : va_P G vwCl [(h0, .inr (9, [.ref h1, .ref h3, .ref h4, .ref h5, .ref h6, .ref h7, .int 0])), (h1, .inr (8, [.int 1, .int 0, .int (-1), .int 0, .int 0, .int (-1), .int 0, .int 0, .int 0, .int 0, .int 8, .ref h2, .ref h8, .ref h9, .ref h10, .ref h11, .ref h12, .ref h13, .ref h14, .ref h15, .ref h16, .ref h17, .ref h18, .ref h19, .ref h20, .ref h21, .ref h22, .ref h23, .ref h24, .ref h25, .int 0, .ref h26, .ref h27, .ref h28, .ref h29, .int 0, .int 0, .ref h30, .ref h31, .int (-1), .ref h32, .ref h33])), (h2, .inl (K 1, 200, .inl (fun _ => 0)))] _ := hP
    have hD : va_D A [(h0, .inr (9, [.ref h1, .ref h3, .ref h4, .ref h5, .ref h6, .ref h7, .int 0])), (h1, .inr (8, [.int 1, .int 0, .int (-1), .int 0, .int 0, .int (-1), .int 0, .int 0, .int 0, .int 0, .int 8, .ref h2, .ref h8, .ref h9, .ref h10, .ref h11, .ref h12, .ref h13, .ref h14, .ref h15, .ref h16, .ref h17, .ref h18, .ref h19, .ref h20, .ref h21, .ref h22, .ref h23, .ref h24, .ref h25, .int 0, .ref h26, .ref h27, .ref h28, .ref h29, .int 0, .int 0, .ref h30, .ref h31, .int (-1), .ref h32, .ref h33])), (h2, .inl (K 1, 200, .inl (fun _ => 0)))] := hD
    obtain rfl : p0 = 0 := wIs (b := 0) (by decide) (by omega)
    have z_0 : (0 : Int32).toInt = 0 := by decide
    have hP9 : va_P G vwCl [(h0, .inr (9, [.ref h1, .ref h3, .ref h4, .ref h5, .ref h6, .ref h7, .int 0])), (h1, .inr (8, [.int 1, .int 0, .int (-1), .int 0, .int 0, .int (-1), .int 0, .int 0, .int 0, .int 0, .int 8, .ref h2, .ref h8, .ref h9, .ref h10, .ref h11, .ref h12, .ref h13, .ref h14, .ref h15, .ref h16, .ref h17, .ref h18, .ref h19, .ref h20, .ref h21, .ref h22, .ref h23, .ref h24, .ref h25, .int 0, .ref h26, .ref h27, .ref h28, .ref h29, .int 0, .int 0, .ref h30, .ref h31, .int (-1), .ref h32, .ref h33])), (h2, .inl (K 1, 200, .inl (fun _ => 0)))] _ := hP
    have hD9 : va_D A [(h0, .inr (9, [.ref h1, .ref h3, .ref h4, .ref h5, .ref h6, .ref h7, .int 0])), (h1, .inr (8, [.int 1, .int 0, .int (-1), .int 0, .int 0, .int (-1), .int 0, .int 0, .int 0, .int 0, .int 8, .ref h2, .ref h8, .ref h9, .ref h10, .ref h11, .ref h12, .ref h13, .ref h14, .ref h15, .ref h16, .ref h17, .ref h18, .ref h19, .ref h20, .ref h21, .ref h22, .ref h23, .ref h24, .ref h25, .int 0, .ref h26, .ref h27, .ref h28, .ref h29, .int 0, .int 0, .ref h30, .ref h31, .int (-1), .ref h32, .ref h33])), (h2, .inl (K 1, 200, .inl (fun _ => 0)))] := hD
    exact W.iret (v := (-8)) hx hb hr (fun t ht hW => ⟨⟨(-8), _, rfl, Or.inr (⟨(by first | omega | decide | simp), rfl, rfl⟩), by rw [ht]; exact hP9, hD9⟩, hS.F ht⟩) hS.2.2 dX12_chair_12
def e_X12_in_5 : List Cond := []
def v_X12_in_5 : List Cond := .code yX12_in cX12_in 3 (some .boolean) :: (e_X12_in_5 ++ [])
theorem te_X12_in_5 : GoodIn lw_tbl e_X12_in_5 := wG0
theorem t_X12_in_5 : GoodIn lw_tbl v_X12_in_5 := wGc z573 (wGa te_X12_in_5 (wG0))
set_option maxHeartbeats 4000000 in
set_option maxRecDepth 100000 in
theorem m_X12_in_5 (l : Launch) (G : va_G) (K : Nat → ClassId) (p0 : Int32) (sz : Nat) : Met l yX12_in v_X12_in_5 ({ frames := 0, cells := 0, slots := 0, locals := 0 }) (va_Pc [.int p0, .int 1, .int 8] (wS G K sz [])) (va_Qi (fun (r : Int32) (u : va_W) => ((p0.toInt < 1 ∨ (p0.toInt ≥ 1 ∧ p0.toInt > 8)) ∧ r = 0 ∧ u = []) ∨ (((p0.toInt ≥ 1 ∧ p0.toInt ≤ 8)) ∧ r = 1 ∧ u = [])) (wB G (va_A [] sz)) (va_A [] sz)) 0 0 (va_A [] sz) := by
  refine Met.ofW (cc := cX12_in) (maxL := 3) (ret := (some .boolean)) (by decide) rfl ?_
  intro p e s m args below meth c s₁ B hml hv
  obtain ⟨rfl, hsz, hP, hK, hD0, hE⟩ := hv
  have hx := B.exec
  have hb := B.bytes
  have hr := B.returns
  have hts := atoms_spec (ws := v_X12_in_5) B.pre
  have t_ := t_X12_in_5
  have mw : ∀ w ∈ e_X12_in_5, w ∈ v_X12_in_5 := fun w h => List.mem_cons_of_mem _ (List.mem_append_left _ h)
  have hw := fun w (h : w ∈ e_X12_in_5) => hts w (mw w h)
  have hown : s.vm.findClass RX12 = some m.cls := findClass_of_methodNamed B.named
  have hlocks := B.notSynchronized
  subst hsz
  have hD := hD0.self (sz := s.heap.size)
  generalize hAe : va_A [] s.heap.size = A at hD ⊢
  have hA : ∀ q : Nat, s.heap.size ≤ q → A q := fun q h => by rw [← hAe]; exact Or.inr h
  have hS : va_S A s.heap s.heap [] := va_S.rf
  have hP : va_P G vwCl [] s.heap := hP
  have hl := lv_entry ([.int p0, .int 1, .int 8]) (n := 3) (Nat.le_of_ble_eq_true rfl)
  rw [lg_entry_eq]
  generalize (lg_sl ([.int p0, .int 1, .int 8]) ++ List.replicate (3 - (lg_sl ([.int p0, .int 1, .int 8])).length) Slot.unset).toArray = ls at hl ⊢
  have hl : lv_has ls 3 [(0, .int p0), (1, .int 1), (2, .int 8)] := hl
  refine lv_iload_n hx hb dX12_in_0 rfl (lv_at hl 0 rfl) ?_
  refine lv_iload_n hx hb dX12_in_1 rfl (lv_at hl 1 rfl) ?_
  refine lv_icmp_lt (tgt := 14) hx hb dX12_in_2 (by decide) (fun c1 => ?_) (fun c1 => ?_)
  · have c1 : p0.toInt < 1 := wLt rfl (by decide) c1
    refine lv_iconst (v := 0) hx hb dX12_in_14 (by decide) ?_
    have hP9 : va_P G vwCl [] _ := hP
    have hD9 : va_D A [] := hD
    exact W.zret (v := 0) (ty := .boolean) hx hb hr rfl (fun t ht hW => ⟨⟨0, _, rfl, Or.inl ⟨(by first | omega | decide | simp), rfl, rfl⟩, by rw [ht]; exact hP9, hD9⟩, hS.F ht⟩) hS.2.2 dX12_in_15
  · have c1 : p0.toInt ≥ 1 := wNlt rfl (by decide) c1
    refine lv_iload_n hx hb dX12_in_5 rfl (lv_at hl 0 rfl) ?_
    refine lv_iload_n hx hb dX12_in_6 rfl (lv_at hl 2 rfl) ?_
    refine lv_icmp_gt (tgt := 14) hx hb dX12_in_7 (by decide) (fun c2 => ?_) (fun c2 => ?_)
    · have c2 : 8 < p0.toInt := wLt (by decide) rfl c2
      refine lv_iconst (v := 0) hx hb dX12_in_14 (by decide) ?_
      have hP9 : va_P G vwCl [] _ := hP
      have hD9 : va_D A [] := hD
      exact W.zret (v := 0) (ty := .boolean) hx hb hr rfl (fun t ht hW => ⟨⟨0, _, rfl, Or.inl ⟨(by first | omega | decide | simp), rfl, rfl⟩, by rw [ht]; exact hP9, hD9⟩, hS.F ht⟩) hS.2.2 dX12_in_15
    · have c2 : 8 ≥ p0.toInt := wNlt (by decide) rfl c2
      refine lv_iconst (v := 1) hx hb dX12_in_10 (by decide) ?_
      refine lv_goto (tgt := 15) hx hb dX12_in_11 (by decide) ?_
      have hP9 : va_P G vwCl [] _ := hP
      have hD9 : va_D A [] := hD
      exact W.zret (v := 1) (ty := .boolean) hx hb hr rfl (fun t ht hW => ⟨⟨1, _, rfl, Or.inr (⟨(by first | omega | decide | simp), rfl, rfl⟩), by rw [ht]; exact hP9, hD9⟩, hS.F ht⟩) hS.2.2 dX12_in_15
def e_X12_in_6 : List Cond := []
def v_X12_in_6 : List Cond := .code yX12_in cX12_in 3 (some .boolean) :: (e_X12_in_6 ++ [])
theorem te_X12_in_6 : GoodIn lw_tbl e_X12_in_6 := wG0
theorem t_X12_in_6 : GoodIn lw_tbl v_X12_in_6 := wGc z573 (wGa te_X12_in_6 (wG0))
set_option maxHeartbeats 4000000 in
set_option maxRecDepth 100000 in
theorem m_X12_in_6 (l : Launch) (G : va_G) (K : Nat → ClassId) (p0 : Int32) (sz : Nat) : Met l yX12_in v_X12_in_6 ({ frames := 0, cells := 0, slots := 0, locals := 0 }) (va_Pc [.int p0, .int 1, .int 3] (wS G K sz [])) (va_Qi (fun (r : Int32) (u : va_W) => ((p0.toInt < 1 ∨ (p0.toInt ≥ 1 ∧ p0.toInt > 3)) ∧ r = 0 ∧ u = []) ∨ (((p0.toInt ≥ 1 ∧ p0.toInt ≤ 3)) ∧ r = 1 ∧ u = [])) (wB G (va_A [] sz)) (va_A [] sz)) 0 0 (va_A [] sz) := by
  refine Met.ofW (cc := cX12_in) (maxL := 3) (ret := (some .boolean)) (by decide) rfl ?_
  intro p e s m args below meth c s₁ B hml hv
  obtain ⟨rfl, hsz, hP, hK, hD0, hE⟩ := hv
  have hx := B.exec
  have hb := B.bytes
  have hr := B.returns
  have hts := atoms_spec (ws := v_X12_in_6) B.pre
  have t_ := t_X12_in_6
  have mw : ∀ w ∈ e_X12_in_6, w ∈ v_X12_in_6 := fun w h => List.mem_cons_of_mem _ (List.mem_append_left _ h)
  have hw := fun w (h : w ∈ e_X12_in_6) => hts w (mw w h)
  have hown : s.vm.findClass RX12 = some m.cls := findClass_of_methodNamed B.named
  have hlocks := B.notSynchronized
  subst hsz
  have hD := hD0.self (sz := s.heap.size)
  generalize hAe : va_A [] s.heap.size = A at hD ⊢
  have hA : ∀ q : Nat, s.heap.size ≤ q → A q := fun q h => by rw [← hAe]; exact Or.inr h
  have hS : va_S A s.heap s.heap [] := va_S.rf
  have hP : va_P G vwCl [] s.heap := hP
  have hl := lv_entry ([.int p0, .int 1, .int 3]) (n := 3) (Nat.le_of_ble_eq_true rfl)
  rw [lg_entry_eq]
  generalize (lg_sl ([.int p0, .int 1, .int 3]) ++ List.replicate (3 - (lg_sl ([.int p0, .int 1, .int 3])).length) Slot.unset).toArray = ls at hl ⊢
  have hl : lv_has ls 3 [(0, .int p0), (1, .int 1), (2, .int 3)] := hl
  refine lv_iload_n hx hb dX12_in_0 rfl (lv_at hl 0 rfl) ?_
  refine lv_iload_n hx hb dX12_in_1 rfl (lv_at hl 1 rfl) ?_
  refine lv_icmp_lt (tgt := 14) hx hb dX12_in_2 (by decide) (fun c1 => ?_) (fun c1 => ?_)
  · have c1 : p0.toInt < 1 := wLt rfl (by decide) c1
    refine lv_iconst (v := 0) hx hb dX12_in_14 (by decide) ?_
    have hP9 : va_P G vwCl [] _ := hP
    have hD9 : va_D A [] := hD
    exact W.zret (v := 0) (ty := .boolean) hx hb hr rfl (fun t ht hW => ⟨⟨0, _, rfl, Or.inl ⟨(by first | omega | decide | simp), rfl, rfl⟩, by rw [ht]; exact hP9, hD9⟩, hS.F ht⟩) hS.2.2 dX12_in_15
  · have c1 : p0.toInt ≥ 1 := wNlt rfl (by decide) c1
    refine lv_iload_n hx hb dX12_in_5 rfl (lv_at hl 0 rfl) ?_
    refine lv_iload_n hx hb dX12_in_6 rfl (lv_at hl 2 rfl) ?_
    refine lv_icmp_gt (tgt := 14) hx hb dX12_in_7 (by decide) (fun c2 => ?_) (fun c2 => ?_)
    · have c2 : 3 < p0.toInt := wLt (by decide) rfl c2
      refine lv_iconst (v := 0) hx hb dX12_in_14 (by decide) ?_
      have hP9 : va_P G vwCl [] _ := hP
      have hD9 : va_D A [] := hD
      exact W.zret (v := 0) (ty := .boolean) hx hb hr rfl (fun t ht hW => ⟨⟨0, _, rfl, Or.inl ⟨(by first | omega | decide | simp), rfl, rfl⟩, by rw [ht]; exact hP9, hD9⟩, hS.F ht⟩) hS.2.2 dX12_in_15
    · have c2 : 3 ≥ p0.toInt := wNlt (by decide) rfl c2
      refine lv_iconst (v := 1) hx hb dX12_in_10 (by decide) ?_
      refine lv_goto (tgt := 15) hx hb dX12_in_11 (by decide) ?_
      have hP9 : va_P G vwCl [] _ := hP
      have hD9 : va_D A [] := hD
      exact W.zret (v := 1) (ty := .boolean) hx hb hr rfl (fun t ht hW => ⟨⟨1, _, rfl, Or.inr (⟨(by first | omega | decide | simp), rfl, rfl⟩), by rw [ht]; exact hP9, hD9⟩, hS.F ht⟩) hS.2.2 dX12_in_15
def e_X11_reason_4 : List Cond := [.initialized RX12, .static yX12_in, .fieldLink RX11 115 "MotionFloorModel$Hall" "pending" "I"]
def v_X11_reason_4 : List Cond := .code yX11_reason cX11_reason 6 (some .int) :: (e_X11_reason_4 ++ (wsX110 ++ (v_X12_in_5 ++ (v_X12_in_6 ++ []))))
theorem te_X11_reason_4 : GoodIn lw_tbl e_X11_reason_4 := wGc z574 (wGc z575 (wGc z543 (wG0)))
theorem t_X11_reason_4 : GoodIn lw_tbl v_X11_reason_4 := wGc z582 (wGa te_X11_reason_4 (wGa zcX11 (wGa t_X12_in_5 (wGa t_X12_in_6 (wG0)))))
set_option maxHeartbeats 4000000 in
set_option maxRecDepth 100000 in
theorem m_X11_reason_4 (l : Launch) (G : va_G) (K : Nat → ClassId) (h0 h1 h2 h3 h4 h5 h6 h7 h8 h9 h10 h11 h12 h13 h14 h15 h16 h17 h18 h19 h20 h21 h22 h23 h24 h25 h26 h27 : Nat) (p0 p1 : Int32) (sz : Nat) : Met l yX11_reason v_X11_reason_4 ({ frames := 1, cells := 0, slots := 0, locals := 22 }) (va_Pc [.ref h0, .int 5, .int p0, .int p1, .int 0, .int 0] (wS G K sz [(h0, .inr (8, [.int 1, .int 0, .int (-1), .int 0, .int 0, .int (-1), .int 0, .int 0, .int 0, .int 0, .int 0, .ref h1, .ref h2, .ref h3, .ref h4, .ref h5, .ref h6, .ref h7, .ref h8, .ref h9, .ref h10, .ref h11, .ref h12, .ref h13, .ref h14, .ref h15, .ref h16, .ref h17, .ref h18, .ref h19, .int 0, .ref h20, .ref h21, .ref h22, .ref h23, .int 0, .int 0, .ref h24, .ref h25, .int (-1), .ref h26, .ref h27]))])) (va_Qi (fun (r : Int32) (u : va_W) => (((p0.toInt < 1 ∨ (p0.toInt ≥ 1 ∧ p0.toInt > 8)) ∨ (((p0.toInt ≥ 1 ∧ p0.toInt ≤ 8)) ∧ (p1.toInt < 1 ∨ (p1.toInt ≥ 1 ∧ p1.toInt > 3)))) ∧ r = 9 ∧ u = [(h0, .inr (8, [.int 1, .int 0, .int (-1), .int 0, .int 0, .int (-1), .int 0, .int 0, .int 0, .int 0, .int 0, .ref h1, .ref h2, .ref h3, .ref h4, .ref h5, .ref h6, .ref h7, .ref h8, .ref h9, .ref h10, .ref h11, .ref h12, .ref h13, .ref h14, .ref h15, .ref h16, .ref h17, .ref h18, .ref h19, .int 0, .ref h20, .ref h21, .ref h22, .ref h23, .int 0, .int 0, .ref h24, .ref h25, .int (-1), .ref h26, .ref h27]))]) ∨ (((((p0.toInt ≥ 1 ∧ p0.toInt ≤ 8)) ∧ ((p1.toInt ≥ 1 ∧ p1.toInt ≤ 3)))) ∧ r = 0 ∧ u = [(h0, .inr (8, [.int 1, .int 0, .int (-1), .int 0, .int 0, .int (-1), .int 0, .int 0, .int 0, .int 0, .int 0, .ref h1, .ref h2, .ref h3, .ref h4, .ref h5, .ref h6, .ref h7, .ref h8, .ref h9, .ref h10, .ref h11, .ref h12, .ref h13, .ref h14, .ref h15, .ref h16, .ref h17, .ref h18, .ref h19, .int 0, .ref h20, .ref h21, .ref h22, .ref h23, .int 0, .int 0, .ref h24, .ref h25, .int (-1), .ref h26, .ref h27]))])) (wB G (va_A [(h0, .inr (8, [.int 1, .int 0, .int (-1), .int 0, .int 0, .int (-1), .int 0, .int 0, .int 0, .int 0, .int 0, .ref h1, .ref h2, .ref h3, .ref h4, .ref h5, .ref h6, .ref h7, .ref h8, .ref h9, .ref h10, .ref h11, .ref h12, .ref h13, .ref h14, .ref h15, .ref h16, .ref h17, .ref h18, .ref h19, .int 0, .ref h20, .ref h21, .ref h22, .ref h23, .int 0, .int 0, .ref h24, .ref h25, .int (-1), .ref h26, .ref h27]))] sz)) (va_A [(h0, .inr (8, [.int 1, .int 0, .int (-1), .int 0, .int 0, .int (-1), .int 0, .int 0, .int 0, .int 0, .int 0, .ref h1, .ref h2, .ref h3, .ref h4, .ref h5, .ref h6, .ref h7, .ref h8, .ref h9, .ref h10, .ref h11, .ref h12, .ref h13, .ref h14, .ref h15, .ref h16, .ref h17, .ref h18, .ref h19, .int 0, .ref h20, .ref h21, .ref h22, .ref h23, .int 0, .int 0, .ref h24, .ref h25, .int (-1), .ref h26, .ref h27]))] sz)) 0 0 (va_A [(h0, .inr (8, [.int 1, .int 0, .int (-1), .int 0, .int 0, .int (-1), .int 0, .int 0, .int 0, .int 0, .int 0, .ref h1, .ref h2, .ref h3, .ref h4, .ref h5, .ref h6, .ref h7, .ref h8, .ref h9, .ref h10, .ref h11, .ref h12, .ref h13, .ref h14, .ref h15, .ref h16, .ref h17, .ref h18, .ref h19, .int 0, .ref h20, .ref h21, .ref h22, .ref h23, .int 0, .int 0, .ref h24, .ref h25, .int (-1), .ref h26, .ref h27]))] sz) := by
  refine Met.ofW (cc := cX11_reason) (maxL := 6) (ret := (some .int)) (by decide) rfl ?_
  intro p e s m args below meth c s₁ B hml hv
  obtain ⟨rfl, hsz, hP, hK, hD0, hE⟩ := hv
  have hx := B.exec
  have hb := B.bytes
  have hr := B.returns
  have hts := atoms_spec (ws := v_X11_reason_4) B.pre
  have t_ := t_X11_reason_4
  have mw : ∀ w ∈ e_X11_reason_4, w ∈ v_X11_reason_4 := fun w h => List.mem_cons_of_mem _ (List.mem_append_left _ h)
  have hw := fun w (h : w ∈ e_X11_reason_4) => hts w (mw w h)
  have iX11 : ∀ w ∈ wsX110, w ∈ v_X11_reason_4 := fun w h => List.mem_cons_of_mem _ (List.mem_append_right _ (List.mem_append_left _ h))
  have j_X12_in_5 : ∀ w ∈ v_X12_in_5, w ∈ v_X11_reason_4 := fun w h => List.mem_cons_of_mem _ (List.mem_append_right _ (List.mem_append_right _ (List.mem_append_left _ h)))
  have j_X12_in_6 : ∀ w ∈ v_X12_in_6, w ∈ v_X11_reason_4 := fun w h => List.mem_cons_of_mem _ (List.mem_append_right _ (List.mem_append_right _ (List.mem_append_right _ (List.mem_append_left _ h))))
  have hown : s.vm.findClass RX11 = some m.cls := findClass_of_methodNamed B.named
  have hlocks := B.notSynchronized
  subst hsz
  have hD := hD0.self (sz := s.heap.size)
  generalize hAe : va_A [(h0, .inr (8, [.int 1, .int 0, .int (-1), .int 0, .int 0, .int (-1), .int 0, .int 0, .int 0, .int 0, .int 0, .ref h1, .ref h2, .ref h3, .ref h4, .ref h5, .ref h6, .ref h7, .ref h8, .ref h9, .ref h10, .ref h11, .ref h12, .ref h13, .ref h14, .ref h15, .ref h16, .ref h17, .ref h18, .ref h19, .int 0, .ref h20, .ref h21, .ref h22, .ref h23, .int 0, .int 0, .ref h24, .ref h25, .int (-1), .ref h26, .ref h27]))] s.heap.size = A at hD ⊢
  have hA : ∀ q : Nat, s.heap.size ≤ q → A q := fun q h => by rw [← hAe]; exact Or.inr h
  have hS : va_S A s.heap s.heap [] := va_S.rf
  have hP : va_P G vwCl [(h0, .inr (8, [.int 1, .int 0, .int (-1), .int 0, .int 0, .int (-1), .int 0, .int 0, .int 0, .int 0, .int 0, .ref h1, .ref h2, .ref h3, .ref h4, .ref h5, .ref h6, .ref h7, .ref h8, .ref h9, .ref h10, .ref h11, .ref h12, .ref h13, .ref h14, .ref h15, .ref h16, .ref h17, .ref h18, .ref h19, .int 0, .ref h20, .ref h21, .ref h22, .ref h23, .int 0, .int 0, .ref h24, .ref h25, .int (-1), .ref h26, .ref h27]))] s.heap := hP
  have hl := lv_entry ([.ref h0, .int 5, .int p0, .int p1, .int 0, .int 0]) (n := 6) (Nat.le_of_ble_eq_true rfl)
  rw [lg_entry_eq]
  generalize (lg_sl ([.ref h0, .int 5, .int p0, .int p1, .int 0, .int 0]) ++ List.replicate (6 - (lg_sl ([.ref h0, .int 5, .int p0, .int p1, .int 0, .int 0])).length) Slot.unset).toArray = ls at hl ⊢
  have hl : lv_has ls 6 [(0, .ref h0), (1, .int 5), (2, .int p0), (3, .int p1), (4, .int 0), (5, .int 0)] := hl
  refine lv_iload_n hx hb dX11_reason_0 rfl (lv_at hl 1 rfl) ?_
  refine lv_tableIn (tgt := 188) hx hb dX11_reason_1 (by decide) (by decide) (by decide) (by decide) ?_
  refine lv_iload_n hx hb dX11_reason_188 rfl (lv_at hl 2 rfl) ?_
  refine lv_iconst (v := 1) hx hb dX11_reason_189 (by decide) ?_
  refine lv_bipush (v := 8) hx hb dX11_reason_190 (by decide) ?_
  have hPc := hP.sub (ws' := []) [] rfl
  have hDc := hD.sub (ws' := []) [] (by decide) rfl
  refine wGoi (wc := []) (wr := [(h0, .inr (8, [.int 1, .int 0, .int (-1), .int 0, .int 0, .int (-1), .int 0, .int 0, .int 0, .int 0, .int 0, .ref h1, .ref h2, .ref h3, .ref h4, .ref h5, .ref h6, .ref h7, .ref h8, .ref h9, .ref h10, .ref h11, .ref h12, .ref h13, .ref h14, .ref h15, .ref h16, .ref h17, .ref h18, .ref h19, .int 0, .ref h20, .ref h21, .ref h22, .ref h23, .int 0, .int 0, .ref h24, .ref h25, .int (-1), .ref h26, .ref h27]))]) (va_runSN (As := [.int p0, .int 1, .int 8]) (rest := []) ⟨hx, hb, hml, hown, hts⟩ (m_X12_in_5 l G K p0 _) ⟨va_cnB (host := "MotionFloorModel") 3 hts (wGP t_ j_X12_in_5) rfl rfl rfl hE.2.2.2.2.2.2.2.2.2.1 (hw (.initialized RX12) (List.mem_of_getElem? (i := 0) rfl)) (by decide +kernel) ⟨Nat.le_of_ble_eq_true rfl, Nat.le_of_ble_eq_true rfl⟩, (hw (.static yX12_in) (List.mem_of_getElem? (i := 1) rfl)), trivial⟩ (wPS hK hE hPc hDc) rfl rfl hl.1 rfl (lv_room (Nat.le_of_ble_eq_true rfl)) dX11_reason_192 ⟨Nat.le_of_ble_eq_true rfl, Nat.le_of_ble_eq_true rfl⟩) hP hD hS hA [] [0] rfl rfl rfl (by decide) (fun r u H locs hw hP hD hS => ?_)
  rcases hw with ⟨c_w, rfl, rfl⟩ | ⟨c_w, rfl, rfl⟩
  · have c1 := c_w
    have hP : va_P G vwCl [(h0, .inr (8, [.int 1, .int 0, .int (-1), .int 0, .int 0, .int (-1), .int 0, .int 0, .int 0, .int 0, .int 0, .ref h1, .ref h2, .ref h3, .ref h4, .ref h5, .ref h6, .ref h7, .ref h8, .ref h9, .ref h10, .ref h11, .ref h12, .ref h13, .ref h14, .ref h15, .ref h16, .ref h17, .ref h18, .ref h19, .int 0, .ref h20, .ref h21, .ref h22, .ref h23, .int 0, .int 0, .ref h24, .ref h25, .int (-1), .ref h26, .ref h27]))] _ := hP
    have hD : va_D A [(h0, .inr (8, [.int 1, .int 0, .int (-1), .int 0, .int 0, .int (-1), .int 0, .int 0, .int 0, .int 0, .int 0, .ref h1, .ref h2, .ref h3, .ref h4, .ref h5, .ref h6, .ref h7, .ref h8, .ref h9, .ref h10, .ref h11, .ref h12, .ref h13, .ref h14, .ref h15, .ref h16, .ref h17, .ref h18, .ref h19, .int 0, .ref h20, .ref h21, .ref h22, .ref h23, .int 0, .int 0, .ref h24, .ref h25, .int (-1), .ref h26, .ref h27]))] := hD
    refine lv_if_eq (tgt := 207) hx hb dX11_reason_195 (by decide) (fun _ => ?_) (fun c_ => absurd c_ (by decide))
    refine lv_bipush (v := 9) hx hb dX11_reason_207 (by decide) ?_
    refine lv_goto (tgt := 225) hx hb dX11_reason_209 (by decide) ?_
    have hP9 : va_P G vwCl [(h0, .inr (8, [.int 1, .int 0, .int (-1), .int 0, .int 0, .int (-1), .int 0, .int 0, .int 0, .int 0, .int 0, .ref h1, .ref h2, .ref h3, .ref h4, .ref h5, .ref h6, .ref h7, .ref h8, .ref h9, .ref h10, .ref h11, .ref h12, .ref h13, .ref h14, .ref h15, .ref h16, .ref h17, .ref h18, .ref h19, .int 0, .ref h20, .ref h21, .ref h22, .ref h23, .int 0, .int 0, .ref h24, .ref h25, .int (-1), .ref h26, .ref h27]))] _ := hP
    have hD9 : va_D A [(h0, .inr (8, [.int 1, .int 0, .int (-1), .int 0, .int 0, .int (-1), .int 0, .int 0, .int 0, .int 0, .int 0, .ref h1, .ref h2, .ref h3, .ref h4, .ref h5, .ref h6, .ref h7, .ref h8, .ref h9, .ref h10, .ref h11, .ref h12, .ref h13, .ref h14, .ref h15, .ref h16, .ref h17, .ref h18, .ref h19, .int 0, .ref h20, .ref h21, .ref h22, .ref h23, .int 0, .int 0, .ref h24, .ref h25, .int (-1), .ref h26, .ref h27]))] := hD
    exact W.iret (v := 9) hx hb hr (fun t ht hW => ⟨⟨9, _, rfl, Or.inl ⟨(by first | omega | decide | simp), rfl, rfl⟩, by rw [ht]; exact hP9, hD9⟩, hS.F ht⟩) hS.2.2 dX11_reason_225
  · have c2 := c_w
    have hP : va_P G vwCl [(h0, .inr (8, [.int 1, .int 0, .int (-1), .int 0, .int 0, .int (-1), .int 0, .int 0, .int 0, .int 0, .int 0, .ref h1, .ref h2, .ref h3, .ref h4, .ref h5, .ref h6, .ref h7, .ref h8, .ref h9, .ref h10, .ref h11, .ref h12, .ref h13, .ref h14, .ref h15, .ref h16, .ref h17, .ref h18, .ref h19, .int 0, .ref h20, .ref h21, .ref h22, .ref h23, .int 0, .int 0, .ref h24, .ref h25, .int (-1), .ref h26, .ref h27]))] _ := hP
    have hD : va_D A [(h0, .inr (8, [.int 1, .int 0, .int (-1), .int 0, .int 0, .int (-1), .int 0, .int 0, .int 0, .int 0, .int 0, .ref h1, .ref h2, .ref h3, .ref h4, .ref h5, .ref h6, .ref h7, .ref h8, .ref h9, .ref h10, .ref h11, .ref h12, .ref h13, .ref h14, .ref h15, .ref h16, .ref h17, .ref h18, .ref h19, .int 0, .ref h20, .ref h21, .ref h22, .ref h23, .int 0, .int 0, .ref h24, .ref h25, .int (-1), .ref h26, .ref h27]))] := hD
    refine lv_if_eq (tgt := 207) hx hb dX11_reason_195 (by decide) (fun c_ => absurd c_ (by decide)) (fun _ => ?_)
    refine lv_iload_n hx hb dX11_reason_198 rfl (lv_at hl 3 rfl) ?_
    refine lv_iconst (v := 1) hx hb dX11_reason_199 (by decide) ?_
    refine lv_iconst (v := 3) hx hb dX11_reason_200 (by decide) ?_
    have hPc := hP.sub (ws' := []) [] rfl
    have hDc := hD.sub (ws' := []) [] (by decide) rfl
    refine wGoi (wc := []) (wr := [(h0, .inr (8, [.int 1, .int 0, .int (-1), .int 0, .int 0, .int (-1), .int 0, .int 0, .int 0, .int 0, .int 0, .ref h1, .ref h2, .ref h3, .ref h4, .ref h5, .ref h6, .ref h7, .ref h8, .ref h9, .ref h10, .ref h11, .ref h12, .ref h13, .ref h14, .ref h15, .ref h16, .ref h17, .ref h18, .ref h19, .int 0, .ref h20, .ref h21, .ref h22, .ref h23, .int 0, .int 0, .ref h24, .ref h25, .int (-1), .ref h26, .ref h27]))]) (va_runSN (As := [.int p1, .int 1, .int 3]) (rest := []) ⟨hx, hb, hml, hown, hts⟩ (m_X12_in_6 l G K p1 _) ⟨va_cnB (host := "MotionFloorModel") 3 hts (wGP t_ j_X12_in_6) rfl rfl rfl hE.2.2.2.2.2.2.2.2.2.1 (hw (.initialized RX12) (List.mem_of_getElem? (i := 0) rfl)) (by decide +kernel) ⟨Nat.le_of_ble_eq_true rfl, Nat.le_of_ble_eq_true rfl⟩, (hw (.static yX12_in) (List.mem_of_getElem? (i := 1) rfl)), trivial⟩ (wPS hK hE hPc hDc) rfl rfl hl.1 rfl (lv_room (Nat.le_of_ble_eq_true rfl)) dX11_reason_201 ⟨Nat.le_of_ble_eq_true rfl, Nat.le_of_ble_eq_true rfl⟩) hP hD hS hA [] [0] rfl rfl rfl (by decide) (fun r u H locs hw hP hD hS => ?_)
    rcases hw with ⟨c_w, rfl, rfl⟩ | ⟨c_w, rfl, rfl⟩
    · have c3 := c_w
      have hP : va_P G vwCl [(h0, .inr (8, [.int 1, .int 0, .int (-1), .int 0, .int 0, .int (-1), .int 0, .int 0, .int 0, .int 0, .int 0, .ref h1, .ref h2, .ref h3, .ref h4, .ref h5, .ref h6, .ref h7, .ref h8, .ref h9, .ref h10, .ref h11, .ref h12, .ref h13, .ref h14, .ref h15, .ref h16, .ref h17, .ref h18, .ref h19, .int 0, .ref h20, .ref h21, .ref h22, .ref h23, .int 0, .int 0, .ref h24, .ref h25, .int (-1), .ref h26, .ref h27]))] _ := hP
      have hD : va_D A [(h0, .inr (8, [.int 1, .int 0, .int (-1), .int 0, .int 0, .int (-1), .int 0, .int 0, .int 0, .int 0, .int 0, .ref h1, .ref h2, .ref h3, .ref h4, .ref h5, .ref h6, .ref h7, .ref h8, .ref h9, .ref h10, .ref h11, .ref h12, .ref h13, .ref h14, .ref h15, .ref h16, .ref h17, .ref h18, .ref h19, .int 0, .ref h20, .ref h21, .ref h22, .ref h23, .int 0, .int 0, .ref h24, .ref h25, .int (-1), .ref h26, .ref h27]))] := hD
      refine lv_if_ne (tgt := 212) hx hb dX11_reason_204 (by decide) (fun c_ => absurd c_ (by decide)) (fun _ => ?_)
      refine lv_bipush (v := 9) hx hb dX11_reason_207 (by decide) ?_
      refine lv_goto (tgt := 225) hx hb dX11_reason_209 (by decide) ?_
      have hP9 : va_P G vwCl [(h0, .inr (8, [.int 1, .int 0, .int (-1), .int 0, .int 0, .int (-1), .int 0, .int 0, .int 0, .int 0, .int 0, .ref h1, .ref h2, .ref h3, .ref h4, .ref h5, .ref h6, .ref h7, .ref h8, .ref h9, .ref h10, .ref h11, .ref h12, .ref h13, .ref h14, .ref h15, .ref h16, .ref h17, .ref h18, .ref h19, .int 0, .ref h20, .ref h21, .ref h22, .ref h23, .int 0, .int 0, .ref h24, .ref h25, .int (-1), .ref h26, .ref h27]))] _ := hP
      have hD9 : va_D A [(h0, .inr (8, [.int 1, .int 0, .int (-1), .int 0, .int 0, .int (-1), .int 0, .int 0, .int 0, .int 0, .int 0, .ref h1, .ref h2, .ref h3, .ref h4, .ref h5, .ref h6, .ref h7, .ref h8, .ref h9, .ref h10, .ref h11, .ref h12, .ref h13, .ref h14, .ref h15, .ref h16, .ref h17, .ref h18, .ref h19, .int 0, .ref h20, .ref h21, .ref h22, .ref h23, .int 0, .int 0, .ref h24, .ref h25, .int (-1), .ref h26, .ref h27]))] := hD
      exact W.iret (v := 9) hx hb hr (fun t ht hW => ⟨⟨9, _, rfl, Or.inl ⟨(by first | omega | decide | simp), rfl, rfl⟩, by rw [ht]; exact hP9, hD9⟩, hS.F ht⟩) hS.2.2 dX11_reason_225
    · have c4 := c_w
      have hP : va_P G vwCl [(h0, .inr (8, [.int 1, .int 0, .int (-1), .int 0, .int 0, .int (-1), .int 0, .int 0, .int 0, .int 0, .int 0, .ref h1, .ref h2, .ref h3, .ref h4, .ref h5, .ref h6, .ref h7, .ref h8, .ref h9, .ref h10, .ref h11, .ref h12, .ref h13, .ref h14, .ref h15, .ref h16, .ref h17, .ref h18, .ref h19, .int 0, .ref h20, .ref h21, .ref h22, .ref h23, .int 0, .int 0, .ref h24, .ref h25, .int (-1), .ref h26, .ref h27]))] _ := hP
      have hD : va_D A [(h0, .inr (8, [.int 1, .int 0, .int (-1), .int 0, .int 0, .int (-1), .int 0, .int 0, .int 0, .int 0, .int 0, .ref h1, .ref h2, .ref h3, .ref h4, .ref h5, .ref h6, .ref h7, .ref h8, .ref h9, .ref h10, .ref h11, .ref h12, .ref h13, .ref h14, .ref h15, .ref h16, .ref h17, .ref h18, .ref h19, .int 0, .ref h20, .ref h21, .ref h22, .ref h23, .int 0, .int 0, .ref h24, .ref h25, .int (-1), .ref h26, .ref h27]))] := hD
      refine lv_if_ne (tgt := 212) hx hb dX11_reason_204 (by decide) (fun _ => ?_) (fun c_ => absurd c_ (by decide))
      refine lv_aload_n hx hb dX11_reason_212 rfl (lv_at hl 0 rfl) ?_
      refine va_get (D := G) (ci := 8) (v := .int 0) (C := RX11) (T := TX11) (N := 42) hx hb hts iX11 hown hK hP 0 rfl rfl 6 (by decide) (hw (.fieldLink RX11 115 "MotionFloorModel$Hall" "pending" "I") (List.mem_of_getElem? (i := 2) rfl)) (fun _ h9 => h9) rfl dX11_reason_213 ?_
      refine lv_if_le (tgt := 224) hx hb dX11_reason_216 (by decide) (fun _ => ?_) (fun c_ => absurd c_ (by decide))
      refine lv_iconst (v := 0) hx hb dX11_reason_224 (by decide) ?_
      have hP9 : va_P G vwCl [(h0, .inr (8, [.int 1, .int 0, .int (-1), .int 0, .int 0, .int (-1), .int 0, .int 0, .int 0, .int 0, .int 0, .ref h1, .ref h2, .ref h3, .ref h4, .ref h5, .ref h6, .ref h7, .ref h8, .ref h9, .ref h10, .ref h11, .ref h12, .ref h13, .ref h14, .ref h15, .ref h16, .ref h17, .ref h18, .ref h19, .int 0, .ref h20, .ref h21, .ref h22, .ref h23, .int 0, .int 0, .ref h24, .ref h25, .int (-1), .ref h26, .ref h27]))] _ := hP
      have hD9 : va_D A [(h0, .inr (8, [.int 1, .int 0, .int (-1), .int 0, .int 0, .int (-1), .int 0, .int 0, .int 0, .int 0, .int 0, .ref h1, .ref h2, .ref h3, .ref h4, .ref h5, .ref h6, .ref h7, .ref h8, .ref h9, .ref h10, .ref h11, .ref h12, .ref h13, .ref h14, .ref h15, .ref h16, .ref h17, .ref h18, .ref h19, .int 0, .ref h20, .ref h21, .ref h22, .ref h23, .int 0, .int 0, .ref h24, .ref h25, .int (-1), .ref h26, .ref h27]))] := hD
      exact W.iret (v := 0) hx hb hr (fun t ht hW => ⟨⟨0, _, rfl, Or.inr (⟨(by first | omega | decide | simp), rfl, rfl⟩), by rw [ht]; exact hP9, hD9⟩, hS.F ht⟩) hS.2.2 dX11_reason_225
def e_X11_does_2 : List Cond := [.fieldLink RX11 15 "MotionFloorModel$Hall" "majority" "[I"]
def v_X11_does_2 : List Cond := .code yX11_does cX11_does 7 (some .int) :: (e_X11_does_2 ++ (wsX110 ++ []))
theorem te_X11_does_2 : GoodIn lw_tbl e_X11_does_2 := wGc z533 (wG0)
theorem t_X11_does_2 : GoodIn lw_tbl v_X11_does_2 := wGc z583 (wGa te_X11_does_2 (wGa zcX11 (wG0)))
set_option maxHeartbeats 4000000 in
set_option maxRecDepth 100000 in
theorem m_X11_does_2 (l : Launch) (G : va_G) (K : Nat → ClassId) (h0 h1 h2 h3 h4 h5 h6 h7 h8 h9 h10 h11 h12 h13 h14 h15 h16 h17 h18 h19 h20 h21 h22 h23 h24 h25 h26 h27 : Nat) (p0 p1 : Int32) (sz : Nat) (bp0 : 1 ≤ p0.toInt ∧ p0.toInt ≤ 8) (bp1 : 1 ≤ p1.toInt ∧ p1.toInt ≤ 3) : Met l yX11_does v_X11_does_2 ({ frames := 0, cells := 0, slots := 0, locals := 0 }) (va_Pc [.ref h0, .int 5, .int p0, .int p1, .int 0, .int 0] (wS G K sz [(h0, .inr (8, [.int 1, .int 0, .int (-1), .int 0, .int 0, .int (-1), .int 0, .int 0, .int 0, .int 0, .int 0, .ref h2, .ref h1, .ref h3, .ref h4, .ref h5, .ref h6, .ref h7, .ref h8, .ref h9, .ref h10, .ref h11, .ref h12, .ref h13, .ref h14, .ref h15, .ref h16, .ref h17, .ref h18, .ref h19, .int 0, .ref h20, .ref h21, .ref h22, .ref h23, .int 0, .int 0, .ref h24, .ref h25, .int (-1), .ref h26, .ref h27])), (h1, .inl (K 0, 9, .inl (upd (fun _ => 1) 6 2)))])) (va_Qi (fun (r : Int32) (u : va_W) => (∃ u0 : Nat → Int32, r = ((upd (fun _ => 1) 6 2) p0.toNatClampNeg) ∧ u = [(h0, .inr (8, [.int 1, .int 0, .int (-1), .int 0, .int 0, .int (-1), .int 0, .int 0, .int 0, .int 0, .int 0, .ref h2, .ref h1, .ref h3, .ref h4, .ref h5, .ref h6, .ref h7, .ref h8, .ref h9, .ref h10, .ref h11, .ref h12, .ref h13, .ref h14, .ref h15, .ref h16, .ref h17, .ref h18, .ref h19, .int 0, .ref h20, .ref h21, .ref h22, .ref h23, .int 0, .int 0, .ref h24, .ref h25, .int (-1), .ref h26, .ref h27])), (h1, .inl (K 0, 9, .inl u0))])) (wB G (va_A [(h0, .inr (8, [.int 1, .int 0, .int (-1), .int 0, .int 0, .int (-1), .int 0, .int 0, .int 0, .int 0, .int 0, .ref h2, .ref h1, .ref h3, .ref h4, .ref h5, .ref h6, .ref h7, .ref h8, .ref h9, .ref h10, .ref h11, .ref h12, .ref h13, .ref h14, .ref h15, .ref h16, .ref h17, .ref h18, .ref h19, .int 0, .ref h20, .ref h21, .ref h22, .ref h23, .int 0, .int 0, .ref h24, .ref h25, .int (-1), .ref h26, .ref h27])), (h1, .inl (K 0, 9, .inl (upd (fun _ => 1) 6 2)))] sz)) (va_A [(h0, .inr (8, [.int 1, .int 0, .int (-1), .int 0, .int 0, .int (-1), .int 0, .int 0, .int 0, .int 0, .int 0, .ref h2, .ref h1, .ref h3, .ref h4, .ref h5, .ref h6, .ref h7, .ref h8, .ref h9, .ref h10, .ref h11, .ref h12, .ref h13, .ref h14, .ref h15, .ref h16, .ref h17, .ref h18, .ref h19, .int 0, .ref h20, .ref h21, .ref h22, .ref h23, .int 0, .int 0, .ref h24, .ref h25, .int (-1), .ref h26, .ref h27])), (h1, .inl (K 0, 9, .inl (upd (fun _ => 1) 6 2)))] sz)) 0 0 (va_A [(h0, .inr (8, [.int 1, .int 0, .int (-1), .int 0, .int 0, .int (-1), .int 0, .int 0, .int 0, .int 0, .int 0, .ref h2, .ref h1, .ref h3, .ref h4, .ref h5, .ref h6, .ref h7, .ref h8, .ref h9, .ref h10, .ref h11, .ref h12, .ref h13, .ref h14, .ref h15, .ref h16, .ref h17, .ref h18, .ref h19, .int 0, .ref h20, .ref h21, .ref h22, .ref h23, .int 0, .int 0, .ref h24, .ref h25, .int (-1), .ref h26, .ref h27])), (h1, .inl (K 0, 9, .inl (upd (fun _ => 1) 6 2)))] sz) := by
  refine Met.ofW (cc := cX11_does) (maxL := 7) (ret := (some .int)) (by decide) rfl ?_
  intro p e s m args below meth c s₁ B hml hv
  obtain ⟨rfl, hsz, hP, hK, hD0, hE⟩ := hv
  have hx := B.exec
  have hb := B.bytes
  have hr := B.returns
  have hts := atoms_spec (ws := v_X11_does_2) B.pre
  have t_ := t_X11_does_2
  have mw : ∀ w ∈ e_X11_does_2, w ∈ v_X11_does_2 := fun w h => List.mem_cons_of_mem _ (List.mem_append_left _ h)
  have hw := fun w (h : w ∈ e_X11_does_2) => hts w (mw w h)
  have iX11 : ∀ w ∈ wsX110, w ∈ v_X11_does_2 := fun w h => List.mem_cons_of_mem _ (List.mem_append_right _ (List.mem_append_left _ h))
  have hown : s.vm.findClass RX11 = some m.cls := findClass_of_methodNamed B.named
  have hlocks := B.notSynchronized
  subst hsz
  have hD := hD0.self (sz := s.heap.size)
  generalize hAe : va_A [(h0, .inr (8, [.int 1, .int 0, .int (-1), .int 0, .int 0, .int (-1), .int 0, .int 0, .int 0, .int 0, .int 0, .ref h2, .ref h1, .ref h3, .ref h4, .ref h5, .ref h6, .ref h7, .ref h8, .ref h9, .ref h10, .ref h11, .ref h12, .ref h13, .ref h14, .ref h15, .ref h16, .ref h17, .ref h18, .ref h19, .int 0, .ref h20, .ref h21, .ref h22, .ref h23, .int 0, .int 0, .ref h24, .ref h25, .int (-1), .ref h26, .ref h27])), (h1, .inl (K 0, 9, .inl (upd (fun _ => 1) 6 2)))] s.heap.size = A at hD ⊢
  have hA : ∀ q : Nat, s.heap.size ≤ q → A q := fun q h => by rw [← hAe]; exact Or.inr h
  have hS : va_S A s.heap s.heap [] := va_S.rf
  have hP : va_P G vwCl [(h0, .inr (8, [.int 1, .int 0, .int (-1), .int 0, .int 0, .int (-1), .int 0, .int 0, .int 0, .int 0, .int 0, .ref h2, .ref h1, .ref h3, .ref h4, .ref h5, .ref h6, .ref h7, .ref h8, .ref h9, .ref h10, .ref h11, .ref h12, .ref h13, .ref h14, .ref h15, .ref h16, .ref h17, .ref h18, .ref h19, .int 0, .ref h20, .ref h21, .ref h22, .ref h23, .int 0, .int 0, .ref h24, .ref h25, .int (-1), .ref h26, .ref h27])), (h1, .inl (K 0, 9, .inl (upd (fun _ => 1) 6 2)))] s.heap := hP
  have hl := lv_entry ([.ref h0, .int 5, .int p0, .int p1, .int 0, .int 0]) (n := 7) (Nat.le_of_ble_eq_true rfl)
  rw [lg_entry_eq]
  generalize (lg_sl ([.ref h0, .int 5, .int p0, .int p1, .int 0, .int 0]) ++ List.replicate (7 - (lg_sl ([.ref h0, .int 5, .int p0, .int p1, .int 0, .int 0])).length) Slot.unset).toArray = ls at hl ⊢
  have hl : lv_has ls 7 [(0, .ref h0), (1, .int 5), (2, .int p0), (3, .int p1), (4, .int 0), (5, .int 0)] := hl
  refine lv_iload_n hx hb dX11_does_0 rfl (lv_at hl 1 rfl) ?_
  refine lv_tableIn (tgt := 184) hx hb dX11_does_1 (by decide) (by decide) (by decide) (by decide) ?_
  refine lv_aload_n hx hb dX11_does_184 rfl (lv_at hl 0 rfl) ?_
  refine va_get (D := G) (ci := 8) (v := .ref h1) (C := RX11) (T := TX11) (N := 42) hx hb hts iX11 hown hK hP 0 rfl rfl 12 (by decide) (hw (.fieldLink RX11 15 "MotionFloorModel$Hall" "majority" "[I") (List.mem_of_getElem? (i := 0) rfl)) (fun _ h9 => h9) rfl dX11_does_185 ?_
  refine lv_iload_n hx hb dX11_does_188 rfl (lv_at hl 2 rfl) ?_
  refine va_iald hx hb hK hP 1 0 rfl rfl (vp_in_iff.mpr (by omega)) dX11_does_189 ?_
  refine lv_istore (lv' := [(6, .int ((upd (fun _ => 1) 6 2) p0.toNatClampNeg)), (0, .ref h0), (1, .int 5), (2, .int p0), (3, .int p1), (4, .int 0), (5, .int 0)]) hx hb dX11_does_190 hl (by decide) rfl (fun ls hl => ?_)
  refine lv_aload_n hx hb dX11_does_192 rfl (lv_at hl 1 rfl) ?_
  refine va_get (D := G) (ci := 8) (v := .ref h1) (C := RX11) (T := TX11) (N := 42) hx hb hts iX11 hown hK hP 0 rfl rfl 12 (by decide) (hw (.fieldLink RX11 15 "MotionFloorModel$Hall" "majority" "[I") (List.mem_of_getElem? (i := 0) rfl)) (fun _ h9 => h9) rfl dX11_does_193 ?_
  refine lv_iload_n hx hb dX11_does_196 rfl (lv_at hl 3 rfl) ?_
  refine lv_iload_n hx hb dX11_does_197 rfl (lv_at hl 4 rfl) ?_
  refine va_iast hx hb hK hP hD hS 1 0 rfl rfl (vp_in_iff.mpr (by omega)) dX11_does_198 (fun H locs hP hD hS => ?_)
  generalize upd (upd (fun _ => 1) 6 2) p0.toNatClampNeg p1 = f1 at hP hD
  have hP : va_P G vwCl [(h0, .inr (8, [.int 1, .int 0, .int (-1), .int 0, .int 0, .int (-1), .int 0, .int 0, .int 0, .int 0, .int 0, .ref h2, .ref h1, .ref h3, .ref h4, .ref h5, .ref h6, .ref h7, .ref h8, .ref h9, .ref h10, .ref h11, .ref h12, .ref h13, .ref h14, .ref h15, .ref h16, .ref h17, .ref h18, .ref h19, .int 0, .ref h20, .ref h21, .ref h22, .ref h23, .int 0, .int 0, .ref h24, .ref h25, .int (-1), .ref h26, .ref h27])), (h1, .inl (K 0, 9, .inl f1))] _ := hP
  have hD : va_D A [(h0, .inr (8, [.int 1, .int 0, .int (-1), .int 0, .int 0, .int (-1), .int 0, .int 0, .int 0, .int 0, .int 0, .ref h2, .ref h1, .ref h3, .ref h4, .ref h5, .ref h6, .ref h7, .ref h8, .ref h9, .ref h10, .ref h11, .ref h12, .ref h13, .ref h14, .ref h15, .ref h16, .ref h17, .ref h18, .ref h19, .int 0, .ref h20, .ref h21, .ref h22, .ref h23, .int 0, .int 0, .ref h24, .ref h25, .int (-1), .ref h26, .ref h27])), (h1, .inl (K 0, 9, .inl f1))] := hD
  refine lv_iload hx hb dX11_does_199 (lv_at hl 0 rfl) ?_
  have hP9 : va_P G vwCl [(h0, .inr (8, [.int 1, .int 0, .int (-1), .int 0, .int 0, .int (-1), .int 0, .int 0, .int 0, .int 0, .int 0, .ref h2, .ref h1, .ref h3, .ref h4, .ref h5, .ref h6, .ref h7, .ref h8, .ref h9, .ref h10, .ref h11, .ref h12, .ref h13, .ref h14, .ref h15, .ref h16, .ref h17, .ref h18, .ref h19, .int 0, .ref h20, .ref h21, .ref h22, .ref h23, .int 0, .int 0, .ref h24, .ref h25, .int (-1), .ref h26, .ref h27])), (h1, .inl (K 0, 9, .inl f1))] _ := hP
  have hD9 : va_D A [(h0, .inr (8, [.int 1, .int 0, .int (-1), .int 0, .int 0, .int (-1), .int 0, .int 0, .int 0, .int 0, .int 0, .ref h2, .ref h1, .ref h3, .ref h4, .ref h5, .ref h6, .ref h7, .ref h8, .ref h9, .ref h10, .ref h11, .ref h12, .ref h13, .ref h14, .ref h15, .ref h16, .ref h17, .ref h18, .ref h19, .int 0, .ref h20, .ref h21, .ref h22, .ref h23, .int 0, .int 0, .ref h24, .ref h25, .int (-1), .ref h26, .ref h27])), (h1, .inl (K 0, 9, .inl f1))] := hD
  exact W.iret (v := ((upd (fun _ => 1) 6 2) p0.toNatClampNeg)) hx hb hr (fun t ht hW => ⟨⟨((upd (fun _ => 1) 6 2) p0.toNatClampNeg), _, rfl, ⟨f1, rfl, rfl⟩, by rw [ht]; exact hP9, hD9⟩, hS.F ht⟩) hS.2.2 dX11_does_201
def e_X12_numbers_2 : List Cond := []
def v_X12_numbers_2 : List Cond := .code yX12_numbers cX12_numbers 1 (some .int) :: (e_X12_numbers_2 ++ [])
theorem te_X12_numbers_2 : GoodIn lw_tbl e_X12_numbers_2 := wG0
theorem t_X12_numbers_2 : GoodIn lw_tbl v_X12_numbers_2 := wGc z584 (wGa te_X12_numbers_2 (wG0))
set_option maxHeartbeats 4000000 in
set_option maxRecDepth 100000 in
theorem m_X12_numbers_2 (l : Launch) (G : va_G) (K : Nat → ClassId) (sz : Nat) : Met l yX12_numbers v_X12_numbers_2 ({ frames := 0, cells := 0, slots := 0, locals := 0 }) (va_Pc [.int 5] (wS G K sz [])) (va_Qi (fun (r : Int32) (u : va_W) => (r = 2 ∧ u = [])) (wB G (va_A [] sz)) (va_A [] sz)) 0 0 (va_A [] sz) := by
  refine Met.ofW (cc := cX12_numbers) (maxL := 1) (ret := (some .int)) (by decide) rfl ?_
  intro p e s m args below meth c s₁ B hml hv
  obtain ⟨rfl, hsz, hP, hK, hD0, hE⟩ := hv
  have hx := B.exec
  have hb := B.bytes
  have hr := B.returns
  have hts := atoms_spec (ws := v_X12_numbers_2) B.pre
  have t_ := t_X12_numbers_2
  have mw : ∀ w ∈ e_X12_numbers_2, w ∈ v_X12_numbers_2 := fun w h => List.mem_cons_of_mem _ (List.mem_append_left _ h)
  have hw := fun w (h : w ∈ e_X12_numbers_2) => hts w (mw w h)
  have hown : s.vm.findClass RX12 = some m.cls := findClass_of_methodNamed B.named
  have hlocks := B.notSynchronized
  subst hsz
  have hD := hD0.self (sz := s.heap.size)
  generalize hAe : va_A [] s.heap.size = A at hD ⊢
  have hA : ∀ q : Nat, s.heap.size ≤ q → A q := fun q h => by rw [← hAe]; exact Or.inr h
  have hS : va_S A s.heap s.heap [] := va_S.rf
  have hP : va_P G vwCl [] s.heap := hP
  have hl := lv_entry ([.int 5]) (n := 1) (Nat.le_of_ble_eq_true rfl)
  rw [lg_entry_eq]
  generalize (lg_sl ([.int 5]) ++ List.replicate (1 - (lg_sl ([.int 5])).length) Slot.unset).toArray = ls at hl ⊢
  have hl : lv_has ls 1 [(0, .int 5)] := hl
  refine lv_iload_n hx hb dX12_numbers_0 rfl (lv_at hl 0 rfl) ?_
  refine lv_tableIn (tgt := 90) hx hb dX12_numbers_1 (by decide) (by decide) (by decide) (by decide) ?_
  refine lv_iconst (v := 2) hx hb dX12_numbers_90 (by decide) ?_
  have hP9 : va_P G vwCl [] _ := hP
  have hD9 : va_D A [] := hD
  exact W.iret (v := 2) hx hb hr (fun t ht hW => ⟨⟨2, _, rfl, ⟨rfl, rfl⟩, by rw [ht]; exact hP9, hD9⟩, hS.F ht⟩) hS.2.2 dX12_numbers_91
def e_X11_act_4 : List Cond := [.methodLink RX11 196 yX11_reason, .instanceMethod yX11_reason, .selects RX11 yX11_reason yX11_reason, .initialized RX11, .fieldLink RX11 127 "MotionFloorModel$Hall" "why" "I", .fieldLink RX11 118 "MotionFloorModel$Hall" "entries" "I", .methodLink RX11 200 yX11_does, .instanceMethod yX11_does, .selects RX11 yX11_does yX11_does, .initialized RX12, .static yX12_numbers, .fieldLink RX11 90 "MotionFloorModel$Hall" "minutes" "[I"]
def v_X11_act_4 : List Cond := .code yX11_act cX11_act 10 (some .int) :: (e_X11_act_4 ++ (wsX110 ++ (v_X11_reason_4 ++ (v_X11_does_2 ++ (v_X12_numbers_2 ++ [])))))
theorem te_X11_act_4 : GoodIn lw_tbl e_X11_act_4 := wGc z591 (wGc z590 (wGc z589 (wGc z568 (wGc z539 (wGc z542 (wGc z588 (wGc z587 (wGc z586 (wGc z574 (wGc z585 (wGc z508 (wG0))))))))))))
theorem t_X11_act_4 : GoodIn lw_tbl v_X11_act_4 := wGc z592 (wGa te_X11_act_4 (wGa zcX11 (wGa t_X11_reason_4 (wGa t_X11_does_2 (wGa t_X12_numbers_2 (wG0))))))
set_option maxHeartbeats 4000000 in
set_option maxRecDepth 100000 in
theorem m_X11_act_4 (l : Launch) (G : va_G) (K : Nat → ClassId) (h0 h1 h2 h3 h4 h5 h6 h7 h8 h9 h10 h11 h12 h13 h14 h15 h16 h17 h18 h19 h20 h21 h22 h23 h24 h25 h26 h27 : Nat) (p0 p1 : Int32) (sz : Nat) : Met l yX11_act v_X11_act_4 ({ frames := 2, cells := 0, slots := 0, locals := 47 }) (va_Pc [.ref h0, .int 5, .int p0, .int p1, .int 0, .int 0] (wS G K sz [(h0, .inr (8, [.int 1, .int 0, .int (-1), .int 0, .int 0, .int (-1), .int 0, .int 0, .int 0, .int 0, .int 0, .ref h3, .ref h1, .ref h4, .ref h5, .ref h6, .ref h7, .ref h8, .ref h9, .ref h10, .ref h11, .ref h12, .ref h13, .ref h14, .ref h15, .ref h16, .ref h17, .ref h18, .ref h19, .ref h20, .int 0, .ref h21, .ref h22, .ref h23, .ref h24, .int 0, .int 0, .ref h25, .ref h26, .int (-1), .ref h2, .ref h27])), (h1, .inl (K 0, 9, .inl (upd (fun _ => 1) 6 2))), (h2, .inl (K 0, 3600, .inl (fun _ => 0)))])) (va_Qi (fun (r : Int32) (u : va_W) => ((((p0.toInt < 1 ∨ (p0.toInt ≥ 1 ∧ p0.toInt > 8)) ∨ (((p0.toInt ≥ 1 ∧ p0.toInt ≤ 8)) ∧ (p1.toInt < 1 ∨ (p1.toInt ≥ 1 ∧ p1.toInt > 3))))) ∧ r = (-9) ∧ u = [(h0, .inr (8, [.int 1, .int 0, .int (-1), .int 0, .int 0, .int (-1), .int 0, .int 0, .int 0, .int 0, .int 9, .ref h3, .ref h1, .ref h4, .ref h5, .ref h6, .ref h7, .ref h8, .ref h9, .ref h10, .ref h11, .ref h12, .ref h13, .ref h14, .ref h15, .ref h16, .ref h17, .ref h18, .ref h19, .ref h20, .int 0, .ref h21, .ref h22, .ref h23, .ref h24, .int 0, .int 0, .ref h25, .ref h26, .int (-1), .ref h2, .ref h27])), (h1, .inl (K 0, 9, .inl (upd (fun _ => 1) 6 2))), (h2, .inl (K 0, 3600, .inl (fun _ => 0)))]) ∨ (∃ u0 : Nat → Int32, (((((p0.toInt ≥ 1 ∧ p0.toInt ≤ 8)) ∧ ((p1.toInt ≥ 1 ∧ p1.toInt ≤ 3))))) ∧ r = ((upd (fun _ => 1) 6 2) p0.toNatClampNeg) ∧ u = [(h0, .inr (8, [.int 1, .int 0, .int (-1), .int 0, .int 0, .int (-1), .int 0, .int 1, .int 0, .int 0, .int 0, .ref h3, .ref h1, .ref h4, .ref h5, .ref h6, .ref h7, .ref h8, .ref h9, .ref h10, .ref h11, .ref h12, .ref h13, .ref h14, .ref h15, .ref h16, .ref h17, .ref h18, .ref h19, .ref h20, .int 0, .ref h21, .ref h22, .ref h23, .ref h24, .int 0, .int 0, .ref h25, .ref h26, .int (-1), .ref h2, .ref h27])), (h1, .inl (K 0, 9, .inl u0)), (h2, .inl (K 0, 3600, .inl (upd (upd (upd (upd (upd (upd (fun _ => 0) 0 5) 1 p0) 2 p1) 3 0) 4 0) 5 ((upd (fun _ => 1) 6 2) p0.toNatClampNeg))))])) (wB G (va_A [(h0, .inr (8, [.int 1, .int 0, .int (-1), .int 0, .int 0, .int (-1), .int 0, .int 0, .int 0, .int 0, .int 0, .ref h3, .ref h1, .ref h4, .ref h5, .ref h6, .ref h7, .ref h8, .ref h9, .ref h10, .ref h11, .ref h12, .ref h13, .ref h14, .ref h15, .ref h16, .ref h17, .ref h18, .ref h19, .ref h20, .int 0, .ref h21, .ref h22, .ref h23, .ref h24, .int 0, .int 0, .ref h25, .ref h26, .int (-1), .ref h2, .ref h27])), (h1, .inl (K 0, 9, .inl (upd (fun _ => 1) 6 2))), (h2, .inl (K 0, 3600, .inl (fun _ => 0)))] sz)) (va_A [(h0, .inr (8, [.int 1, .int 0, .int (-1), .int 0, .int 0, .int (-1), .int 0, .int 0, .int 0, .int 0, .int 0, .ref h3, .ref h1, .ref h4, .ref h5, .ref h6, .ref h7, .ref h8, .ref h9, .ref h10, .ref h11, .ref h12, .ref h13, .ref h14, .ref h15, .ref h16, .ref h17, .ref h18, .ref h19, .ref h20, .int 0, .ref h21, .ref h22, .ref h23, .ref h24, .int 0, .int 0, .ref h25, .ref h26, .int (-1), .ref h2, .ref h27])), (h1, .inl (K 0, 9, .inl (upd (fun _ => 1) 6 2))), (h2, .inl (K 0, 3600, .inl (fun _ => 0)))] sz)) 0 0 (va_A [(h0, .inr (8, [.int 1, .int 0, .int (-1), .int 0, .int 0, .int (-1), .int 0, .int 0, .int 0, .int 0, .int 0, .ref h3, .ref h1, .ref h4, .ref h5, .ref h6, .ref h7, .ref h8, .ref h9, .ref h10, .ref h11, .ref h12, .ref h13, .ref h14, .ref h15, .ref h16, .ref h17, .ref h18, .ref h19, .ref h20, .int 0, .ref h21, .ref h22, .ref h23, .ref h24, .int 0, .int 0, .ref h25, .ref h26, .int (-1), .ref h2, .ref h27])), (h1, .inl (K 0, 9, .inl (upd (fun _ => 1) 6 2))), (h2, .inl (K 0, 3600, .inl (fun _ => 0)))] sz) := by
  refine Met.ofW (cc := cX11_act) (maxL := 10) (ret := (some .int)) (by decide) rfl ?_
  intro p e s m args below meth c s₁ B hml hv
  obtain ⟨rfl, hsz, hP, hK, hD0, hE⟩ := hv
  have hx := B.exec
  have hb := B.bytes
  have hr := B.returns
  have hts := atoms_spec (ws := v_X11_act_4) B.pre
  have t_ := t_X11_act_4
  have mw : ∀ w ∈ e_X11_act_4, w ∈ v_X11_act_4 := fun w h => List.mem_cons_of_mem _ (List.mem_append_left _ h)
  have hw := fun w (h : w ∈ e_X11_act_4) => hts w (mw w h)
  have iX11 : ∀ w ∈ wsX110, w ∈ v_X11_act_4 := fun w h => List.mem_cons_of_mem _ (List.mem_append_right _ (List.mem_append_left _ h))
  have j_X11_reason_4 : ∀ w ∈ v_X11_reason_4, w ∈ v_X11_act_4 := fun w h => List.mem_cons_of_mem _ (List.mem_append_right _ (List.mem_append_right _ (List.mem_append_left _ h)))
  have j_X11_does_2 : ∀ w ∈ v_X11_does_2, w ∈ v_X11_act_4 := fun w h => List.mem_cons_of_mem _ (List.mem_append_right _ (List.mem_append_right _ (List.mem_append_right _ (List.mem_append_left _ h))))
  have j_X12_numbers_2 : ∀ w ∈ v_X12_numbers_2, w ∈ v_X11_act_4 := fun w h => List.mem_cons_of_mem _ (List.mem_append_right _ (List.mem_append_right _ (List.mem_append_right _ (List.mem_append_right _ (List.mem_append_left _ h)))))
  have hown : s.vm.findClass RX11 = some m.cls := findClass_of_methodNamed B.named
  have hlocks := B.notSynchronized
  subst hsz
  have hD := hD0.self (sz := s.heap.size)
  generalize hAe : va_A [(h0, .inr (8, [.int 1, .int 0, .int (-1), .int 0, .int 0, .int (-1), .int 0, .int 0, .int 0, .int 0, .int 0, .ref h3, .ref h1, .ref h4, .ref h5, .ref h6, .ref h7, .ref h8, .ref h9, .ref h10, .ref h11, .ref h12, .ref h13, .ref h14, .ref h15, .ref h16, .ref h17, .ref h18, .ref h19, .ref h20, .int 0, .ref h21, .ref h22, .ref h23, .ref h24, .int 0, .int 0, .ref h25, .ref h26, .int (-1), .ref h2, .ref h27])), (h1, .inl (K 0, 9, .inl (upd (fun _ => 1) 6 2))), (h2, .inl (K 0, 3600, .inl (fun _ => 0)))] s.heap.size = A at hD ⊢
  have hA : ∀ q : Nat, s.heap.size ≤ q → A q := fun q h => by rw [← hAe]; exact Or.inr h
  have hS : va_S A s.heap s.heap [] := va_S.rf
  have hP : va_P G vwCl [(h0, .inr (8, [.int 1, .int 0, .int (-1), .int 0, .int 0, .int (-1), .int 0, .int 0, .int 0, .int 0, .int 0, .ref h3, .ref h1, .ref h4, .ref h5, .ref h6, .ref h7, .ref h8, .ref h9, .ref h10, .ref h11, .ref h12, .ref h13, .ref h14, .ref h15, .ref h16, .ref h17, .ref h18, .ref h19, .ref h20, .int 0, .ref h21, .ref h22, .ref h23, .ref h24, .int 0, .int 0, .ref h25, .ref h26, .int (-1), .ref h2, .ref h27])), (h1, .inl (K 0, 9, .inl (upd (fun _ => 1) 6 2))), (h2, .inl (K 0, 3600, .inl (fun _ => 0)))] s.heap := hP
  have hl := lv_entry ([.ref h0, .int 5, .int p0, .int p1, .int 0, .int 0]) (n := 10) (Nat.le_of_ble_eq_true rfl)
  rw [lg_entry_eq]
  generalize (lg_sl ([.ref h0, .int 5, .int p0, .int p1, .int 0, .int 0]) ++ List.replicate (10 - (lg_sl ([.ref h0, .int 5, .int p0, .int p1, .int 0, .int 0])).length) Slot.unset).toArray = ls at hl ⊢
  have hl : lv_has ls 10 [(0, .ref h0), (1, .int 5), (2, .int p0), (3, .int p1), (4, .int 0), (5, .int 0)] := hl
  refine lv_aload_n hx hb dX11_act_0 rfl (lv_at hl 0 rfl) ?_
  refine lv_iload_n hx hb dX11_act_1 rfl (lv_at hl 1 rfl) ?_
  refine lv_iload_n hx hb dX11_act_2 rfl (lv_at hl 2 rfl) ?_
  refine lv_iload_n hx hb dX11_act_3 rfl (lv_at hl 3 rfl) ?_
  refine lv_iload hx hb dX11_act_4 (lv_at hl 4 rfl) ?_
  refine lv_iload hx hb dX11_act_6 (lv_at hl 5 rfl) ?_
  have hPc := hP.sub (ws' := [(h0, .inr (8, [.int 1, .int 0, .int (-1), .int 0, .int 0, .int (-1), .int 0, .int 0, .int 0, .int 0, .int 0, .ref h3, .ref h1, .ref h4, .ref h5, .ref h6, .ref h7, .ref h8, .ref h9, .ref h10, .ref h11, .ref h12, .ref h13, .ref h14, .ref h15, .ref h16, .ref h17, .ref h18, .ref h19, .ref h20, .int 0, .ref h21, .ref h22, .ref h23, .ref h24, .int 0, .int 0, .ref h25, .ref h26, .int (-1), .ref h2, .ref h27]))]) [0] rfl
  have hDc := hD.sub (ws' := [(h0, .inr (8, [.int 1, .int 0, .int (-1), .int 0, .int 0, .int (-1), .int 0, .int 0, .int 0, .int 0, .int 0, .ref h3, .ref h1, .ref h4, .ref h5, .ref h6, .ref h7, .ref h8, .ref h9, .ref h10, .ref h11, .ref h12, .ref h13, .ref h14, .ref h15, .ref h16, .ref h17, .ref h18, .ref h19, .ref h20, .int 0, .ref h21, .ref h22, .ref h23, .ref h24, .int 0, .int 0, .ref h25, .ref h26, .int (-1), .ref h2, .ref h27]))]) [0] (by decide) rfl
  refine wGoi (wc := [(h0, .inr (8, [.int 1, .int 0, .int (-1), .int 0, .int 0, .int (-1), .int 0, .int 0, .int 0, .int 0, .int 0, .ref h3, .ref h1, .ref h4, .ref h5, .ref h6, .ref h7, .ref h8, .ref h9, .ref h10, .ref h11, .ref h12, .ref h13, .ref h14, .ref h15, .ref h16, .ref h17, .ref h18, .ref h19, .ref h20, .int 0, .ref h21, .ref h22, .ref h23, .ref h24, .int 0, .int 0, .ref h25, .ref h26, .int (-1), .ref h2, .ref h27]))]) (wr := [(h1, .inl (K 0, 9, .inl (upd (fun _ => 1) 6 2))), (h2, .inl (K 0, 3600, .inl (fun _ => 0)))]) (va_runV (As := [.int 5, .int p0, .int p1, .int 0, .int 0]) (rest := []) ⟨hx, hb, hml, hown, hts⟩ (m_X11_reason_4 l G K h0 h3 h1 h4 h5 h6 h7 h8 h9 h10 h11 h12 h13 h14 h15 h16 h17 h18 h19 h20 h21 h22 h23 h24 h25 h26 h2 h27 p0 p1 _) (cwV 5 hts (wGV t_ (mw (.methodLink RX11 196 yX11_reason) (List.mem_of_getElem? (i := 0) rfl)) (mw (.instanceMethod yX11_reason) (List.mem_of_getElem? (i := 1) rfl)) (mw (.selects RX11 yX11_reason yX11_reason) (List.mem_of_getElem? (i := 2) rfl)) (mw (.initialized RX11) (List.mem_of_getElem? (i := 3) rfl)) j_X11_reason_4) rfl rfl rfl (by decide +kernel) ⟨Nat.le_of_ble_eq_true rfl, Nat.le_of_ble_eq_true rfl⟩) (wPV hK hE hPc hDc 8 0 rfl rfl) rfl rfl hl.1 rfl (lv_room (Nat.le_of_ble_eq_true rfl)) dX11_act_8 ⟨Nat.le_of_ble_eq_true rfl, Nat.le_of_ble_eq_true rfl⟩) hP hD hS hA [0] [1, 2] rfl rfl rfl (by decide) (fun r u H locs hw hP hD hS => ?_)
  rcases hw with ⟨c_w, rfl, rfl⟩ | ⟨c_w, rfl, rfl⟩
  · have c1 := c_w
    have hP : va_P G vwCl [(h1, .inl (K 0, 9, .inl (upd (fun _ => 1) 6 2))), (h2, .inl (K 0, 3600, .inl (fun _ => 0))), (h0, .inr (8, [.int 1, .int 0, .int (-1), .int 0, .int 0, .int (-1), .int 0, .int 0, .int 0, .int 0, .int 0, .ref h3, .ref h1, .ref h4, .ref h5, .ref h6, .ref h7, .ref h8, .ref h9, .ref h10, .ref h11, .ref h12, .ref h13, .ref h14, .ref h15, .ref h16, .ref h17, .ref h18, .ref h19, .ref h20, .int 0, .ref h21, .ref h22, .ref h23, .ref h24, .int 0, .int 0, .ref h25, .ref h26, .int (-1), .ref h2, .ref h27]))] _ := hP
    have hD : va_D A [(h1, .inl (K 0, 9, .inl (upd (fun _ => 1) 6 2))), (h2, .inl (K 0, 3600, .inl (fun _ => 0))), (h0, .inr (8, [.int 1, .int 0, .int (-1), .int 0, .int 0, .int (-1), .int 0, .int 0, .int 0, .int 0, .int 0, .ref h3, .ref h1, .ref h4, .ref h5, .ref h6, .ref h7, .ref h8, .ref h9, .ref h10, .ref h11, .ref h12, .ref h13, .ref h14, .ref h15, .ref h16, .ref h17, .ref h18, .ref h19, .ref h20, .int 0, .ref h21, .ref h22, .ref h23, .ref h24, .int 0, .int 0, .ref h25, .ref h26, .int (-1), .ref h2, .ref h27]))] := hD
    refine lv_istore (lv' := [(6, .int 9), (0, .ref h0), (1, .int 5), (2, .int p0), (3, .int p1), (4, .int 0), (5, .int 0)]) hx hb dX11_act_11 hl (by decide) rfl (fun ls hl => ?_)
    refine lv_iload hx hb dX11_act_13 (lv_at hl 0 rfl) ?_
    refine lv_if_ne (tgt := 32) hx hb dX11_act_15 (by decide) (fun _ => ?_) (fun c_ => absurd c_ (by decide))
    refine lv_aload_n hx hb dX11_act_32 rfl (lv_at hl 1 rfl) ?_
    refine lv_iload hx hb dX11_act_33 (lv_at hl 0 rfl) ?_
    refine va_put (D := G) (ci := 8) (v := .int 9) (ty := .int) (C := RX11) (T := TX11) (N := 42) hx hb hts iX11 tyX11 tyX11_ok nmX11 hown hK hP hD hS 2 rfl rfl 10 (by decide) (hw (.fieldLink RX11 127 "MotionFloorModel$Hall" "why" "I") (List.mem_of_getElem? (i := 4) rfl)) (fun _ h9 => h9) rfl (by decide +kernel) rfl rfl (Nat.le_of_ble_eq_true rfl) dX11_act_35 (fun H locs hP hD hS => ?_)
    have hP : va_P G vwCl [(h1, .inl (K 0, 9, .inl (upd (fun _ => 1) 6 2))), (h2, .inl (K 0, 3600, .inl (fun _ => 0))), (h0, .inr (8, [.int 1, .int 0, .int (-1), .int 0, .int 0, .int (-1), .int 0, .int 0, .int 0, .int 0, .int 9, .ref h3, .ref h1, .ref h4, .ref h5, .ref h6, .ref h7, .ref h8, .ref h9, .ref h10, .ref h11, .ref h12, .ref h13, .ref h14, .ref h15, .ref h16, .ref h17, .ref h18, .ref h19, .ref h20, .int 0, .ref h21, .ref h22, .ref h23, .ref h24, .int 0, .int 0, .ref h25, .ref h26, .int (-1), .ref h2, .ref h27]))] _ := hP
    have hD : va_D A [(h1, .inl (K 0, 9, .inl (upd (fun _ => 1) 6 2))), (h2, .inl (K 0, 3600, .inl (fun _ => 0))), (h0, .inr (8, [.int 1, .int 0, .int (-1), .int 0, .int 0, .int (-1), .int 0, .int 0, .int 0, .int 0, .int 9, .ref h3, .ref h1, .ref h4, .ref h5, .ref h6, .ref h7, .ref h8, .ref h9, .ref h10, .ref h11, .ref h12, .ref h13, .ref h14, .ref h15, .ref h16, .ref h17, .ref h18, .ref h19, .ref h20, .int 0, .ref h21, .ref h22, .ref h23, .ref h24, .int 0, .int 0, .ref h25, .ref h26, .int (-1), .ref h2, .ref h27]))] := hD
    refine lv_iload hx hb dX11_act_38 (lv_at hl 0 rfl) ?_
    refine lv_if_le (tgt := 47) hx hb dX11_act_40 (by decide) (fun c_ => absurd c_ (by decide)) (fun _ => ?_)
    refine lv_iload hx hb dX11_act_43 (lv_at hl 0 rfl) ?_
    refine lv_ineg hx hb dX11_act_45 ?_
    refine wTop (v1 := .int (-9)) (congrArg Value.int (by decide)) ?_
    have hP9 := hP.sub (ws' := [(h0, .inr (8, [.int 1, .int 0, .int (-1), .int 0, .int 0, .int (-1), .int 0, .int 0, .int 0, .int 0, .int 9, .ref h3, .ref h1, .ref h4, .ref h5, .ref h6, .ref h7, .ref h8, .ref h9, .ref h10, .ref h11, .ref h12, .ref h13, .ref h14, .ref h15, .ref h16, .ref h17, .ref h18, .ref h19, .ref h20, .int 0, .ref h21, .ref h22, .ref h23, .ref h24, .int 0, .int 0, .ref h25, .ref h26, .int (-1), .ref h2, .ref h27])), (h1, .inl (K 0, 9, .inl (upd (fun _ => 1) 6 2))), (h2, .inl (K 0, 3600, .inl (fun _ => 0)))]) [2, 0, 1] rfl
    have hD9 := hD.sub (ws' := [(h0, .inr (8, [.int 1, .int 0, .int (-1), .int 0, .int 0, .int (-1), .int 0, .int 0, .int 0, .int 0, .int 9, .ref h3, .ref h1, .ref h4, .ref h5, .ref h6, .ref h7, .ref h8, .ref h9, .ref h10, .ref h11, .ref h12, .ref h13, .ref h14, .ref h15, .ref h16, .ref h17, .ref h18, .ref h19, .ref h20, .int 0, .ref h21, .ref h22, .ref h23, .ref h24, .int 0, .int 0, .ref h25, .ref h26, .int (-1), .ref h2, .ref h27])), (h1, .inl (K 0, 9, .inl (upd (fun _ => 1) 6 2))), (h2, .inl (K 0, 3600, .inl (fun _ => 0)))]) [2, 0, 1] (by decide) rfl
    exact W.iret (v := (-9)) hx hb hr (fun t ht hW => ⟨⟨(-9), _, rfl, Or.inl ⟨(by first | omega | decide | simp), rfl, rfl⟩, by rw [ht]; exact hP9, hD9⟩, hS.F ht⟩) hS.2.2 dX11_act_46
  · have c2 := c_w
    have hP : va_P G vwCl [(h1, .inl (K 0, 9, .inl (upd (fun _ => 1) 6 2))), (h2, .inl (K 0, 3600, .inl (fun _ => 0))), (h0, .inr (8, [.int 1, .int 0, .int (-1), .int 0, .int 0, .int (-1), .int 0, .int 0, .int 0, .int 0, .int 0, .ref h3, .ref h1, .ref h4, .ref h5, .ref h6, .ref h7, .ref h8, .ref h9, .ref h10, .ref h11, .ref h12, .ref h13, .ref h14, .ref h15, .ref h16, .ref h17, .ref h18, .ref h19, .ref h20, .int 0, .ref h21, .ref h22, .ref h23, .ref h24, .int 0, .int 0, .ref h25, .ref h26, .int (-1), .ref h2, .ref h27]))] _ := hP
    have hD : va_D A [(h1, .inl (K 0, 9, .inl (upd (fun _ => 1) 6 2))), (h2, .inl (K 0, 3600, .inl (fun _ => 0))), (h0, .inr (8, [.int 1, .int 0, .int (-1), .int 0, .int 0, .int (-1), .int 0, .int 0, .int 0, .int 0, .int 0, .ref h3, .ref h1, .ref h4, .ref h5, .ref h6, .ref h7, .ref h8, .ref h9, .ref h10, .ref h11, .ref h12, .ref h13, .ref h14, .ref h15, .ref h16, .ref h17, .ref h18, .ref h19, .ref h20, .int 0, .ref h21, .ref h22, .ref h23, .ref h24, .int 0, .int 0, .ref h25, .ref h26, .int (-1), .ref h2, .ref h27]))] := hD
    refine lv_istore (lv' := [(6, .int 0), (0, .ref h0), (1, .int 5), (2, .int p0), (3, .int p1), (4, .int 0), (5, .int 0)]) hx hb dX11_act_11 hl (by decide) rfl (fun ls hl => ?_)
    refine lv_iload hx hb dX11_act_13 (lv_at hl 0 rfl) ?_
    refine lv_if_ne (tgt := 32) hx hb dX11_act_15 (by decide) (fun c_ => absurd c_ (by decide)) (fun _ => ?_)
    refine lv_aload_n hx hb dX11_act_18 rfl (lv_at hl 1 rfl) ?_
    refine va_get (D := G) (ci := 8) (v := .int 0) (C := RX11) (T := TX11) (N := 42) hx hb hts iX11 hown hK hP 2 rfl rfl 7 (by decide) (hw (.fieldLink RX11 118 "MotionFloorModel$Hall" "entries" "I") (List.mem_of_getElem? (i := 5) rfl)) (fun _ h9 => h9) rfl dX11_act_19 ?_
    refine lv_sipush (v := 600) hx hb dX11_act_22 (by decide) ?_
    refine lv_icmp_ne (tgt := 32) hx hb dX11_act_25 (by decide) (fun _ => ?_) (fun c_ => absurd c_ (by decide))
    refine lv_aload_n hx hb dX11_act_32 rfl (lv_at hl 1 rfl) ?_
    refine lv_iload hx hb dX11_act_33 (lv_at hl 0 rfl) ?_
    refine va_put (D := G) (ci := 8) (v := .int 0) (ty := .int) (C := RX11) (T := TX11) (N := 42) hx hb hts iX11 tyX11 tyX11_ok nmX11 hown hK hP hD hS 2 rfl rfl 10 (by decide) (hw (.fieldLink RX11 127 "MotionFloorModel$Hall" "why" "I") (List.mem_of_getElem? (i := 4) rfl)) (fun _ h9 => h9) rfl (by decide +kernel) rfl rfl (Nat.le_of_ble_eq_true rfl) dX11_act_35 (fun H locs hP hD hS => ?_)
    have hP : va_P G vwCl [(h1, .inl (K 0, 9, .inl (upd (fun _ => 1) 6 2))), (h2, .inl (K 0, 3600, .inl (fun _ => 0))), (h0, .inr (8, [.int 1, .int 0, .int (-1), .int 0, .int 0, .int (-1), .int 0, .int 0, .int 0, .int 0, .int 0, .ref h3, .ref h1, .ref h4, .ref h5, .ref h6, .ref h7, .ref h8, .ref h9, .ref h10, .ref h11, .ref h12, .ref h13, .ref h14, .ref h15, .ref h16, .ref h17, .ref h18, .ref h19, .ref h20, .int 0, .ref h21, .ref h22, .ref h23, .ref h24, .int 0, .int 0, .ref h25, .ref h26, .int (-1), .ref h2, .ref h27]))] _ := hP
    have hD : va_D A [(h1, .inl (K 0, 9, .inl (upd (fun _ => 1) 6 2))), (h2, .inl (K 0, 3600, .inl (fun _ => 0))), (h0, .inr (8, [.int 1, .int 0, .int (-1), .int 0, .int 0, .int (-1), .int 0, .int 0, .int 0, .int 0, .int 0, .ref h3, .ref h1, .ref h4, .ref h5, .ref h6, .ref h7, .ref h8, .ref h9, .ref h10, .ref h11, .ref h12, .ref h13, .ref h14, .ref h15, .ref h16, .ref h17, .ref h18, .ref h19, .ref h20, .int 0, .ref h21, .ref h22, .ref h23, .ref h24, .int 0, .int 0, .ref h25, .ref h26, .int (-1), .ref h2, .ref h27]))] := hD
    refine lv_iload hx hb dX11_act_38 (lv_at hl 0 rfl) ?_
    refine lv_if_le (tgt := 47) hx hb dX11_act_40 (by decide) (fun _ => ?_) (fun c_ => absurd c_ (by decide))
    refine lv_aload_n hx hb dX11_act_47 rfl (lv_at hl 1 rfl) ?_
    refine lv_iload_n hx hb dX11_act_48 rfl (lv_at hl 2 rfl) ?_
    refine lv_iload_n hx hb dX11_act_49 rfl (lv_at hl 3 rfl) ?_
    refine lv_iload_n hx hb dX11_act_50 rfl (lv_at hl 4 rfl) ?_
    refine lv_iload hx hb dX11_act_51 (lv_at hl 5 rfl) ?_
    refine lv_iload hx hb dX11_act_53 (lv_at hl 6 rfl) ?_
    have hPc := hP.sub (ws' := [(h0, .inr (8, [.int 1, .int 0, .int (-1), .int 0, .int 0, .int (-1), .int 0, .int 0, .int 0, .int 0, .int 0, .ref h3, .ref h1, .ref h4, .ref h5, .ref h6, .ref h7, .ref h8, .ref h9, .ref h10, .ref h11, .ref h12, .ref h13, .ref h14, .ref h15, .ref h16, .ref h17, .ref h18, .ref h19, .ref h20, .int 0, .ref h21, .ref h22, .ref h23, .ref h24, .int 0, .int 0, .ref h25, .ref h26, .int (-1), .ref h2, .ref h27])), (h1, .inl (K 0, 9, .inl (upd (fun _ => 1) 6 2)))]) [2, 0] rfl
    have hDc := hD.sub (ws' := [(h0, .inr (8, [.int 1, .int 0, .int (-1), .int 0, .int 0, .int (-1), .int 0, .int 0, .int 0, .int 0, .int 0, .ref h3, .ref h1, .ref h4, .ref h5, .ref h6, .ref h7, .ref h8, .ref h9, .ref h10, .ref h11, .ref h12, .ref h13, .ref h14, .ref h15, .ref h16, .ref h17, .ref h18, .ref h19, .ref h20, .int 0, .ref h21, .ref h22, .ref h23, .ref h24, .int 0, .int 0, .ref h25, .ref h26, .int (-1), .ref h2, .ref h27])), (h1, .inl (K 0, 9, .inl (upd (fun _ => 1) 6 2)))]) [2, 0] (by decide) rfl
    refine wGoi (wc := [(h0, .inr (8, [.int 1, .int 0, .int (-1), .int 0, .int 0, .int (-1), .int 0, .int 0, .int 0, .int 0, .int 0, .ref h3, .ref h1, .ref h4, .ref h5, .ref h6, .ref h7, .ref h8, .ref h9, .ref h10, .ref h11, .ref h12, .ref h13, .ref h14, .ref h15, .ref h16, .ref h17, .ref h18, .ref h19, .ref h20, .int 0, .ref h21, .ref h22, .ref h23, .ref h24, .int 0, .int 0, .ref h25, .ref h26, .int (-1), .ref h2, .ref h27])), (h1, .inl (K 0, 9, .inl (upd (fun _ => 1) 6 2)))]) (wr := [(h2, .inl (K 0, 3600, .inl (fun _ => 0)))]) (va_runV (As := [.int 5, .int p0, .int p1, .int 0, .int 0]) (rest := []) ⟨hx, hb, hml, hown, hts⟩ (m_X11_does_2 l G K h0 h1 h3 h4 h5 h6 h7 h8 h9 h10 h11 h12 h13 h14 h15 h16 h17 h18 h19 h20 h21 h22 h23 h24 h25 h26 h2 h27 p0 p1 _ (by omega) (by omega)) (cwV 5 hts (wGV t_ (mw (.methodLink RX11 200 yX11_does) (List.mem_of_getElem? (i := 6) rfl)) (mw (.instanceMethod yX11_does) (List.mem_of_getElem? (i := 7) rfl)) (mw (.selects RX11 yX11_does yX11_does) (List.mem_of_getElem? (i := 8) rfl)) (mw (.initialized RX11) (List.mem_of_getElem? (i := 3) rfl)) j_X11_does_2) rfl rfl rfl (by decide +kernel) ⟨Nat.le_of_ble_eq_true rfl, Nat.le_of_ble_eq_true rfl⟩) (wPV hK hE hPc hDc 8 0 rfl rfl) rfl rfl hl.1 rfl (lv_room (Nat.le_of_ble_eq_true rfl)) dX11_act_55 ⟨Nat.le_of_ble_eq_true rfl, Nat.le_of_ble_eq_true rfl⟩) hP hD hS hA [2, 0] [1] rfl rfl rfl (by decide) (fun r u H locs hw hP hD hS => ?_)
    rcases hw with ⟨f3, rfl, rfl⟩
    have hP : va_P G vwCl [(h2, .inl (K 0, 3600, .inl (fun _ => 0))), (h0, .inr (8, [.int 1, .int 0, .int (-1), .int 0, .int 0, .int (-1), .int 0, .int 0, .int 0, .int 0, .int 0, .ref h3, .ref h1, .ref h4, .ref h5, .ref h6, .ref h7, .ref h8, .ref h9, .ref h10, .ref h11, .ref h12, .ref h13, .ref h14, .ref h15, .ref h16, .ref h17, .ref h18, .ref h19, .ref h20, .int 0, .ref h21, .ref h22, .ref h23, .ref h24, .int 0, .int 0, .ref h25, .ref h26, .int (-1), .ref h2, .ref h27])), (h1, .inl (K 0, 9, .inl f3))] _ := hP
    have hD : va_D A [(h2, .inl (K 0, 3600, .inl (fun _ => 0))), (h0, .inr (8, [.int 1, .int 0, .int (-1), .int 0, .int 0, .int (-1), .int 0, .int 0, .int 0, .int 0, .int 0, .ref h3, .ref h1, .ref h4, .ref h5, .ref h6, .ref h7, .ref h8, .ref h9, .ref h10, .ref h11, .ref h12, .ref h13, .ref h14, .ref h15, .ref h16, .ref h17, .ref h18, .ref h19, .ref h20, .int 0, .ref h21, .ref h22, .ref h23, .ref h24, .int 0, .int 0, .ref h25, .ref h26, .int (-1), .ref h2, .ref h27])), (h1, .inl (K 0, 9, .inl f3))] := hD
    refine lv_istore (lv' := [(7, .int ((upd (fun _ => 1) 6 2) p0.toNatClampNeg)), (6, .int 0), (0, .ref h0), (1, .int 5), (2, .int p0), (3, .int p1), (4, .int 0), (5, .int 0)]) hx hb dX11_act_58 hl (by decide) rfl (fun ls hl => ?_)
    refine lv_bipush (v := 6) hx hb dX11_act_60 (by decide) ?_
    refine lv_aload_n hx hb dX11_act_62 rfl (lv_at hl 2 rfl) ?_
    refine va_get (D := G) (ci := 8) (v := .int 0) (C := RX11) (T := TX11) (N := 42) hx hb hts iX11 hown hK hP 1 rfl rfl 7 (by decide) (hw (.fieldLink RX11 118 "MotionFloorModel$Hall" "entries" "I") (List.mem_of_getElem? (i := 5) rfl)) (fun _ h9 => h9) rfl dX11_act_63 ?_
    refine lv_imul hx hb dX11_act_66 ?_
    refine wTop (v1 := .int 0) (congrArg Value.int (by decide)) ?_
    refine lv_istore (lv' := [(8, .int 0), (7, .int ((upd (fun _ => 1) 6 2) p0.toNatClampNeg)), (6, .int 0), (0, .ref h0), (1, .int 5), (2, .int p0), (3, .int p1), (4, .int 0), (5, .int 0)]) hx hb dX11_act_67 hl (by decide) rfl (fun ls hl => ?_)
    refine lv_iload_n hx hb dX11_act_69 rfl (lv_at hl 4 rfl) ?_
    have hPc := hP.sub (ws' := []) [] rfl
    have hDc := hD.sub (ws' := []) [] (by decide) rfl
    refine wGoi (wc := []) (wr := [(h2, .inl (K 0, 3600, .inl (fun _ => 0))), (h0, .inr (8, [.int 1, .int 0, .int (-1), .int 0, .int 0, .int (-1), .int 0, .int 0, .int 0, .int 0, .int 0, .ref h3, .ref h1, .ref h4, .ref h5, .ref h6, .ref h7, .ref h8, .ref h9, .ref h10, .ref h11, .ref h12, .ref h13, .ref h14, .ref h15, .ref h16, .ref h17, .ref h18, .ref h19, .ref h20, .int 0, .ref h21, .ref h22, .ref h23, .ref h24, .int 0, .int 0, .ref h25, .ref h26, .int (-1), .ref h2, .ref h27])), (h1, .inl (K 0, 9, .inl f3))]) (va_runSN (As := [.int 5]) (rest := []) ⟨hx, hb, hml, hown, hts⟩ (m_X12_numbers_2 l G K _) ⟨va_cnB (host := "MotionFloorModel") 1 hts (wGP t_ j_X12_numbers_2) rfl rfl rfl hE.2.2.2.2.2.2.2.2.2.2 (hw (.initialized RX12) (List.mem_of_getElem? (i := 9) rfl)) (by decide +kernel) ⟨Nat.le_of_ble_eq_true rfl, Nat.le_of_ble_eq_true rfl⟩, (hw (.static yX12_numbers) (List.mem_of_getElem? (i := 10) rfl)), trivial⟩ (wPS hK hE hPc hDc) rfl rfl hl.1 rfl (lv_room (Nat.le_of_ble_eq_true rfl)) dX11_act_70 ⟨Nat.le_of_ble_eq_true rfl, Nat.le_of_ble_eq_true rfl⟩) hP hD hS hA [] [0, 1, 2] rfl rfl rfl (by decide) (fun r u H locs hw hP hD hS => ?_)
    rcases hw with ⟨rfl, rfl⟩
    have hP : va_P G vwCl [(h2, .inl (K 0, 3600, .inl (fun _ => 0))), (h0, .inr (8, [.int 1, .int 0, .int (-1), .int 0, .int 0, .int (-1), .int 0, .int 0, .int 0, .int 0, .int 0, .ref h3, .ref h1, .ref h4, .ref h5, .ref h6, .ref h7, .ref h8, .ref h9, .ref h10, .ref h11, .ref h12, .ref h13, .ref h14, .ref h15, .ref h16, .ref h17, .ref h18, .ref h19, .ref h20, .int 0, .ref h21, .ref h22, .ref h23, .ref h24, .int 0, .int 0, .ref h25, .ref h26, .int (-1), .ref h2, .ref h27])), (h1, .inl (K 0, 9, .inl f3))] _ := hP
    have hD : va_D A [(h2, .inl (K 0, 3600, .inl (fun _ => 0))), (h0, .inr (8, [.int 1, .int 0, .int (-1), .int 0, .int 0, .int (-1), .int 0, .int 0, .int 0, .int 0, .int 0, .ref h3, .ref h1, .ref h4, .ref h5, .ref h6, .ref h7, .ref h8, .ref h9, .ref h10, .ref h11, .ref h12, .ref h13, .ref h14, .ref h15, .ref h16, .ref h17, .ref h18, .ref h19, .ref h20, .int 0, .ref h21, .ref h22, .ref h23, .ref h24, .int 0, .int 0, .ref h25, .ref h26, .int (-1), .ref h2, .ref h27])), (h1, .inl (K 0, 9, .inl f3))] := hD
    refine lv_istore (lv' := [(9, .int 2), (8, .int 0), (7, .int ((upd (fun _ => 1) 6 2) p0.toNatClampNeg)), (6, .int 0), (0, .ref h0), (1, .int 5), (2, .int p0), (3, .int p1), (4, .int 0), (5, .int 0)]) hx hb dX11_act_73 hl (by decide) rfl (fun ls hl => ?_)
    refine lv_aload_n hx hb dX11_act_75 rfl (lv_at hl 4 rfl) ?_
    refine va_get (D := G) (ci := 8) (v := .ref h2) (C := RX11) (T := TX11) (N := 42) hx hb hts iX11 hown hK hP 1 rfl rfl 40 (by decide) (hw (.fieldLink RX11 90 "MotionFloorModel$Hall" "minutes" "[I") (List.mem_of_getElem? (i := 11) rfl)) (fun _ h9 => h9) rfl dX11_act_76 ?_
    refine lv_iload hx hb dX11_act_79 (lv_at hl 1 rfl) ?_
    refine lv_iload_n hx hb dX11_act_81 rfl (lv_at hl 5 rfl) ?_
    refine va_iast hx hb hK hP hD hS 0 0 rfl rfl (vp_in_iff.mpr (by decide)) dX11_act_82 (fun H locs hP hD hS => ?_)
    have hP : va_P G vwCl [(h2, .inl (K 0, 3600, .inl (upd (fun _ => 0) 0 5))), (h0, .inr (8, [.int 1, .int 0, .int (-1), .int 0, .int 0, .int (-1), .int 0, .int 0, .int 0, .int 0, .int 0, .ref h3, .ref h1, .ref h4, .ref h5, .ref h6, .ref h7, .ref h8, .ref h9, .ref h10, .ref h11, .ref h12, .ref h13, .ref h14, .ref h15, .ref h16, .ref h17, .ref h18, .ref h19, .ref h20, .int 0, .ref h21, .ref h22, .ref h23, .ref h24, .int 0, .int 0, .ref h25, .ref h26, .int (-1), .ref h2, .ref h27])), (h1, .inl (K 0, 9, .inl f3))] _ := hP
    have hD : va_D A [(h2, .inl (K 0, 3600, .inl (upd (fun _ => 0) 0 5))), (h0, .inr (8, [.int 1, .int 0, .int (-1), .int 0, .int 0, .int (-1), .int 0, .int 0, .int 0, .int 0, .int 0, .ref h3, .ref h1, .ref h4, .ref h5, .ref h6, .ref h7, .ref h8, .ref h9, .ref h10, .ref h11, .ref h12, .ref h13, .ref h14, .ref h15, .ref h16, .ref h17, .ref h18, .ref h19, .ref h20, .int 0, .ref h21, .ref h22, .ref h23, .ref h24, .int 0, .int 0, .ref h25, .ref h26, .int (-1), .ref h2, .ref h27])), (h1, .inl (K 0, 9, .inl f3))] := hD
    refine lv_aload_n hx hb dX11_act_83 rfl (lv_at hl 4 rfl) ?_
    refine va_get (D := G) (ci := 8) (v := .ref h2) (C := RX11) (T := TX11) (N := 42) hx hb hts iX11 hown hK hP 1 rfl rfl 40 (by decide) (hw (.fieldLink RX11 90 "MotionFloorModel$Hall" "minutes" "[I") (List.mem_of_getElem? (i := 11) rfl)) (fun _ h9 => h9) rfl dX11_act_84 ?_
    refine lv_iload hx hb dX11_act_87 (lv_at hl 1 rfl) ?_
    refine lv_iconst (v := 1) hx hb dX11_act_89 (by decide) ?_
    refine lv_iadd hx hb dX11_act_90 ?_
    refine wTop (v1 := .int 1) (congrArg Value.int (by decide)) ?_
    refine lv_iload hx hb dX11_act_91 (lv_at hl 0 rfl) ?_
    refine lv_if_le (tgt := 100) hx hb dX11_act_93 (by decide) (fun c_ => absurd c_ (by decide)) (fun _ => ?_)
    refine lv_iload_n hx hb dX11_act_96 rfl (lv_at hl 6 rfl) ?_
    refine lv_goto (tgt := 101) hx hb dX11_act_97 (by decide) ?_
    refine va_iast hx hb hK hP hD hS 0 0 rfl rfl (vp_in_iff.mpr (by decide)) dX11_act_101 (fun H locs hP hD hS => ?_)
    have hP : va_P G vwCl [(h2, .inl (K 0, 3600, .inl (upd (upd (fun _ => 0) 0 5) 1 p0))), (h0, .inr (8, [.int 1, .int 0, .int (-1), .int 0, .int 0, .int (-1), .int 0, .int 0, .int 0, .int 0, .int 0, .ref h3, .ref h1, .ref h4, .ref h5, .ref h6, .ref h7, .ref h8, .ref h9, .ref h10, .ref h11, .ref h12, .ref h13, .ref h14, .ref h15, .ref h16, .ref h17, .ref h18, .ref h19, .ref h20, .int 0, .ref h21, .ref h22, .ref h23, .ref h24, .int 0, .int 0, .ref h25, .ref h26, .int (-1), .ref h2, .ref h27])), (h1, .inl (K 0, 9, .inl f3))] _ := hP
    have hD : va_D A [(h2, .inl (K 0, 3600, .inl (upd (upd (fun _ => 0) 0 5) 1 p0))), (h0, .inr (8, [.int 1, .int 0, .int (-1), .int 0, .int 0, .int (-1), .int 0, .int 0, .int 0, .int 0, .int 0, .ref h3, .ref h1, .ref h4, .ref h5, .ref h6, .ref h7, .ref h8, .ref h9, .ref h10, .ref h11, .ref h12, .ref h13, .ref h14, .ref h15, .ref h16, .ref h17, .ref h18, .ref h19, .ref h20, .int 0, .ref h21, .ref h22, .ref h23, .ref h24, .int 0, .int 0, .ref h25, .ref h26, .int (-1), .ref h2, .ref h27])), (h1, .inl (K 0, 9, .inl f3))] := hD
    refine lv_aload_n hx hb dX11_act_102 rfl (lv_at hl 4 rfl) ?_
    refine va_get (D := G) (ci := 8) (v := .ref h2) (C := RX11) (T := TX11) (N := 42) hx hb hts iX11 hown hK hP 1 rfl rfl 40 (by decide) (hw (.fieldLink RX11 90 "MotionFloorModel$Hall" "minutes" "[I") (List.mem_of_getElem? (i := 11) rfl)) (fun _ h9 => h9) rfl dX11_act_103 ?_
    refine lv_iload hx hb dX11_act_106 (lv_at hl 1 rfl) ?_
    refine lv_iconst (v := 2) hx hb dX11_act_108 (by decide) ?_
    refine lv_iadd hx hb dX11_act_109 ?_
    refine wTop (v1 := .int 2) (congrArg Value.int (by decide)) ?_
    refine lv_iload hx hb dX11_act_110 (lv_at hl 0 rfl) ?_
    refine lv_iconst (v := 1) hx hb dX11_act_112 (by decide) ?_
    refine lv_icmp_le (tgt := 120) hx hb dX11_act_113 (by decide) (fun c_ => absurd c_ (by decide)) (fun _ => ?_)
    refine lv_iload_n hx hb dX11_act_116 rfl (lv_at hl 7 rfl) ?_
    refine lv_goto (tgt := 121) hx hb dX11_act_117 (by decide) ?_
    refine va_iast hx hb hK hP hD hS 0 0 rfl rfl (vp_in_iff.mpr (by decide)) dX11_act_121 (fun H locs hP hD hS => ?_)
    have hP : va_P G vwCl [(h2, .inl (K 0, 3600, .inl (upd (upd (upd (fun _ => 0) 0 5) 1 p0) 2 p1))), (h0, .inr (8, [.int 1, .int 0, .int (-1), .int 0, .int 0, .int (-1), .int 0, .int 0, .int 0, .int 0, .int 0, .ref h3, .ref h1, .ref h4, .ref h5, .ref h6, .ref h7, .ref h8, .ref h9, .ref h10, .ref h11, .ref h12, .ref h13, .ref h14, .ref h15, .ref h16, .ref h17, .ref h18, .ref h19, .ref h20, .int 0, .ref h21, .ref h22, .ref h23, .ref h24, .int 0, .int 0, .ref h25, .ref h26, .int (-1), .ref h2, .ref h27])), (h1, .inl (K 0, 9, .inl f3))] _ := hP
    have hD : va_D A [(h2, .inl (K 0, 3600, .inl (upd (upd (upd (fun _ => 0) 0 5) 1 p0) 2 p1))), (h0, .inr (8, [.int 1, .int 0, .int (-1), .int 0, .int 0, .int (-1), .int 0, .int 0, .int 0, .int 0, .int 0, .ref h3, .ref h1, .ref h4, .ref h5, .ref h6, .ref h7, .ref h8, .ref h9, .ref h10, .ref h11, .ref h12, .ref h13, .ref h14, .ref h15, .ref h16, .ref h17, .ref h18, .ref h19, .ref h20, .int 0, .ref h21, .ref h22, .ref h23, .ref h24, .int 0, .int 0, .ref h25, .ref h26, .int (-1), .ref h2, .ref h27])), (h1, .inl (K 0, 9, .inl f3))] := hD
    refine lv_aload_n hx hb dX11_act_122 rfl (lv_at hl 4 rfl) ?_
    refine va_get (D := G) (ci := 8) (v := .ref h2) (C := RX11) (T := TX11) (N := 42) hx hb hts iX11 hown hK hP 1 rfl rfl 40 (by decide) (hw (.fieldLink RX11 90 "MotionFloorModel$Hall" "minutes" "[I") (List.mem_of_getElem? (i := 11) rfl)) (fun _ h9 => h9) rfl dX11_act_123 ?_
    refine lv_iload hx hb dX11_act_126 (lv_at hl 1 rfl) ?_
    refine lv_iconst (v := 3) hx hb dX11_act_128 (by decide) ?_
    refine lv_iadd hx hb dX11_act_129 ?_
    refine wTop (v1 := .int 3) (congrArg Value.int (by decide)) ?_
    refine lv_iload hx hb dX11_act_130 (lv_at hl 0 rfl) ?_
    refine lv_iconst (v := 2) hx hb dX11_act_132 (by decide) ?_
    refine lv_icmp_le (tgt := 141) hx hb dX11_act_133 (by decide) (fun _ => ?_) (fun c_ => absurd c_ (by decide))
    refine lv_iconst (v := 0) hx hb dX11_act_141 (by decide) ?_
    refine va_iast hx hb hK hP hD hS 0 0 rfl rfl (vp_in_iff.mpr (by decide)) dX11_act_142 (fun H locs hP hD hS => ?_)
    have hP : va_P G vwCl [(h2, .inl (K 0, 3600, .inl (upd (upd (upd (upd (fun _ => 0) 0 5) 1 p0) 2 p1) 3 0))), (h0, .inr (8, [.int 1, .int 0, .int (-1), .int 0, .int 0, .int (-1), .int 0, .int 0, .int 0, .int 0, .int 0, .ref h3, .ref h1, .ref h4, .ref h5, .ref h6, .ref h7, .ref h8, .ref h9, .ref h10, .ref h11, .ref h12, .ref h13, .ref h14, .ref h15, .ref h16, .ref h17, .ref h18, .ref h19, .ref h20, .int 0, .ref h21, .ref h22, .ref h23, .ref h24, .int 0, .int 0, .ref h25, .ref h26, .int (-1), .ref h2, .ref h27])), (h1, .inl (K 0, 9, .inl f3))] _ := hP
    have hD : va_D A [(h2, .inl (K 0, 3600, .inl (upd (upd (upd (upd (fun _ => 0) 0 5) 1 p0) 2 p1) 3 0))), (h0, .inr (8, [.int 1, .int 0, .int (-1), .int 0, .int 0, .int (-1), .int 0, .int 0, .int 0, .int 0, .int 0, .ref h3, .ref h1, .ref h4, .ref h5, .ref h6, .ref h7, .ref h8, .ref h9, .ref h10, .ref h11, .ref h12, .ref h13, .ref h14, .ref h15, .ref h16, .ref h17, .ref h18, .ref h19, .ref h20, .int 0, .ref h21, .ref h22, .ref h23, .ref h24, .int 0, .int 0, .ref h25, .ref h26, .int (-1), .ref h2, .ref h27])), (h1, .inl (K 0, 9, .inl f3))] := hD
    refine lv_aload_n hx hb dX11_act_143 rfl (lv_at hl 4 rfl) ?_
    refine va_get (D := G) (ci := 8) (v := .ref h2) (C := RX11) (T := TX11) (N := 42) hx hb hts iX11 hown hK hP 1 rfl rfl 40 (by decide) (hw (.fieldLink RX11 90 "MotionFloorModel$Hall" "minutes" "[I") (List.mem_of_getElem? (i := 11) rfl)) (fun _ h9 => h9) rfl dX11_act_144 ?_
    refine lv_iload hx hb dX11_act_147 (lv_at hl 1 rfl) ?_
    refine lv_iconst (v := 4) hx hb dX11_act_149 (by decide) ?_
    refine lv_iadd hx hb dX11_act_150 ?_
    refine wTop (v1 := .int 4) (congrArg Value.int (by decide)) ?_
    refine lv_iload hx hb dX11_act_151 (lv_at hl 0 rfl) ?_
    refine lv_iconst (v := 3) hx hb dX11_act_153 (by decide) ?_
    refine lv_icmp_le (tgt := 162) hx hb dX11_act_154 (by decide) (fun _ => ?_) (fun c_ => absurd c_ (by decide))
    refine lv_iconst (v := 0) hx hb dX11_act_162 (by decide) ?_
    refine va_iast hx hb hK hP hD hS 0 0 rfl rfl (vp_in_iff.mpr (by decide)) dX11_act_163 (fun H locs hP hD hS => ?_)
    have hP : va_P G vwCl [(h2, .inl (K 0, 3600, .inl (upd (upd (upd (upd (upd (fun _ => 0) 0 5) 1 p0) 2 p1) 3 0) 4 0))), (h0, .inr (8, [.int 1, .int 0, .int (-1), .int 0, .int 0, .int (-1), .int 0, .int 0, .int 0, .int 0, .int 0, .ref h3, .ref h1, .ref h4, .ref h5, .ref h6, .ref h7, .ref h8, .ref h9, .ref h10, .ref h11, .ref h12, .ref h13, .ref h14, .ref h15, .ref h16, .ref h17, .ref h18, .ref h19, .ref h20, .int 0, .ref h21, .ref h22, .ref h23, .ref h24, .int 0, .int 0, .ref h25, .ref h26, .int (-1), .ref h2, .ref h27])), (h1, .inl (K 0, 9, .inl f3))] _ := hP
    have hD : va_D A [(h2, .inl (K 0, 3600, .inl (upd (upd (upd (upd (upd (fun _ => 0) 0 5) 1 p0) 2 p1) 3 0) 4 0))), (h0, .inr (8, [.int 1, .int 0, .int (-1), .int 0, .int 0, .int (-1), .int 0, .int 0, .int 0, .int 0, .int 0, .ref h3, .ref h1, .ref h4, .ref h5, .ref h6, .ref h7, .ref h8, .ref h9, .ref h10, .ref h11, .ref h12, .ref h13, .ref h14, .ref h15, .ref h16, .ref h17, .ref h18, .ref h19, .ref h20, .int 0, .ref h21, .ref h22, .ref h23, .ref h24, .int 0, .int 0, .ref h25, .ref h26, .int (-1), .ref h2, .ref h27])), (h1, .inl (K 0, 9, .inl f3))] := hD
    refine lv_aload_n hx hb dX11_act_164 rfl (lv_at hl 4 rfl) ?_
    refine va_get (D := G) (ci := 8) (v := .ref h2) (C := RX11) (T := TX11) (N := 42) hx hb hts iX11 hown hK hP 1 rfl rfl 40 (by decide) (hw (.fieldLink RX11 90 "MotionFloorModel$Hall" "minutes" "[I") (List.mem_of_getElem? (i := 11) rfl)) (fun _ h9 => h9) rfl dX11_act_165 ?_
    refine lv_iload hx hb dX11_act_168 (lv_at hl 1 rfl) ?_
    refine lv_iconst (v := 5) hx hb dX11_act_170 (by decide) ?_
    refine lv_iadd hx hb dX11_act_171 ?_
    refine wTop (v1 := .int 5) (congrArg Value.int (by decide)) ?_
    refine lv_iload hx hb dX11_act_172 (lv_at hl 2 rfl) ?_
    refine va_iast hx hb hK hP hD hS 0 0 rfl rfl (vp_in_iff.mpr (by decide)) dX11_act_174 (fun H locs hP hD hS => ?_)
    have hP : va_P G vwCl [(h2, .inl (K 0, 3600, .inl (upd (upd (upd (upd (upd (upd (fun _ => 0) 0 5) 1 p0) 2 p1) 3 0) 4 0) 5 ((upd (fun _ => 1) 6 2) p0.toNatClampNeg)))), (h0, .inr (8, [.int 1, .int 0, .int (-1), .int 0, .int 0, .int (-1), .int 0, .int 0, .int 0, .int 0, .int 0, .ref h3, .ref h1, .ref h4, .ref h5, .ref h6, .ref h7, .ref h8, .ref h9, .ref h10, .ref h11, .ref h12, .ref h13, .ref h14, .ref h15, .ref h16, .ref h17, .ref h18, .ref h19, .ref h20, .int 0, .ref h21, .ref h22, .ref h23, .ref h24, .int 0, .int 0, .ref h25, .ref h26, .int (-1), .ref h2, .ref h27])), (h1, .inl (K 0, 9, .inl f3))] _ := hP
    have hD : va_D A [(h2, .inl (K 0, 3600, .inl (upd (upd (upd (upd (upd (upd (fun _ => 0) 0 5) 1 p0) 2 p1) 3 0) 4 0) 5 ((upd (fun _ => 1) 6 2) p0.toNatClampNeg)))), (h0, .inr (8, [.int 1, .int 0, .int (-1), .int 0, .int 0, .int (-1), .int 0, .int 0, .int 0, .int 0, .int 0, .ref h3, .ref h1, .ref h4, .ref h5, .ref h6, .ref h7, .ref h8, .ref h9, .ref h10, .ref h11, .ref h12, .ref h13, .ref h14, .ref h15, .ref h16, .ref h17, .ref h18, .ref h19, .ref h20, .int 0, .ref h21, .ref h22, .ref h23, .ref h24, .int 0, .int 0, .ref h25, .ref h26, .int (-1), .ref h2, .ref h27])), (h1, .inl (K 0, 9, .inl f3))] := hD
    refine lv_aload_n hx hb dX11_act_175 rfl (lv_at hl 4 rfl) ?_
    refine lv_dup hx hb dX11_act_176 rfl ?_
    refine va_get (D := G) (ci := 8) (v := .int 0) (C := RX11) (T := TX11) (N := 42) hx hb hts iX11 hown hK hP 1 rfl rfl 7 (by decide) (hw (.fieldLink RX11 118 "MotionFloorModel$Hall" "entries" "I") (List.mem_of_getElem? (i := 5) rfl)) (fun _ h9 => h9) rfl dX11_act_177 ?_
    refine lv_iconst (v := 1) hx hb dX11_act_180 (by decide) ?_
    refine lv_iadd hx hb dX11_act_181 ?_
    refine wTop (v1 := .int 1) (congrArg Value.int (by decide)) ?_
    refine va_put (D := G) (ci := 8) (v := .int 1) (ty := .int) (C := RX11) (T := TX11) (N := 42) hx hb hts iX11 tyX11 tyX11_ok nmX11 hown hK hP hD hS 1 rfl rfl 7 (by decide) (hw (.fieldLink RX11 118 "MotionFloorModel$Hall" "entries" "I") (List.mem_of_getElem? (i := 5) rfl)) (fun _ h9 => h9) rfl (by decide +kernel) rfl rfl (Nat.le_of_ble_eq_true rfl) dX11_act_182 (fun H locs hP hD hS => ?_)
    have hP : va_P G vwCl [(h2, .inl (K 0, 3600, .inl (upd (upd (upd (upd (upd (upd (fun _ => 0) 0 5) 1 p0) 2 p1) 3 0) 4 0) 5 ((upd (fun _ => 1) 6 2) p0.toNatClampNeg)))), (h0, .inr (8, [.int 1, .int 0, .int (-1), .int 0, .int 0, .int (-1), .int 0, .int 1, .int 0, .int 0, .int 0, .ref h3, .ref h1, .ref h4, .ref h5, .ref h6, .ref h7, .ref h8, .ref h9, .ref h10, .ref h11, .ref h12, .ref h13, .ref h14, .ref h15, .ref h16, .ref h17, .ref h18, .ref h19, .ref h20, .int 0, .ref h21, .ref h22, .ref h23, .ref h24, .int 0, .int 0, .ref h25, .ref h26, .int (-1), .ref h2, .ref h27])), (h1, .inl (K 0, 9, .inl f3))] _ := hP
    have hD : va_D A [(h2, .inl (K 0, 3600, .inl (upd (upd (upd (upd (upd (upd (fun _ => 0) 0 5) 1 p0) 2 p1) 3 0) 4 0) 5 ((upd (fun _ => 1) 6 2) p0.toNatClampNeg)))), (h0, .inr (8, [.int 1, .int 0, .int (-1), .int 0, .int 0, .int (-1), .int 0, .int 1, .int 0, .int 0, .int 0, .ref h3, .ref h1, .ref h4, .ref h5, .ref h6, .ref h7, .ref h8, .ref h9, .ref h10, .ref h11, .ref h12, .ref h13, .ref h14, .ref h15, .ref h16, .ref h17, .ref h18, .ref h19, .ref h20, .int 0, .ref h21, .ref h22, .ref h23, .ref h24, .int 0, .int 0, .ref h25, .ref h26, .int (-1), .ref h2, .ref h27])), (h1, .inl (K 0, 9, .inl f3))] := hD
    refine lv_iload hx hb dX11_act_185 (lv_at hl 2 rfl) ?_
    have hP9 := hP.sub (ws' := [(h0, .inr (8, [.int 1, .int 0, .int (-1), .int 0, .int 0, .int (-1), .int 0, .int 1, .int 0, .int 0, .int 0, .ref h3, .ref h1, .ref h4, .ref h5, .ref h6, .ref h7, .ref h8, .ref h9, .ref h10, .ref h11, .ref h12, .ref h13, .ref h14, .ref h15, .ref h16, .ref h17, .ref h18, .ref h19, .ref h20, .int 0, .ref h21, .ref h22, .ref h23, .ref h24, .int 0, .int 0, .ref h25, .ref h26, .int (-1), .ref h2, .ref h27])), (h1, .inl (K 0, 9, .inl f3)), (h2, .inl (K 0, 3600, .inl (upd (upd (upd (upd (upd (upd (fun _ => 0) 0 5) 1 p0) 2 p1) 3 0) 4 0) 5 ((upd (fun _ => 1) 6 2) p0.toNatClampNeg))))]) [1, 2, 0] rfl
    have hD9 := hD.sub (ws' := [(h0, .inr (8, [.int 1, .int 0, .int (-1), .int 0, .int 0, .int (-1), .int 0, .int 1, .int 0, .int 0, .int 0, .ref h3, .ref h1, .ref h4, .ref h5, .ref h6, .ref h7, .ref h8, .ref h9, .ref h10, .ref h11, .ref h12, .ref h13, .ref h14, .ref h15, .ref h16, .ref h17, .ref h18, .ref h19, .ref h20, .int 0, .ref h21, .ref h22, .ref h23, .ref h24, .int 0, .int 0, .ref h25, .ref h26, .int (-1), .ref h2, .ref h27])), (h1, .inl (K 0, 9, .inl f3)), (h2, .inl (K 0, 3600, .inl (upd (upd (upd (upd (upd (upd (fun _ => 0) 0 5) 1 p0) 2 p1) 3 0) 4 0) 5 ((upd (fun _ => 1) 6 2) p0.toNatClampNeg))))]) [1, 2, 0] (by decide) rfl
    exact W.iret (v := ((upd (fun _ => 1) 6 2) p0.toNatClampNeg)) hx hb hr (fun t ht hW => ⟨⟨((upd (fun _ => 1) 6 2) p0.toNatClampNeg), _, rfl, Or.inr (⟨f3, (by first | omega | decide | simp), rfl, rfl⟩), by rw [ht]; exact hP9, hD9⟩, hS.F ht⟩) hS.2.2 dX11_act_187
def e_X12_majority_0 : List Cond := [.fieldLink RX12 16 "MotionFloorModel" "hall" "LMotionFloorModel$Hall;", .methodLink RX12 40 yX11_act, .instanceMethod yX11_act, .selects RX11 yX11_act yX11_act, .initialized RX11]
def v_X12_majority_0 : List Cond := .code yX12_majority cX12_majority 3 (some .int) :: (e_X12_majority_0 ++ (wsX120 ++ (v_X11_act_4 ++ [])))
theorem te_X12_majority_0 : GoodIn lw_tbl e_X12_majority_0 := wGc z566 (wGc z595 (wGc z594 (wGc z593 (wGc z568 (wG0)))))
theorem t_X12_majority_0 : GoodIn lw_tbl v_X12_majority_0 := wGc z600 (wGa te_X12_majority_0 (wGa zcX12 (wGa t_X11_act_4 (wG0))))
set_option maxHeartbeats 4000000 in
set_option maxRecDepth 100000 in
theorem m_X12_majority_0 (l : Launch) (G : va_G) (K : Nat → ClassId) (h0 h1 h2 h3 h4 h5 h6 h7 h8 h9 h10 h11 h12 h13 h14 h15 h16 h17 h18 h19 h20 h21 h22 h23 h24 h25 h26 h27 h28 h29 h30 h31 h32 h33 : Nat) (p0 p1 : Int32) (sz : Nat) : Met l yX12_majority v_X12_majority_0 ({ frames := 3, cells := 0, slots := 0, locals := 76 }) (va_Pc [.ref h0, .int p0, .int p1] (wS G K sz [(h0, .inr (9, [.ref h1, .ref h4, .ref h5, .ref h6, .ref h7, .ref h8, .int 0])), (h1, .inr (8, [.int 1, .int 0, .int (-1), .int 0, .int 0, .int (-1), .int 0, .int 0, .int 0, .int 0, .int 0, .ref h9, .ref h2, .ref h10, .ref h11, .ref h12, .ref h13, .ref h14, .ref h15, .ref h16, .ref h17, .ref h18, .ref h19, .ref h20, .ref h21, .ref h22, .ref h23, .ref h24, .ref h25, .ref h26, .int 0, .ref h27, .ref h28, .ref h29, .ref h30, .int 0, .int 0, .ref h31, .ref h32, .int (-1), .ref h3, .ref h33])), (h2, .inl (K 0, 9, .inl (upd (fun _ => 1) 6 2))), (h3, .inl (K 0, 3600, .inl (fun _ => 0)))])) (va_Qi (fun (r : Int32) (u : va_W) => (((((p0.toInt < 1 ∨ (p0.toInt ≥ 1 ∧ p0.toInt > 8)) ∨ (((p0.toInt ≥ 1 ∧ p0.toInt ≤ 8)) ∧ (p1.toInt < 1 ∨ (p1.toInt ≥ 1 ∧ p1.toInt > 3)))))) ∧ r = (-9) ∧ u = [(h0, .inr (9, [.ref h1, .ref h4, .ref h5, .ref h6, .ref h7, .ref h8, .int 0])), (h1, .inr (8, [.int 1, .int 0, .int (-1), .int 0, .int 0, .int (-1), .int 0, .int 0, .int 0, .int 0, .int 9, .ref h9, .ref h2, .ref h10, .ref h11, .ref h12, .ref h13, .ref h14, .ref h15, .ref h16, .ref h17, .ref h18, .ref h19, .ref h20, .ref h21, .ref h22, .ref h23, .ref h24, .ref h25, .ref h26, .int 0, .ref h27, .ref h28, .ref h29, .ref h30, .int 0, .int 0, .ref h31, .ref h32, .int (-1), .ref h3, .ref h33])), (h2, .inl (K 0, 9, .inl (upd (fun _ => 1) 6 2))), (h3, .inl (K 0, 3600, .inl (fun _ => 0)))]) ∨ (∃ u0 : Nat → Int32, ((((((p0.toInt ≥ 1 ∧ p0.toInt ≤ 8)) ∧ ((p1.toInt ≥ 1 ∧ p1.toInt ≤ 3)))))) ∧ r = ((upd (fun _ => 1) 6 2) p0.toNatClampNeg) ∧ u = [(h0, .inr (9, [.ref h1, .ref h4, .ref h5, .ref h6, .ref h7, .ref h8, .int 0])), (h1, .inr (8, [.int 1, .int 0, .int (-1), .int 0, .int 0, .int (-1), .int 0, .int 1, .int 0, .int 0, .int 0, .ref h9, .ref h2, .ref h10, .ref h11, .ref h12, .ref h13, .ref h14, .ref h15, .ref h16, .ref h17, .ref h18, .ref h19, .ref h20, .ref h21, .ref h22, .ref h23, .ref h24, .ref h25, .ref h26, .int 0, .ref h27, .ref h28, .ref h29, .ref h30, .int 0, .int 0, .ref h31, .ref h32, .int (-1), .ref h3, .ref h33])), (h2, .inl (K 0, 9, .inl u0)), (h3, .inl (K 0, 3600, .inl (upd (upd (upd (upd (upd (upd (fun _ => 0) 0 5) 1 p0) 2 p1) 3 0) 4 0) 5 ((upd (fun _ => 1) 6 2) p0.toNatClampNeg))))])) (wB G (va_A [(h0, .inr (9, [.ref h1, .ref h4, .ref h5, .ref h6, .ref h7, .ref h8, .int 0])), (h1, .inr (8, [.int 1, .int 0, .int (-1), .int 0, .int 0, .int (-1), .int 0, .int 0, .int 0, .int 0, .int 0, .ref h9, .ref h2, .ref h10, .ref h11, .ref h12, .ref h13, .ref h14, .ref h15, .ref h16, .ref h17, .ref h18, .ref h19, .ref h20, .ref h21, .ref h22, .ref h23, .ref h24, .ref h25, .ref h26, .int 0, .ref h27, .ref h28, .ref h29, .ref h30, .int 0, .int 0, .ref h31, .ref h32, .int (-1), .ref h3, .ref h33])), (h2, .inl (K 0, 9, .inl (upd (fun _ => 1) 6 2))), (h3, .inl (K 0, 3600, .inl (fun _ => 0)))] sz)) (va_A [(h0, .inr (9, [.ref h1, .ref h4, .ref h5, .ref h6, .ref h7, .ref h8, .int 0])), (h1, .inr (8, [.int 1, .int 0, .int (-1), .int 0, .int 0, .int (-1), .int 0, .int 0, .int 0, .int 0, .int 0, .ref h9, .ref h2, .ref h10, .ref h11, .ref h12, .ref h13, .ref h14, .ref h15, .ref h16, .ref h17, .ref h18, .ref h19, .ref h20, .ref h21, .ref h22, .ref h23, .ref h24, .ref h25, .ref h26, .int 0, .ref h27, .ref h28, .ref h29, .ref h30, .int 0, .int 0, .ref h31, .ref h32, .int (-1), .ref h3, .ref h33])), (h2, .inl (K 0, 9, .inl (upd (fun _ => 1) 6 2))), (h3, .inl (K 0, 3600, .inl (fun _ => 0)))] sz)) 0 0 (va_A [(h0, .inr (9, [.ref h1, .ref h4, .ref h5, .ref h6, .ref h7, .ref h8, .int 0])), (h1, .inr (8, [.int 1, .int 0, .int (-1), .int 0, .int 0, .int (-1), .int 0, .int 0, .int 0, .int 0, .int 0, .ref h9, .ref h2, .ref h10, .ref h11, .ref h12, .ref h13, .ref h14, .ref h15, .ref h16, .ref h17, .ref h18, .ref h19, .ref h20, .ref h21, .ref h22, .ref h23, .ref h24, .ref h25, .ref h26, .int 0, .ref h27, .ref h28, .ref h29, .ref h30, .int 0, .int 0, .ref h31, .ref h32, .int (-1), .ref h3, .ref h33])), (h2, .inl (K 0, 9, .inl (upd (fun _ => 1) 6 2))), (h3, .inl (K 0, 3600, .inl (fun _ => 0)))] sz) := by
  refine Met.ofW (cc := cX12_majority) (maxL := 3) (ret := (some .int)) (by decide) rfl ?_
  intro p e s m args below meth c s₁ B hml hv
  obtain ⟨rfl, hsz, hP, hK, hD0, hE⟩ := hv
  have hx := B.exec
  have hb := B.bytes
  have hr := B.returns
  have hts := atoms_spec (ws := v_X12_majority_0) B.pre
  have t_ := t_X12_majority_0
  have mw : ∀ w ∈ e_X12_majority_0, w ∈ v_X12_majority_0 := fun w h => List.mem_cons_of_mem _ (List.mem_append_left _ h)
  have hw := fun w (h : w ∈ e_X12_majority_0) => hts w (mw w h)
  have iX12 : ∀ w ∈ wsX120, w ∈ v_X12_majority_0 := fun w h => List.mem_cons_of_mem _ (List.mem_append_right _ (List.mem_append_left _ h))
  have j_X11_act_4 : ∀ w ∈ v_X11_act_4, w ∈ v_X12_majority_0 := fun w h => List.mem_cons_of_mem _ (List.mem_append_right _ (List.mem_append_right _ (List.mem_append_left _ h)))
  have hown : s.vm.findClass RX12 = some m.cls := findClass_of_methodNamed B.named
  have hlocks := B.notSynchronized
  subst hsz
  have hD := hD0.self (sz := s.heap.size)
  generalize hAe : va_A [(h0, .inr (9, [.ref h1, .ref h4, .ref h5, .ref h6, .ref h7, .ref h8, .int 0])), (h1, .inr (8, [.int 1, .int 0, .int (-1), .int 0, .int 0, .int (-1), .int 0, .int 0, .int 0, .int 0, .int 0, .ref h9, .ref h2, .ref h10, .ref h11, .ref h12, .ref h13, .ref h14, .ref h15, .ref h16, .ref h17, .ref h18, .ref h19, .ref h20, .ref h21, .ref h22, .ref h23, .ref h24, .ref h25, .ref h26, .int 0, .ref h27, .ref h28, .ref h29, .ref h30, .int 0, .int 0, .ref h31, .ref h32, .int (-1), .ref h3, .ref h33])), (h2, .inl (K 0, 9, .inl (upd (fun _ => 1) 6 2))), (h3, .inl (K 0, 3600, .inl (fun _ => 0)))] s.heap.size = A at hD ⊢
  have hA : ∀ q : Nat, s.heap.size ≤ q → A q := fun q h => by rw [← hAe]; exact Or.inr h
  have hS : va_S A s.heap s.heap [] := va_S.rf
  have hP : va_P G vwCl [(h0, .inr (9, [.ref h1, .ref h4, .ref h5, .ref h6, .ref h7, .ref h8, .int 0])), (h1, .inr (8, [.int 1, .int 0, .int (-1), .int 0, .int 0, .int (-1), .int 0, .int 0, .int 0, .int 0, .int 0, .ref h9, .ref h2, .ref h10, .ref h11, .ref h12, .ref h13, .ref h14, .ref h15, .ref h16, .ref h17, .ref h18, .ref h19, .ref h20, .ref h21, .ref h22, .ref h23, .ref h24, .ref h25, .ref h26, .int 0, .ref h27, .ref h28, .ref h29, .ref h30, .int 0, .int 0, .ref h31, .ref h32, .int (-1), .ref h3, .ref h33])), (h2, .inl (K 0, 9, .inl (upd (fun _ => 1) 6 2))), (h3, .inl (K 0, 3600, .inl (fun _ => 0)))] s.heap := hP
  have hl := lv_entry ([.ref h0, .int p0, .int p1]) (n := 3) (Nat.le_of_ble_eq_true rfl)
  rw [lg_entry_eq]
  generalize (lg_sl ([.ref h0, .int p0, .int p1]) ++ List.replicate (3 - (lg_sl ([.ref h0, .int p0, .int p1])).length) Slot.unset).toArray = ls at hl ⊢
  have hl : lv_has ls 3 [(0, .ref h0), (1, .int p0), (2, .int p1)] := hl
  refine lv_aload_n hx hb dX12_majority_0 rfl (lv_at hl 0 rfl) ?_
  refine va_get (D := G) (ci := 9) (v := .ref h1) (C := RX12) (T := TX12) (N := 7) hx hb hts iX12 hown hK hP 0 rfl rfl 0 (by decide) (hw (.fieldLink RX12 16 "MotionFloorModel" "hall" "LMotionFloorModel$Hall;") (List.mem_of_getElem? (i := 0) rfl)) (fun _ h9 => h9) rfl dX12_majority_1 ?_
  refine lv_iconst (v := 5) hx hb dX12_majority_4 (by decide) ?_
  refine lv_iload_n hx hb dX12_majority_5 rfl (lv_at hl 1 rfl) ?_
  refine lv_iload_n hx hb dX12_majority_6 rfl (lv_at hl 2 rfl) ?_
  refine lv_iconst (v := 0) hx hb dX12_majority_7 (by decide) ?_
  refine lv_iconst (v := 0) hx hb dX12_majority_8 (by decide) ?_
  have hPc := hP.sub (ws' := [(h1, .inr (8, [.int 1, .int 0, .int (-1), .int 0, .int 0, .int (-1), .int 0, .int 0, .int 0, .int 0, .int 0, .ref h9, .ref h2, .ref h10, .ref h11, .ref h12, .ref h13, .ref h14, .ref h15, .ref h16, .ref h17, .ref h18, .ref h19, .ref h20, .ref h21, .ref h22, .ref h23, .ref h24, .ref h25, .ref h26, .int 0, .ref h27, .ref h28, .ref h29, .ref h30, .int 0, .int 0, .ref h31, .ref h32, .int (-1), .ref h3, .ref h33])), (h2, .inl (K 0, 9, .inl (upd (fun _ => 1) 6 2))), (h3, .inl (K 0, 3600, .inl (fun _ => 0)))]) [1, 2, 3] rfl
  have hDc := hD.sub (ws' := [(h1, .inr (8, [.int 1, .int 0, .int (-1), .int 0, .int 0, .int (-1), .int 0, .int 0, .int 0, .int 0, .int 0, .ref h9, .ref h2, .ref h10, .ref h11, .ref h12, .ref h13, .ref h14, .ref h15, .ref h16, .ref h17, .ref h18, .ref h19, .ref h20, .ref h21, .ref h22, .ref h23, .ref h24, .ref h25, .ref h26, .int 0, .ref h27, .ref h28, .ref h29, .ref h30, .int 0, .int 0, .ref h31, .ref h32, .int (-1), .ref h3, .ref h33])), (h2, .inl (K 0, 9, .inl (upd (fun _ => 1) 6 2))), (h3, .inl (K 0, 3600, .inl (fun _ => 0)))]) [1, 2, 3] (by decide) rfl
  refine wGoi (wc := [(h1, .inr (8, [.int 1, .int 0, .int (-1), .int 0, .int 0, .int (-1), .int 0, .int 0, .int 0, .int 0, .int 0, .ref h9, .ref h2, .ref h10, .ref h11, .ref h12, .ref h13, .ref h14, .ref h15, .ref h16, .ref h17, .ref h18, .ref h19, .ref h20, .ref h21, .ref h22, .ref h23, .ref h24, .ref h25, .ref h26, .int 0, .ref h27, .ref h28, .ref h29, .ref h30, .int 0, .int 0, .ref h31, .ref h32, .int (-1), .ref h3, .ref h33])), (h2, .inl (K 0, 9, .inl (upd (fun _ => 1) 6 2))), (h3, .inl (K 0, 3600, .inl (fun _ => 0)))]) (wr := [(h0, .inr (9, [.ref h1, .ref h4, .ref h5, .ref h6, .ref h7, .ref h8, .int 0]))]) (va_runV (As := [.int 5, .int p0, .int p1, .int 0, .int 0]) (rest := []) ⟨hx, hb, hml, hown, hts⟩ (m_X11_act_4 l G K h1 h2 h3 h9 h10 h11 h12 h13 h14 h15 h16 h17 h18 h19 h20 h21 h22 h23 h24 h25 h26 h27 h28 h29 h30 h31 h32 h33 p0 p1 _) (cwV 5 hts (wGV t_ (mw (.methodLink RX12 40 yX11_act) (List.mem_of_getElem? (i := 1) rfl)) (mw (.instanceMethod yX11_act) (List.mem_of_getElem? (i := 2) rfl)) (mw (.selects RX11 yX11_act yX11_act) (List.mem_of_getElem? (i := 3) rfl)) (mw (.initialized RX11) (List.mem_of_getElem? (i := 4) rfl)) j_X11_act_4) rfl rfl rfl (by decide +kernel) ⟨Nat.le_of_ble_eq_true rfl, Nat.le_of_ble_eq_true rfl⟩) (wPV hK hE hPc hDc 8 0 rfl rfl) rfl rfl hl.1 rfl (lv_room (Nat.le_of_ble_eq_true rfl)) dX12_majority_9 ⟨Nat.le_of_ble_eq_true rfl, Nat.le_of_ble_eq_true rfl⟩) hP hD hS hA [1, 2, 3] [0] rfl rfl rfl (by decide) (fun r u H locs hw hP hD hS => ?_)
  rcases hw with ⟨c_w, rfl, rfl⟩ | ⟨f1, c_w, rfl, rfl⟩
  · have c2 := c_w
    have hP : va_P G vwCl [(h0, .inr (9, [.ref h1, .ref h4, .ref h5, .ref h6, .ref h7, .ref h8, .int 0])), (h1, .inr (8, [.int 1, .int 0, .int (-1), .int 0, .int 0, .int (-1), .int 0, .int 0, .int 0, .int 0, .int 9, .ref h9, .ref h2, .ref h10, .ref h11, .ref h12, .ref h13, .ref h14, .ref h15, .ref h16, .ref h17, .ref h18, .ref h19, .ref h20, .ref h21, .ref h22, .ref h23, .ref h24, .ref h25, .ref h26, .int 0, .ref h27, .ref h28, .ref h29, .ref h30, .int 0, .int 0, .ref h31, .ref h32, .int (-1), .ref h3, .ref h33])), (h2, .inl (K 0, 9, .inl (upd (fun _ => 1) 6 2))), (h3, .inl (K 0, 3600, .inl (fun _ => 0)))] _ := hP
    have hD : va_D A [(h0, .inr (9, [.ref h1, .ref h4, .ref h5, .ref h6, .ref h7, .ref h8, .int 0])), (h1, .inr (8, [.int 1, .int 0, .int (-1), .int 0, .int 0, .int (-1), .int 0, .int 0, .int 0, .int 0, .int 9, .ref h9, .ref h2, .ref h10, .ref h11, .ref h12, .ref h13, .ref h14, .ref h15, .ref h16, .ref h17, .ref h18, .ref h19, .ref h20, .ref h21, .ref h22, .ref h23, .ref h24, .ref h25, .ref h26, .int 0, .ref h27, .ref h28, .ref h29, .ref h30, .int 0, .int 0, .ref h31, .ref h32, .int (-1), .ref h3, .ref h33])), (h2, .inl (K 0, 9, .inl (upd (fun _ => 1) 6 2))), (h3, .inl (K 0, 3600, .inl (fun _ => 0)))] := hD
    have hP9 : va_P G vwCl [(h0, .inr (9, [.ref h1, .ref h4, .ref h5, .ref h6, .ref h7, .ref h8, .int 0])), (h1, .inr (8, [.int 1, .int 0, .int (-1), .int 0, .int 0, .int (-1), .int 0, .int 0, .int 0, .int 0, .int 9, .ref h9, .ref h2, .ref h10, .ref h11, .ref h12, .ref h13, .ref h14, .ref h15, .ref h16, .ref h17, .ref h18, .ref h19, .ref h20, .ref h21, .ref h22, .ref h23, .ref h24, .ref h25, .ref h26, .int 0, .ref h27, .ref h28, .ref h29, .ref h30, .int 0, .int 0, .ref h31, .ref h32, .int (-1), .ref h3, .ref h33])), (h2, .inl (K 0, 9, .inl (upd (fun _ => 1) 6 2))), (h3, .inl (K 0, 3600, .inl (fun _ => 0)))] _ := hP
    have hD9 : va_D A [(h0, .inr (9, [.ref h1, .ref h4, .ref h5, .ref h6, .ref h7, .ref h8, .int 0])), (h1, .inr (8, [.int 1, .int 0, .int (-1), .int 0, .int 0, .int (-1), .int 0, .int 0, .int 0, .int 0, .int 9, .ref h9, .ref h2, .ref h10, .ref h11, .ref h12, .ref h13, .ref h14, .ref h15, .ref h16, .ref h17, .ref h18, .ref h19, .ref h20, .ref h21, .ref h22, .ref h23, .ref h24, .ref h25, .ref h26, .int 0, .ref h27, .ref h28, .ref h29, .ref h30, .int 0, .int 0, .ref h31, .ref h32, .int (-1), .ref h3, .ref h33])), (h2, .inl (K 0, 9, .inl (upd (fun _ => 1) 6 2))), (h3, .inl (K 0, 3600, .inl (fun _ => 0)))] := hD
    exact W.iret (v := (-9)) hx hb hr (fun t ht hW => ⟨⟨(-9), _, rfl, Or.inl ⟨(by first | omega | decide | simp), rfl, rfl⟩, by rw [ht]; exact hP9, hD9⟩, hS.F ht⟩) hS.2.2 dX12_majority_12
  · have c3 := c_w
    have hP : va_P G vwCl [(h0, .inr (9, [.ref h1, .ref h4, .ref h5, .ref h6, .ref h7, .ref h8, .int 0])), (h1, .inr (8, [.int 1, .int 0, .int (-1), .int 0, .int 0, .int (-1), .int 0, .int 1, .int 0, .int 0, .int 0, .ref h9, .ref h2, .ref h10, .ref h11, .ref h12, .ref h13, .ref h14, .ref h15, .ref h16, .ref h17, .ref h18, .ref h19, .ref h20, .ref h21, .ref h22, .ref h23, .ref h24, .ref h25, .ref h26, .int 0, .ref h27, .ref h28, .ref h29, .ref h30, .int 0, .int 0, .ref h31, .ref h32, .int (-1), .ref h3, .ref h33])), (h2, .inl (K 0, 9, .inl f1)), (h3, .inl (K 0, 3600, .inl (upd (upd (upd (upd (upd (upd (fun _ => 0) 0 5) 1 p0) 2 p1) 3 0) 4 0) 5 ((upd (fun _ => 1) 6 2) p0.toNatClampNeg))))] _ := hP
    have hD : va_D A [(h0, .inr (9, [.ref h1, .ref h4, .ref h5, .ref h6, .ref h7, .ref h8, .int 0])), (h1, .inr (8, [.int 1, .int 0, .int (-1), .int 0, .int 0, .int (-1), .int 0, .int 1, .int 0, .int 0, .int 0, .ref h9, .ref h2, .ref h10, .ref h11, .ref h12, .ref h13, .ref h14, .ref h15, .ref h16, .ref h17, .ref h18, .ref h19, .ref h20, .ref h21, .ref h22, .ref h23, .ref h24, .ref h25, .ref h26, .int 0, .ref h27, .ref h28, .ref h29, .ref h30, .int 0, .int 0, .ref h31, .ref h32, .int (-1), .ref h3, .ref h33])), (h2, .inl (K 0, 9, .inl f1)), (h3, .inl (K 0, 3600, .inl (upd (upd (upd (upd (upd (upd (fun _ => 0) 0 5) 1 p0) 2 p1) 3 0) 4 0) 5 ((upd (fun _ => 1) 6 2) p0.toNatClampNeg))))] := hD
    have hP9 : va_P G vwCl [(h0, .inr (9, [.ref h1, .ref h4, .ref h5, .ref h6, .ref h7, .ref h8, .int 0])), (h1, .inr (8, [.int 1, .int 0, .int (-1), .int 0, .int 0, .int (-1), .int 0, .int 1, .int 0, .int 0, .int 0, .ref h9, .ref h2, .ref h10, .ref h11, .ref h12, .ref h13, .ref h14, .ref h15, .ref h16, .ref h17, .ref h18, .ref h19, .ref h20, .ref h21, .ref h22, .ref h23, .ref h24, .ref h25, .ref h26, .int 0, .ref h27, .ref h28, .ref h29, .ref h30, .int 0, .int 0, .ref h31, .ref h32, .int (-1), .ref h3, .ref h33])), (h2, .inl (K 0, 9, .inl f1)), (h3, .inl (K 0, 3600, .inl (upd (upd (upd (upd (upd (upd (fun _ => 0) 0 5) 1 p0) 2 p1) 3 0) 4 0) 5 ((upd (fun _ => 1) 6 2) p0.toNatClampNeg))))] _ := hP
    have hD9 : va_D A [(h0, .inr (9, [.ref h1, .ref h4, .ref h5, .ref h6, .ref h7, .ref h8, .int 0])), (h1, .inr (8, [.int 1, .int 0, .int (-1), .int 0, .int 0, .int (-1), .int 0, .int 1, .int 0, .int 0, .int 0, .ref h9, .ref h2, .ref h10, .ref h11, .ref h12, .ref h13, .ref h14, .ref h15, .ref h16, .ref h17, .ref h18, .ref h19, .ref h20, .ref h21, .ref h22, .ref h23, .ref h24, .ref h25, .ref h26, .int 0, .ref h27, .ref h28, .ref h29, .ref h30, .int 0, .int 0, .ref h31, .ref h32, .int (-1), .ref h3, .ref h33])), (h2, .inl (K 0, 9, .inl f1)), (h3, .inl (K 0, 3600, .inl (upd (upd (upd (upd (upd (upd (fun _ => 0) 0 5) 1 p0) 2 p1) 3 0) 4 0) 5 ((upd (fun _ => 1) 6 2) p0.toNatClampNeg))))] := hD
    exact W.iret (v := ((upd (fun _ => 1) 6 2) p0.toNatClampNeg)) hx hb hr (fun t ht hW => ⟨⟨((upd (fun _ => 1) 6 2) p0.toNatClampNeg), _, rfl, Or.inr (⟨f1, (by first | omega | decide | simp), rfl, rfl⟩), by rw [ht]; exact hP9, hD9⟩, hS.F ht⟩) hS.2.2 dX12_majority_12
def e_X12_in_7 : List Cond := []
def v_X12_in_7 : List Cond := .code yX12_in cX12_in 3 (some .boolean) :: (e_X12_in_7 ++ [])
theorem te_X12_in_7 : GoodIn lw_tbl e_X12_in_7 := wG0
theorem t_X12_in_7 : GoodIn lw_tbl v_X12_in_7 := wGc z573 (wGa te_X12_in_7 (wG0))
set_option maxHeartbeats 4000000 in
set_option maxRecDepth 100000 in
theorem m_X12_in_7 (l : Launch) (G : va_G) (K : Nat → ClassId) (p0 : Int32) (sz : Nat) : Met l yX12_in v_X12_in_7 ({ frames := 0, cells := 0, slots := 0, locals := 0 }) (va_Pc [.int p0, .int 0, .int 99] (wS G K sz [])) (va_Qi (fun (r : Int32) (u : va_W) => ((p0.toInt < 0 ∨ (p0.toInt ≥ 0 ∧ p0.toInt > 99)) ∧ r = 0 ∧ u = []) ∨ (((p0.toInt ≥ 0 ∧ p0.toInt ≤ 99)) ∧ r = 1 ∧ u = [])) (wB G (va_A [] sz)) (va_A [] sz)) 0 0 (va_A [] sz) := by
  refine Met.ofW (cc := cX12_in) (maxL := 3) (ret := (some .boolean)) (by decide) rfl ?_
  intro p e s m args below meth c s₁ B hml hv
  obtain ⟨rfl, hsz, hP, hK, hD0, hE⟩ := hv
  have hx := B.exec
  have hb := B.bytes
  have hr := B.returns
  have hts := atoms_spec (ws := v_X12_in_7) B.pre
  have t_ := t_X12_in_7
  have mw : ∀ w ∈ e_X12_in_7, w ∈ v_X12_in_7 := fun w h => List.mem_cons_of_mem _ (List.mem_append_left _ h)
  have hw := fun w (h : w ∈ e_X12_in_7) => hts w (mw w h)
  have hown : s.vm.findClass RX12 = some m.cls := findClass_of_methodNamed B.named
  have hlocks := B.notSynchronized
  subst hsz
  have hD := hD0.self (sz := s.heap.size)
  generalize hAe : va_A [] s.heap.size = A at hD ⊢
  have hA : ∀ q : Nat, s.heap.size ≤ q → A q := fun q h => by rw [← hAe]; exact Or.inr h
  have hS : va_S A s.heap s.heap [] := va_S.rf
  have hP : va_P G vwCl [] s.heap := hP
  have hl := lv_entry ([.int p0, .int 0, .int 99]) (n := 3) (Nat.le_of_ble_eq_true rfl)
  rw [lg_entry_eq]
  generalize (lg_sl ([.int p0, .int 0, .int 99]) ++ List.replicate (3 - (lg_sl ([.int p0, .int 0, .int 99])).length) Slot.unset).toArray = ls at hl ⊢
  have hl : lv_has ls 3 [(0, .int p0), (1, .int 0), (2, .int 99)] := hl
  refine lv_iload_n hx hb dX12_in_0 rfl (lv_at hl 0 rfl) ?_
  refine lv_iload_n hx hb dX12_in_1 rfl (lv_at hl 1 rfl) ?_
  refine lv_icmp_lt (tgt := 14) hx hb dX12_in_2 (by decide) (fun c1 => ?_) (fun c1 => ?_)
  · have c1 : p0.toInt < 0 := wLt rfl (by decide) c1
    refine lv_iconst (v := 0) hx hb dX12_in_14 (by decide) ?_
    have hP9 : va_P G vwCl [] _ := hP
    have hD9 : va_D A [] := hD
    exact W.zret (v := 0) (ty := .boolean) hx hb hr rfl (fun t ht hW => ⟨⟨0, _, rfl, Or.inl ⟨(by first | omega | decide | simp), rfl, rfl⟩, by rw [ht]; exact hP9, hD9⟩, hS.F ht⟩) hS.2.2 dX12_in_15
  · have c1 : p0.toInt ≥ 0 := wNlt rfl (by decide) c1
    refine lv_iload_n hx hb dX12_in_5 rfl (lv_at hl 0 rfl) ?_
    refine lv_iload_n hx hb dX12_in_6 rfl (lv_at hl 2 rfl) ?_
    refine lv_icmp_gt (tgt := 14) hx hb dX12_in_7 (by decide) (fun c2 => ?_) (fun c2 => ?_)
    · have c2 : 99 < p0.toInt := wLt (by decide) rfl c2
      refine lv_iconst (v := 0) hx hb dX12_in_14 (by decide) ?_
      have hP9 : va_P G vwCl [] _ := hP
      have hD9 : va_D A [] := hD
      exact W.zret (v := 0) (ty := .boolean) hx hb hr rfl (fun t ht hW => ⟨⟨0, _, rfl, Or.inl ⟨(by first | omega | decide | simp), rfl, rfl⟩, by rw [ht]; exact hP9, hD9⟩, hS.F ht⟩) hS.2.2 dX12_in_15
    · have c2 : 99 ≥ p0.toInt := wNlt (by decide) rfl c2
      refine lv_iconst (v := 1) hx hb dX12_in_10 (by decide) ?_
      refine lv_goto (tgt := 15) hx hb dX12_in_11 (by decide) ?_
      have hP9 : va_P G vwCl [] _ := hP
      have hD9 : va_D A [] := hD
      exact W.zret (v := 1) (ty := .boolean) hx hb hr rfl (fun t ht hW => ⟨⟨1, _, rfl, Or.inr (⟨(by first | omega | decide | simp), rfl, rfl⟩), by rw [ht]; exact hP9, hD9⟩, hS.F ht⟩) hS.2.2 dX12_in_15
def e_X11_reason_5 : List Cond := [.initialized RX12, .static yX12_in, .fieldLink RX11 115 "MotionFloorModel$Hall" "pending" "I"]
def v_X11_reason_5 : List Cond := .code yX11_reason cX11_reason 6 (some .int) :: (e_X11_reason_5 ++ (wsX110 ++ (v_X12_in_7 ++ [])))
theorem te_X11_reason_5 : GoodIn lw_tbl e_X11_reason_5 := wGc z574 (wGc z575 (wGc z543 (wG0)))
theorem t_X11_reason_5 : GoodIn lw_tbl v_X11_reason_5 := wGc z582 (wGa te_X11_reason_5 (wGa zcX11 (wGa t_X12_in_7 (wG0))))
set_option maxHeartbeats 4000000 in
set_option maxRecDepth 100000 in
theorem m_X11_reason_5 (l : Launch) (G : va_G) (K : Nat → ClassId) (h0 h1 h2 h3 h4 h5 h6 h7 h8 h9 h10 h11 h12 h13 h14 h15 h16 h17 h18 h19 h20 h21 h22 h23 h24 h25 h26 h27 : Nat) (p0 : Int32) (sz : Nat) : Met l yX11_reason v_X11_reason_5 ({ frames := 1, cells := 0, slots := 0, locals := 22 }) (va_Pc [.ref h0, .int 6, .int p0, .int 0, .int 0, .int 0] (wS G K sz [(h0, .inr (8, [.int 1, .int 0, .int (-1), .int 0, .int 0, .int (-1), .int 0, .int 0, .int 0, .int 0, .int 0, .ref h1, .ref h2, .ref h3, .ref h4, .ref h5, .ref h6, .ref h7, .ref h8, .ref h9, .ref h10, .ref h11, .ref h12, .ref h13, .ref h14, .ref h15, .ref h16, .ref h17, .ref h18, .ref h19, .int 0, .ref h20, .ref h21, .ref h22, .ref h23, .int 0, .int 0, .ref h24, .ref h25, .int (-1), .ref h26, .ref h27]))])) (va_Qi (fun (r : Int32) (u : va_W) => (((p0.toInt < 0 ∨ (p0.toInt ≥ 0 ∧ p0.toInt > 99))) ∧ r = 9 ∧ u = [(h0, .inr (8, [.int 1, .int 0, .int (-1), .int 0, .int 0, .int (-1), .int 0, .int 0, .int 0, .int 0, .int 0, .ref h1, .ref h2, .ref h3, .ref h4, .ref h5, .ref h6, .ref h7, .ref h8, .ref h9, .ref h10, .ref h11, .ref h12, .ref h13, .ref h14, .ref h15, .ref h16, .ref h17, .ref h18, .ref h19, .int 0, .ref h20, .ref h21, .ref h22, .ref h23, .int 0, .int 0, .ref h24, .ref h25, .int (-1), .ref h26, .ref h27]))]) ∨ ((((p0.toInt ≥ 0 ∧ p0.toInt ≤ 99))) ∧ r = 0 ∧ u = [(h0, .inr (8, [.int 1, .int 0, .int (-1), .int 0, .int 0, .int (-1), .int 0, .int 0, .int 0, .int 0, .int 0, .ref h1, .ref h2, .ref h3, .ref h4, .ref h5, .ref h6, .ref h7, .ref h8, .ref h9, .ref h10, .ref h11, .ref h12, .ref h13, .ref h14, .ref h15, .ref h16, .ref h17, .ref h18, .ref h19, .int 0, .ref h20, .ref h21, .ref h22, .ref h23, .int 0, .int 0, .ref h24, .ref h25, .int (-1), .ref h26, .ref h27]))])) (wB G (va_A [(h0, .inr (8, [.int 1, .int 0, .int (-1), .int 0, .int 0, .int (-1), .int 0, .int 0, .int 0, .int 0, .int 0, .ref h1, .ref h2, .ref h3, .ref h4, .ref h5, .ref h6, .ref h7, .ref h8, .ref h9, .ref h10, .ref h11, .ref h12, .ref h13, .ref h14, .ref h15, .ref h16, .ref h17, .ref h18, .ref h19, .int 0, .ref h20, .ref h21, .ref h22, .ref h23, .int 0, .int 0, .ref h24, .ref h25, .int (-1), .ref h26, .ref h27]))] sz)) (va_A [(h0, .inr (8, [.int 1, .int 0, .int (-1), .int 0, .int 0, .int (-1), .int 0, .int 0, .int 0, .int 0, .int 0, .ref h1, .ref h2, .ref h3, .ref h4, .ref h5, .ref h6, .ref h7, .ref h8, .ref h9, .ref h10, .ref h11, .ref h12, .ref h13, .ref h14, .ref h15, .ref h16, .ref h17, .ref h18, .ref h19, .int 0, .ref h20, .ref h21, .ref h22, .ref h23, .int 0, .int 0, .ref h24, .ref h25, .int (-1), .ref h26, .ref h27]))] sz)) 0 0 (va_A [(h0, .inr (8, [.int 1, .int 0, .int (-1), .int 0, .int 0, .int (-1), .int 0, .int 0, .int 0, .int 0, .int 0, .ref h1, .ref h2, .ref h3, .ref h4, .ref h5, .ref h6, .ref h7, .ref h8, .ref h9, .ref h10, .ref h11, .ref h12, .ref h13, .ref h14, .ref h15, .ref h16, .ref h17, .ref h18, .ref h19, .int 0, .ref h20, .ref h21, .ref h22, .ref h23, .int 0, .int 0, .ref h24, .ref h25, .int (-1), .ref h26, .ref h27]))] sz) := by
  refine Met.ofW (cc := cX11_reason) (maxL := 6) (ret := (some .int)) (by decide) rfl ?_
  intro p e s m args below meth c s₁ B hml hv
  obtain ⟨rfl, hsz, hP, hK, hD0, hE⟩ := hv
  have hx := B.exec
  have hb := B.bytes
  have hr := B.returns
  have hts := atoms_spec (ws := v_X11_reason_5) B.pre
  have t_ := t_X11_reason_5
  have mw : ∀ w ∈ e_X11_reason_5, w ∈ v_X11_reason_5 := fun w h => List.mem_cons_of_mem _ (List.mem_append_left _ h)
  have hw := fun w (h : w ∈ e_X11_reason_5) => hts w (mw w h)
  have iX11 : ∀ w ∈ wsX110, w ∈ v_X11_reason_5 := fun w h => List.mem_cons_of_mem _ (List.mem_append_right _ (List.mem_append_left _ h))
  have j_X12_in_7 : ∀ w ∈ v_X12_in_7, w ∈ v_X11_reason_5 := fun w h => List.mem_cons_of_mem _ (List.mem_append_right _ (List.mem_append_right _ (List.mem_append_left _ h)))
  have hown : s.vm.findClass RX11 = some m.cls := findClass_of_methodNamed B.named
  have hlocks := B.notSynchronized
  subst hsz
  have hD := hD0.self (sz := s.heap.size)
  generalize hAe : va_A [(h0, .inr (8, [.int 1, .int 0, .int (-1), .int 0, .int 0, .int (-1), .int 0, .int 0, .int 0, .int 0, .int 0, .ref h1, .ref h2, .ref h3, .ref h4, .ref h5, .ref h6, .ref h7, .ref h8, .ref h9, .ref h10, .ref h11, .ref h12, .ref h13, .ref h14, .ref h15, .ref h16, .ref h17, .ref h18, .ref h19, .int 0, .ref h20, .ref h21, .ref h22, .ref h23, .int 0, .int 0, .ref h24, .ref h25, .int (-1), .ref h26, .ref h27]))] s.heap.size = A at hD ⊢
  have hA : ∀ q : Nat, s.heap.size ≤ q → A q := fun q h => by rw [← hAe]; exact Or.inr h
  have hS : va_S A s.heap s.heap [] := va_S.rf
  have hP : va_P G vwCl [(h0, .inr (8, [.int 1, .int 0, .int (-1), .int 0, .int 0, .int (-1), .int 0, .int 0, .int 0, .int 0, .int 0, .ref h1, .ref h2, .ref h3, .ref h4, .ref h5, .ref h6, .ref h7, .ref h8, .ref h9, .ref h10, .ref h11, .ref h12, .ref h13, .ref h14, .ref h15, .ref h16, .ref h17, .ref h18, .ref h19, .int 0, .ref h20, .ref h21, .ref h22, .ref h23, .int 0, .int 0, .ref h24, .ref h25, .int (-1), .ref h26, .ref h27]))] s.heap := hP
  have hl := lv_entry ([.ref h0, .int 6, .int p0, .int 0, .int 0, .int 0]) (n := 6) (Nat.le_of_ble_eq_true rfl)
  rw [lg_entry_eq]
  generalize (lg_sl ([.ref h0, .int 6, .int p0, .int 0, .int 0, .int 0]) ++ List.replicate (6 - (lg_sl ([.ref h0, .int 6, .int p0, .int 0, .int 0, .int 0])).length) Slot.unset).toArray = ls at hl ⊢
  have hl : lv_has ls 6 [(0, .ref h0), (1, .int 6), (2, .int p0), (3, .int 0), (4, .int 0), (5, .int 0)] := hl
  refine lv_iload_n hx hb dX11_reason_0 rfl (lv_at hl 1 rfl) ?_
  refine lv_tableIn (tgt := 226) hx hb dX11_reason_1 (by decide) (by decide) (by decide) (by decide) ?_
  refine lv_iload_n hx hb dX11_reason_226 rfl (lv_at hl 2 rfl) ?_
  refine lv_iconst (v := 0) hx hb dX11_reason_227 (by decide) ?_
  refine lv_bipush (v := 99) hx hb dX11_reason_228 (by decide) ?_
  have hPc := hP.sub (ws' := []) [] rfl
  have hDc := hD.sub (ws' := []) [] (by decide) rfl
  refine wGoi (wc := []) (wr := [(h0, .inr (8, [.int 1, .int 0, .int (-1), .int 0, .int 0, .int (-1), .int 0, .int 0, .int 0, .int 0, .int 0, .ref h1, .ref h2, .ref h3, .ref h4, .ref h5, .ref h6, .ref h7, .ref h8, .ref h9, .ref h10, .ref h11, .ref h12, .ref h13, .ref h14, .ref h15, .ref h16, .ref h17, .ref h18, .ref h19, .int 0, .ref h20, .ref h21, .ref h22, .ref h23, .int 0, .int 0, .ref h24, .ref h25, .int (-1), .ref h26, .ref h27]))]) (va_runSN (As := [.int p0, .int 0, .int 99]) (rest := []) ⟨hx, hb, hml, hown, hts⟩ (m_X12_in_7 l G K p0 _) ⟨va_cnB (host := "MotionFloorModel") 3 hts (wGP t_ j_X12_in_7) rfl rfl rfl hE.2.2.2.2.2.2.2.2.2.1 (hw (.initialized RX12) (List.mem_of_getElem? (i := 0) rfl)) (by decide +kernel) ⟨Nat.le_of_ble_eq_true rfl, Nat.le_of_ble_eq_true rfl⟩, (hw (.static yX12_in) (List.mem_of_getElem? (i := 1) rfl)), trivial⟩ (wPS hK hE hPc hDc) rfl rfl hl.1 rfl (lv_room (Nat.le_of_ble_eq_true rfl)) dX11_reason_230 ⟨Nat.le_of_ble_eq_true rfl, Nat.le_of_ble_eq_true rfl⟩) hP hD hS hA [] [0] rfl rfl rfl (by decide) (fun r u H locs hw hP hD hS => ?_)
  rcases hw with ⟨c_w, rfl, rfl⟩ | ⟨c_w, rfl, rfl⟩
  · have c1 := c_w
    have hP : va_P G vwCl [(h0, .inr (8, [.int 1, .int 0, .int (-1), .int 0, .int 0, .int (-1), .int 0, .int 0, .int 0, .int 0, .int 0, .ref h1, .ref h2, .ref h3, .ref h4, .ref h5, .ref h6, .ref h7, .ref h8, .ref h9, .ref h10, .ref h11, .ref h12, .ref h13, .ref h14, .ref h15, .ref h16, .ref h17, .ref h18, .ref h19, .int 0, .ref h20, .ref h21, .ref h22, .ref h23, .int 0, .int 0, .ref h24, .ref h25, .int (-1), .ref h26, .ref h27]))] _ := hP
    have hD : va_D A [(h0, .inr (8, [.int 1, .int 0, .int (-1), .int 0, .int 0, .int (-1), .int 0, .int 0, .int 0, .int 0, .int 0, .ref h1, .ref h2, .ref h3, .ref h4, .ref h5, .ref h6, .ref h7, .ref h8, .ref h9, .ref h10, .ref h11, .ref h12, .ref h13, .ref h14, .ref h15, .ref h16, .ref h17, .ref h18, .ref h19, .int 0, .ref h20, .ref h21, .ref h22, .ref h23, .int 0, .int 0, .ref h24, .ref h25, .int (-1), .ref h26, .ref h27]))] := hD
    refine lv_if_ne (tgt := 241) hx hb dX11_reason_233 (by decide) (fun c_ => absurd c_ (by decide)) (fun _ => ?_)
    refine lv_bipush (v := 9) hx hb dX11_reason_236 (by decide) ?_
    refine lv_goto (tgt := 254) hx hb dX11_reason_238 (by decide) ?_
    have hP9 : va_P G vwCl [(h0, .inr (8, [.int 1, .int 0, .int (-1), .int 0, .int 0, .int (-1), .int 0, .int 0, .int 0, .int 0, .int 0, .ref h1, .ref h2, .ref h3, .ref h4, .ref h5, .ref h6, .ref h7, .ref h8, .ref h9, .ref h10, .ref h11, .ref h12, .ref h13, .ref h14, .ref h15, .ref h16, .ref h17, .ref h18, .ref h19, .int 0, .ref h20, .ref h21, .ref h22, .ref h23, .int 0, .int 0, .ref h24, .ref h25, .int (-1), .ref h26, .ref h27]))] _ := hP
    have hD9 : va_D A [(h0, .inr (8, [.int 1, .int 0, .int (-1), .int 0, .int 0, .int (-1), .int 0, .int 0, .int 0, .int 0, .int 0, .ref h1, .ref h2, .ref h3, .ref h4, .ref h5, .ref h6, .ref h7, .ref h8, .ref h9, .ref h10, .ref h11, .ref h12, .ref h13, .ref h14, .ref h15, .ref h16, .ref h17, .ref h18, .ref h19, .int 0, .ref h20, .ref h21, .ref h22, .ref h23, .int 0, .int 0, .ref h24, .ref h25, .int (-1), .ref h26, .ref h27]))] := hD
    exact W.iret (v := 9) hx hb hr (fun t ht hW => ⟨⟨9, _, rfl, Or.inl ⟨(by first | omega | decide | simp), rfl, rfl⟩, by rw [ht]; exact hP9, hD9⟩, hS.F ht⟩) hS.2.2 dX11_reason_254
  · have c2 := c_w
    have hP : va_P G vwCl [(h0, .inr (8, [.int 1, .int 0, .int (-1), .int 0, .int 0, .int (-1), .int 0, .int 0, .int 0, .int 0, .int 0, .ref h1, .ref h2, .ref h3, .ref h4, .ref h5, .ref h6, .ref h7, .ref h8, .ref h9, .ref h10, .ref h11, .ref h12, .ref h13, .ref h14, .ref h15, .ref h16, .ref h17, .ref h18, .ref h19, .int 0, .ref h20, .ref h21, .ref h22, .ref h23, .int 0, .int 0, .ref h24, .ref h25, .int (-1), .ref h26, .ref h27]))] _ := hP
    have hD : va_D A [(h0, .inr (8, [.int 1, .int 0, .int (-1), .int 0, .int 0, .int (-1), .int 0, .int 0, .int 0, .int 0, .int 0, .ref h1, .ref h2, .ref h3, .ref h4, .ref h5, .ref h6, .ref h7, .ref h8, .ref h9, .ref h10, .ref h11, .ref h12, .ref h13, .ref h14, .ref h15, .ref h16, .ref h17, .ref h18, .ref h19, .int 0, .ref h20, .ref h21, .ref h22, .ref h23, .int 0, .int 0, .ref h24, .ref h25, .int (-1), .ref h26, .ref h27]))] := hD
    refine lv_if_ne (tgt := 241) hx hb dX11_reason_233 (by decide) (fun _ => ?_) (fun c_ => absurd c_ (by decide))
    refine lv_aload_n hx hb dX11_reason_241 rfl (lv_at hl 0 rfl) ?_
    refine va_get (D := G) (ci := 8) (v := .int 0) (C := RX11) (T := TX11) (N := 42) hx hb hts iX11 hown hK hP 0 rfl rfl 6 (by decide) (hw (.fieldLink RX11 115 "MotionFloorModel$Hall" "pending" "I") (List.mem_of_getElem? (i := 2) rfl)) (fun _ h9 => h9) rfl dX11_reason_242 ?_
    refine lv_if_le (tgt := 253) hx hb dX11_reason_245 (by decide) (fun _ => ?_) (fun c_ => absurd c_ (by decide))
    refine lv_iconst (v := 0) hx hb dX11_reason_253 (by decide) ?_
    have hP9 : va_P G vwCl [(h0, .inr (8, [.int 1, .int 0, .int (-1), .int 0, .int 0, .int (-1), .int 0, .int 0, .int 0, .int 0, .int 0, .ref h1, .ref h2, .ref h3, .ref h4, .ref h5, .ref h6, .ref h7, .ref h8, .ref h9, .ref h10, .ref h11, .ref h12, .ref h13, .ref h14, .ref h15, .ref h16, .ref h17, .ref h18, .ref h19, .int 0, .ref h20, .ref h21, .ref h22, .ref h23, .int 0, .int 0, .ref h24, .ref h25, .int (-1), .ref h26, .ref h27]))] _ := hP
    have hD9 : va_D A [(h0, .inr (8, [.int 1, .int 0, .int (-1), .int 0, .int 0, .int (-1), .int 0, .int 0, .int 0, .int 0, .int 0, .ref h1, .ref h2, .ref h3, .ref h4, .ref h5, .ref h6, .ref h7, .ref h8, .ref h9, .ref h10, .ref h11, .ref h12, .ref h13, .ref h14, .ref h15, .ref h16, .ref h17, .ref h18, .ref h19, .int 0, .ref h20, .ref h21, .ref h22, .ref h23, .int 0, .int 0, .ref h24, .ref h25, .int (-1), .ref h26, .ref h27]))] := hD
    exact W.iret (v := 0) hx hb hr (fun t ht hW => ⟨⟨0, _, rfl, Or.inr (⟨(by first | omega | decide | simp), rfl, rfl⟩), by rw [ht]; exact hP9, hD9⟩, hS.F ht⟩) hS.2.2 dX11_reason_254
def e_X11_does_3 : List Cond := [.fieldLink RX11 109 "MotionFloorModel$Hall" "limit" "I"]
def v_X11_does_3 : List Cond := .code yX11_does cX11_does 7 (some .int) :: (e_X11_does_3 ++ (wsX110 ++ []))
theorem te_X11_does_3 : GoodIn lw_tbl e_X11_does_3 := wGc z545 (wG0)
theorem t_X11_does_3 : GoodIn lw_tbl v_X11_does_3 := wGc z583 (wGa te_X11_does_3 (wGa zcX11 (wG0)))
set_option maxHeartbeats 4000000 in
set_option maxRecDepth 100000 in
theorem m_X11_does_3 (l : Launch) (G : va_G) (K : Nat → ClassId) (h0 h1 h2 h3 h4 h5 h6 h7 h8 h9 h10 h11 h12 h13 h14 h15 h16 h17 h18 h19 h20 h21 h22 h23 h24 h25 h26 h27 : Nat) (p0 : Int32) (sz : Nat) (bp0 : 0 ≤ p0.toInt ∧ p0.toInt ≤ 99) : Met l yX11_does v_X11_does_3 ({ frames := 0, cells := 0, slots := 0, locals := 0 }) (va_Pc [.ref h0, .int 6, .int p0, .int 0, .int 0, .int 0] (wS G K sz [(h0, .inr (8, [.int 1, .int 0, .int (-1), .int 0, .int 0, .int (-1), .int 0, .int 0, .int 0, .int 0, .int 0, .ref h1, .ref h2, .ref h3, .ref h4, .ref h5, .ref h6, .ref h7, .ref h8, .ref h9, .ref h10, .ref h11, .ref h12, .ref h13, .ref h14, .ref h15, .ref h16, .ref h17, .ref h18, .ref h19, .int 0, .ref h20, .ref h21, .ref h22, .ref h23, .int 0, .int 0, .ref h24, .ref h25, .int (-1), .ref h26, .ref h27]))])) (va_Qi (fun (r : Int32) (u : va_W) => (r = p0 ∧ u = [(h0, .inr (8, [.int 1, .int 0, .int (-1), .int 0, .int p0, .int (-1), .int 0, .int 0, .int 0, .int 0, .int 0, .ref h1, .ref h2, .ref h3, .ref h4, .ref h5, .ref h6, .ref h7, .ref h8, .ref h9, .ref h10, .ref h11, .ref h12, .ref h13, .ref h14, .ref h15, .ref h16, .ref h17, .ref h18, .ref h19, .int 0, .ref h20, .ref h21, .ref h22, .ref h23, .int 0, .int 0, .ref h24, .ref h25, .int (-1), .ref h26, .ref h27]))])) (wB G (va_A [(h0, .inr (8, [.int 1, .int 0, .int (-1), .int 0, .int 0, .int (-1), .int 0, .int 0, .int 0, .int 0, .int 0, .ref h1, .ref h2, .ref h3, .ref h4, .ref h5, .ref h6, .ref h7, .ref h8, .ref h9, .ref h10, .ref h11, .ref h12, .ref h13, .ref h14, .ref h15, .ref h16, .ref h17, .ref h18, .ref h19, .int 0, .ref h20, .ref h21, .ref h22, .ref h23, .int 0, .int 0, .ref h24, .ref h25, .int (-1), .ref h26, .ref h27]))] sz)) (va_A [(h0, .inr (8, [.int 1, .int 0, .int (-1), .int 0, .int 0, .int (-1), .int 0, .int 0, .int 0, .int 0, .int 0, .ref h1, .ref h2, .ref h3, .ref h4, .ref h5, .ref h6, .ref h7, .ref h8, .ref h9, .ref h10, .ref h11, .ref h12, .ref h13, .ref h14, .ref h15, .ref h16, .ref h17, .ref h18, .ref h19, .int 0, .ref h20, .ref h21, .ref h22, .ref h23, .int 0, .int 0, .ref h24, .ref h25, .int (-1), .ref h26, .ref h27]))] sz)) 0 0 (va_A [(h0, .inr (8, [.int 1, .int 0, .int (-1), .int 0, .int 0, .int (-1), .int 0, .int 0, .int 0, .int 0, .int 0, .ref h1, .ref h2, .ref h3, .ref h4, .ref h5, .ref h6, .ref h7, .ref h8, .ref h9, .ref h10, .ref h11, .ref h12, .ref h13, .ref h14, .ref h15, .ref h16, .ref h17, .ref h18, .ref h19, .int 0, .ref h20, .ref h21, .ref h22, .ref h23, .int 0, .int 0, .ref h24, .ref h25, .int (-1), .ref h26, .ref h27]))] sz) := by
  refine Met.ofW (cc := cX11_does) (maxL := 7) (ret := (some .int)) (by decide) rfl ?_
  intro p e s m args below meth c s₁ B hml hv
  obtain ⟨rfl, hsz, hP, hK, hD0, hE⟩ := hv
  have hx := B.exec
  have hb := B.bytes
  have hr := B.returns
  have hts := atoms_spec (ws := v_X11_does_3) B.pre
  have t_ := t_X11_does_3
  have mw : ∀ w ∈ e_X11_does_3, w ∈ v_X11_does_3 := fun w h => List.mem_cons_of_mem _ (List.mem_append_left _ h)
  have hw := fun w (h : w ∈ e_X11_does_3) => hts w (mw w h)
  have iX11 : ∀ w ∈ wsX110, w ∈ v_X11_does_3 := fun w h => List.mem_cons_of_mem _ (List.mem_append_right _ (List.mem_append_left _ h))
  have hown : s.vm.findClass RX11 = some m.cls := findClass_of_methodNamed B.named
  have hlocks := B.notSynchronized
  subst hsz
  have hD := hD0.self (sz := s.heap.size)
  generalize hAe : va_A [(h0, .inr (8, [.int 1, .int 0, .int (-1), .int 0, .int 0, .int (-1), .int 0, .int 0, .int 0, .int 0, .int 0, .ref h1, .ref h2, .ref h3, .ref h4, .ref h5, .ref h6, .ref h7, .ref h8, .ref h9, .ref h10, .ref h11, .ref h12, .ref h13, .ref h14, .ref h15, .ref h16, .ref h17, .ref h18, .ref h19, .int 0, .ref h20, .ref h21, .ref h22, .ref h23, .int 0, .int 0, .ref h24, .ref h25, .int (-1), .ref h26, .ref h27]))] s.heap.size = A at hD ⊢
  have hA : ∀ q : Nat, s.heap.size ≤ q → A q := fun q h => by rw [← hAe]; exact Or.inr h
  have hS : va_S A s.heap s.heap [] := va_S.rf
  have hP : va_P G vwCl [(h0, .inr (8, [.int 1, .int 0, .int (-1), .int 0, .int 0, .int (-1), .int 0, .int 0, .int 0, .int 0, .int 0, .ref h1, .ref h2, .ref h3, .ref h4, .ref h5, .ref h6, .ref h7, .ref h8, .ref h9, .ref h10, .ref h11, .ref h12, .ref h13, .ref h14, .ref h15, .ref h16, .ref h17, .ref h18, .ref h19, .int 0, .ref h20, .ref h21, .ref h22, .ref h23, .int 0, .int 0, .ref h24, .ref h25, .int (-1), .ref h26, .ref h27]))] s.heap := hP
  have hl := lv_entry ([.ref h0, .int 6, .int p0, .int 0, .int 0, .int 0]) (n := 7) (Nat.le_of_ble_eq_true rfl)
  rw [lg_entry_eq]
  generalize (lg_sl ([.ref h0, .int 6, .int p0, .int 0, .int 0, .int 0]) ++ List.replicate (7 - (lg_sl ([.ref h0, .int 6, .int p0, .int 0, .int 0, .int 0])).length) Slot.unset).toArray = ls at hl ⊢
  have hl : lv_has ls 7 [(0, .ref h0), (1, .int 6), (2, .int p0), (3, .int 0), (4, .int 0), (5, .int 0)] := hl
  refine lv_iload_n hx hb dX11_does_0 rfl (lv_at hl 1 rfl) ?_
  refine lv_tableIn (tgt := 202) hx hb dX11_does_1 (by decide) (by decide) (by decide) (by decide) ?_
  refine lv_aload_n hx hb dX11_does_202 rfl (lv_at hl 0 rfl) ?_
  refine lv_iload_n hx hb dX11_does_203 rfl (lv_at hl 2 rfl) ?_
  refine va_put (D := G) (ci := 8) (v := .int p0) (ty := .int) (C := RX11) (T := TX11) (N := 42) hx hb hts iX11 tyX11 tyX11_ok nmX11 hown hK hP hD hS 0 rfl rfl 4 (by decide) (hw (.fieldLink RX11 109 "MotionFloorModel$Hall" "limit" "I") (List.mem_of_getElem? (i := 0) rfl)) (fun _ h9 => h9) rfl (by decide +kernel) rfl rfl (Nat.le_of_ble_eq_true rfl) dX11_does_204 (fun H locs hP hD hS => ?_)
  have hP : va_P G vwCl [(h0, .inr (8, [.int 1, .int 0, .int (-1), .int 0, .int p0, .int (-1), .int 0, .int 0, .int 0, .int 0, .int 0, .ref h1, .ref h2, .ref h3, .ref h4, .ref h5, .ref h6, .ref h7, .ref h8, .ref h9, .ref h10, .ref h11, .ref h12, .ref h13, .ref h14, .ref h15, .ref h16, .ref h17, .ref h18, .ref h19, .int 0, .ref h20, .ref h21, .ref h22, .ref h23, .int 0, .int 0, .ref h24, .ref h25, .int (-1), .ref h26, .ref h27]))] _ := hP
  have hD : va_D A [(h0, .inr (8, [.int 1, .int 0, .int (-1), .int 0, .int p0, .int (-1), .int 0, .int 0, .int 0, .int 0, .int 0, .ref h1, .ref h2, .ref h3, .ref h4, .ref h5, .ref h6, .ref h7, .ref h8, .ref h9, .ref h10, .ref h11, .ref h12, .ref h13, .ref h14, .ref h15, .ref h16, .ref h17, .ref h18, .ref h19, .int 0, .ref h20, .ref h21, .ref h22, .ref h23, .int 0, .int 0, .ref h24, .ref h25, .int (-1), .ref h26, .ref h27]))] := hD
  refine lv_iload_n hx hb dX11_does_207 rfl (lv_at hl 2 rfl) ?_
  have hP9 : va_P G vwCl [(h0, .inr (8, [.int 1, .int 0, .int (-1), .int 0, .int p0, .int (-1), .int 0, .int 0, .int 0, .int 0, .int 0, .ref h1, .ref h2, .ref h3, .ref h4, .ref h5, .ref h6, .ref h7, .ref h8, .ref h9, .ref h10, .ref h11, .ref h12, .ref h13, .ref h14, .ref h15, .ref h16, .ref h17, .ref h18, .ref h19, .int 0, .ref h20, .ref h21, .ref h22, .ref h23, .int 0, .int 0, .ref h24, .ref h25, .int (-1), .ref h26, .ref h27]))] _ := hP
  have hD9 : va_D A [(h0, .inr (8, [.int 1, .int 0, .int (-1), .int 0, .int p0, .int (-1), .int 0, .int 0, .int 0, .int 0, .int 0, .ref h1, .ref h2, .ref h3, .ref h4, .ref h5, .ref h6, .ref h7, .ref h8, .ref h9, .ref h10, .ref h11, .ref h12, .ref h13, .ref h14, .ref h15, .ref h16, .ref h17, .ref h18, .ref h19, .int 0, .ref h20, .ref h21, .ref h22, .ref h23, .int 0, .int 0, .ref h24, .ref h25, .int (-1), .ref h26, .ref h27]))] := hD
  exact W.iret (v := p0) hx hb hr (fun t ht hW => ⟨⟨p0, _, rfl, ⟨rfl, rfl⟩, by rw [ht]; exact hP9, hD9⟩, hS.F ht⟩) hS.2.2 dX11_does_208
def e_X12_in_8 : List Cond := []
def v_X12_in_8 : List Cond := .code yX12_in cX12_in 3 (some .boolean) :: (e_X12_in_8 ++ [])
theorem te_X12_in_8 : GoodIn lw_tbl e_X12_in_8 := wG0
theorem t_X12_in_8 : GoodIn lw_tbl v_X12_in_8 := wGc z573 (wGa te_X12_in_8 (wG0))
set_option maxHeartbeats 4000000 in
set_option maxRecDepth 100000 in
theorem m_X12_in_8 (l : Launch) (G : va_G) (K : Nat → ClassId) (sz : Nat) : Met l yX12_in v_X12_in_8 ({ frames := 0, cells := 0, slots := 0, locals := 0 }) (va_Pc [.int 6, .int 1, .int 22] (wS G K sz [])) (va_Qi (fun (r : Int32) (u : va_W) => (r = 1 ∧ u = [])) (wB G (va_A [] sz)) (va_A [] sz)) 0 0 (va_A [] sz) := by
  refine Met.ofW (cc := cX12_in) (maxL := 3) (ret := (some .boolean)) (by decide) rfl ?_
  intro p e s m args below meth c s₁ B hml hv
  obtain ⟨rfl, hsz, hP, hK, hD0, hE⟩ := hv
  have hx := B.exec
  have hb := B.bytes
  have hr := B.returns
  have hts := atoms_spec (ws := v_X12_in_8) B.pre
  have t_ := t_X12_in_8
  have mw : ∀ w ∈ e_X12_in_8, w ∈ v_X12_in_8 := fun w h => List.mem_cons_of_mem _ (List.mem_append_left _ h)
  have hw := fun w (h : w ∈ e_X12_in_8) => hts w (mw w h)
  have hown : s.vm.findClass RX12 = some m.cls := findClass_of_methodNamed B.named
  have hlocks := B.notSynchronized
  subst hsz
  have hD := hD0.self (sz := s.heap.size)
  generalize hAe : va_A [] s.heap.size = A at hD ⊢
  have hA : ∀ q : Nat, s.heap.size ≤ q → A q := fun q h => by rw [← hAe]; exact Or.inr h
  have hS : va_S A s.heap s.heap [] := va_S.rf
  have hP : va_P G vwCl [] s.heap := hP
  have hl := lv_entry ([.int 6, .int 1, .int 22]) (n := 3) (Nat.le_of_ble_eq_true rfl)
  rw [lg_entry_eq]
  generalize (lg_sl ([.int 6, .int 1, .int 22]) ++ List.replicate (3 - (lg_sl ([.int 6, .int 1, .int 22])).length) Slot.unset).toArray = ls at hl ⊢
  have hl : lv_has ls 3 [(0, .int 6), (1, .int 1), (2, .int 22)] := hl
  refine lv_iload_n hx hb dX12_in_0 rfl (lv_at hl 0 rfl) ?_
  refine lv_iload_n hx hb dX12_in_1 rfl (lv_at hl 1 rfl) ?_
  refine lv_icmp_lt (tgt := 14) hx hb dX12_in_2 (by decide) (fun c_ => absurd c_ (by decide)) (fun _ => ?_)
  refine lv_iload_n hx hb dX12_in_5 rfl (lv_at hl 0 rfl) ?_
  refine lv_iload_n hx hb dX12_in_6 rfl (lv_at hl 2 rfl) ?_
  refine lv_icmp_gt (tgt := 14) hx hb dX12_in_7 (by decide) (fun c_ => absurd c_ (by decide)) (fun _ => ?_)
  refine lv_iconst (v := 1) hx hb dX12_in_10 (by decide) ?_
  refine lv_goto (tgt := 15) hx hb dX12_in_11 (by decide) ?_
  have hP9 : va_P G vwCl [] _ := hP
  have hD9 : va_D A [] := hD
  exact W.zret (v := 1) (ty := .boolean) hx hb hr rfl (fun t ht hW => ⟨⟨1, _, rfl, ⟨rfl, rfl⟩, by rw [ht]; exact hP9, hD9⟩, hS.F ht⟩) hS.2.2 dX12_in_15
def e_X12_numbers_3 : List Cond := [.methodLink RX12 1 yX12_in, .static yX12_in, .initialized RX12]
def v_X12_numbers_3 : List Cond := .code yX12_numbers cX12_numbers 1 (some .int) :: (e_X12_numbers_3 ++ (v_X12_in_8 ++ []))
theorem te_X12_numbers_3 : GoodIn lw_tbl e_X12_numbers_3 := wGc z576 (wGc z575 (wGc z574 (wG0)))
theorem t_X12_numbers_3 : GoodIn lw_tbl v_X12_numbers_3 := wGc z584 (wGa te_X12_numbers_3 (wGa t_X12_in_8 (wG0)))
set_option maxHeartbeats 4000000 in
set_option maxRecDepth 100000 in
theorem m_X12_numbers_3 (l : Launch) (G : va_G) (K : Nat → ClassId) (sz : Nat) : Met l yX12_numbers v_X12_numbers_3 ({ frames := 1, cells := 0, slots := 0, locals := 22 }) (va_Pc [.int 6] (wS G K sz [])) (va_Qi (fun (r : Int32) (u : va_W) => (r = 1 ∧ u = [])) (wB G (va_A [] sz)) (va_A [] sz)) 0 0 (va_A [] sz) := by
  refine Met.ofW (cc := cX12_numbers) (maxL := 1) (ret := (some .int)) (by decide) rfl ?_
  intro p e s m args below meth c s₁ B hml hv
  obtain ⟨rfl, hsz, hP, hK, hD0, hE⟩ := hv
  have hx := B.exec
  have hb := B.bytes
  have hr := B.returns
  have hts := atoms_spec (ws := v_X12_numbers_3) B.pre
  have t_ := t_X12_numbers_3
  have mw : ∀ w ∈ e_X12_numbers_3, w ∈ v_X12_numbers_3 := fun w h => List.mem_cons_of_mem _ (List.mem_append_left _ h)
  have hw := fun w (h : w ∈ e_X12_numbers_3) => hts w (mw w h)
  have j_X12_in_8 : ∀ w ∈ v_X12_in_8, w ∈ v_X12_numbers_3 := fun w h => List.mem_cons_of_mem _ (List.mem_append_right _ (List.mem_append_left _ h))
  have hown : s.vm.findClass RX12 = some m.cls := findClass_of_methodNamed B.named
  have hlocks := B.notSynchronized
  subst hsz
  have hD := hD0.self (sz := s.heap.size)
  generalize hAe : va_A [] s.heap.size = A at hD ⊢
  have hA : ∀ q : Nat, s.heap.size ≤ q → A q := fun q h => by rw [← hAe]; exact Or.inr h
  have hS : va_S A s.heap s.heap [] := va_S.rf
  have hP : va_P G vwCl [] s.heap := hP
  have hl := lv_entry ([.int 6]) (n := 1) (Nat.le_of_ble_eq_true rfl)
  rw [lg_entry_eq]
  generalize (lg_sl ([.int 6]) ++ List.replicate (1 - (lg_sl ([.int 6])).length) Slot.unset).toArray = ls at hl ⊢
  have hl : lv_has ls 1 [(0, .int 6)] := hl
  refine lv_iload_n hx hb dX12_numbers_0 rfl (lv_at hl 0 rfl) ?_
  refine lv_tableIn (tgt := 94) hx hb dX12_numbers_1 (by decide) (by decide) (by decide) (by decide) ?_
  refine lv_iload_n hx hb dX12_numbers_94 rfl (lv_at hl 0 rfl) ?_
  refine lv_iconst (v := 1) hx hb dX12_numbers_95 (by decide) ?_
  refine lv_bipush (v := 22) hx hb dX12_numbers_96 (by decide) ?_
  have hPc := hP.sub (ws' := []) [] rfl
  have hDc := hD.sub (ws' := []) [] (by decide) rfl
  refine wGoi (wc := []) (wr := []) (va_runS (As := [.int 6, .int 1, .int 22]) (rest := []) ⟨hx, hb, hml, hown, hts⟩ (m_X12_in_8 l G K _) (va_cwS 3 hts (wGS t_ (mw (.methodLink RX12 1 yX12_in) (List.mem_of_getElem? (i := 0) rfl)) (mw (.static yX12_in) (List.mem_of_getElem? (i := 1) rfl)) (mw (.initialized RX12) (List.mem_of_getElem? (i := 2) rfl)) j_X12_in_8) rfl rfl rfl (by decide +kernel) ⟨Nat.le_of_ble_eq_true rfl, Nat.le_of_ble_eq_true rfl⟩) (wPS hK hE hPc hDc) rfl rfl hl.1 rfl (lv_room (Nat.le_of_ble_eq_true rfl)) dX12_numbers_98 ⟨Nat.le_of_ble_eq_true rfl, Nat.le_of_ble_eq_true rfl⟩) hP hD hS hA [] [] rfl rfl rfl (by decide) (fun r u H locs hw hP hD hS => ?_)
  rcases hw with ⟨rfl, rfl⟩
  have hP : va_P G vwCl [] _ := hP
  have hD : va_D A [] := hD
  refine lv_if_eq (tgt := 108) hx hb dX12_numbers_101 (by decide) (fun c_ => absurd c_ (by decide)) (fun _ => ?_)
  refine lv_iconst (v := 1) hx hb dX12_numbers_104 (by decide) ?_
  refine lv_goto (tgt := 109) hx hb dX12_numbers_105 (by decide) ?_
  have hP9 : va_P G vwCl [] _ := hP
  have hD9 : va_D A [] := hD
  exact W.iret (v := 1) hx hb hr (fun t ht hW => ⟨⟨1, _, rfl, ⟨rfl, rfl⟩, by rw [ht]; exact hP9, hD9⟩, hS.F ht⟩) hS.2.2 dX12_numbers_109
def e_X11_act_5 : List Cond := [.methodLink RX11 196 yX11_reason, .instanceMethod yX11_reason, .selects RX11 yX11_reason yX11_reason, .initialized RX11, .fieldLink RX11 127 "MotionFloorModel$Hall" "why" "I", .fieldLink RX11 118 "MotionFloorModel$Hall" "entries" "I", .methodLink RX11 200 yX11_does, .instanceMethod yX11_does, .selects RX11 yX11_does yX11_does, .initialized RX12, .static yX12_numbers, .fieldLink RX11 90 "MotionFloorModel$Hall" "minutes" "[I"]
def v_X11_act_5 : List Cond := .code yX11_act cX11_act 10 (some .int) :: (e_X11_act_5 ++ (wsX110 ++ (v_X11_reason_5 ++ (v_X11_does_3 ++ (v_X12_numbers_3 ++ [])))))
theorem te_X11_act_5 : GoodIn lw_tbl e_X11_act_5 := wGc z591 (wGc z590 (wGc z589 (wGc z568 (wGc z539 (wGc z542 (wGc z588 (wGc z587 (wGc z586 (wGc z574 (wGc z585 (wGc z508 (wG0))))))))))))
theorem t_X11_act_5 : GoodIn lw_tbl v_X11_act_5 := wGc z592 (wGa te_X11_act_5 (wGa zcX11 (wGa t_X11_reason_5 (wGa t_X11_does_3 (wGa t_X12_numbers_3 (wG0))))))
set_option maxHeartbeats 4000000 in
set_option maxRecDepth 100000 in
theorem m_X11_act_5 (l : Launch) (G : va_G) (K : Nat → ClassId) (h0 h1 h2 h3 h4 h5 h6 h7 h8 h9 h10 h11 h12 h13 h14 h15 h16 h17 h18 h19 h20 h21 h22 h23 h24 h25 h26 h27 : Nat) (p0 : Int32) (sz : Nat) : Met l yX11_act v_X11_act_5 ({ frames := 2, cells := 0, slots := 0, locals := 47 }) (va_Pc [.ref h0, .int 6, .int p0, .int 0, .int 0, .int 0] (wS G K sz [(h0, .inr (8, [.int 1, .int 0, .int (-1), .int 0, .int 0, .int (-1), .int 0, .int 0, .int 0, .int 0, .int 0, .ref h2, .ref h3, .ref h4, .ref h5, .ref h6, .ref h7, .ref h8, .ref h9, .ref h10, .ref h11, .ref h12, .ref h13, .ref h14, .ref h15, .ref h16, .ref h17, .ref h18, .ref h19, .ref h20, .int 0, .ref h21, .ref h22, .ref h23, .ref h24, .int 0, .int 0, .ref h25, .ref h26, .int (-1), .ref h1, .ref h27])), (h1, .inl (K 0, 3600, .inl (fun _ => 0)))])) (va_Qi (fun (r : Int32) (u : va_W) => ((((p0.toInt < 0 ∨ (p0.toInt ≥ 0 ∧ p0.toInt > 99)))) ∧ r = (-9) ∧ u = [(h0, .inr (8, [.int 1, .int 0, .int (-1), .int 0, .int 0, .int (-1), .int 0, .int 0, .int 0, .int 0, .int 9, .ref h2, .ref h3, .ref h4, .ref h5, .ref h6, .ref h7, .ref h8, .ref h9, .ref h10, .ref h11, .ref h12, .ref h13, .ref h14, .ref h15, .ref h16, .ref h17, .ref h18, .ref h19, .ref h20, .int 0, .ref h21, .ref h22, .ref h23, .ref h24, .int 0, .int 0, .ref h25, .ref h26, .int (-1), .ref h1, .ref h27])), (h1, .inl (K 0, 3600, .inl (fun _ => 0)))]) ∨ (((((p0.toInt ≥ 0 ∧ p0.toInt ≤ 99)))) ∧ r = p0 ∧ u = [(h0, .inr (8, [.int 1, .int 0, .int (-1), .int 0, .int p0, .int (-1), .int 0, .int 1, .int 0, .int 0, .int 0, .ref h2, .ref h3, .ref h4, .ref h5, .ref h6, .ref h7, .ref h8, .ref h9, .ref h10, .ref h11, .ref h12, .ref h13, .ref h14, .ref h15, .ref h16, .ref h17, .ref h18, .ref h19, .ref h20, .int 0, .ref h21, .ref h22, .ref h23, .ref h24, .int 0, .int 0, .ref h25, .ref h26, .int (-1), .ref h1, .ref h27])), (h1, .inl (K 0, 3600, .inl (upd (upd (upd (upd (upd (upd (fun _ => 0) 0 6) 1 p0) 2 0) 3 0) 4 0) 5 p0)))])) (wB G (va_A [(h0, .inr (8, [.int 1, .int 0, .int (-1), .int 0, .int 0, .int (-1), .int 0, .int 0, .int 0, .int 0, .int 0, .ref h2, .ref h3, .ref h4, .ref h5, .ref h6, .ref h7, .ref h8, .ref h9, .ref h10, .ref h11, .ref h12, .ref h13, .ref h14, .ref h15, .ref h16, .ref h17, .ref h18, .ref h19, .ref h20, .int 0, .ref h21, .ref h22, .ref h23, .ref h24, .int 0, .int 0, .ref h25, .ref h26, .int (-1), .ref h1, .ref h27])), (h1, .inl (K 0, 3600, .inl (fun _ => 0)))] sz)) (va_A [(h0, .inr (8, [.int 1, .int 0, .int (-1), .int 0, .int 0, .int (-1), .int 0, .int 0, .int 0, .int 0, .int 0, .ref h2, .ref h3, .ref h4, .ref h5, .ref h6, .ref h7, .ref h8, .ref h9, .ref h10, .ref h11, .ref h12, .ref h13, .ref h14, .ref h15, .ref h16, .ref h17, .ref h18, .ref h19, .ref h20, .int 0, .ref h21, .ref h22, .ref h23, .ref h24, .int 0, .int 0, .ref h25, .ref h26, .int (-1), .ref h1, .ref h27])), (h1, .inl (K 0, 3600, .inl (fun _ => 0)))] sz)) 0 0 (va_A [(h0, .inr (8, [.int 1, .int 0, .int (-1), .int 0, .int 0, .int (-1), .int 0, .int 0, .int 0, .int 0, .int 0, .ref h2, .ref h3, .ref h4, .ref h5, .ref h6, .ref h7, .ref h8, .ref h9, .ref h10, .ref h11, .ref h12, .ref h13, .ref h14, .ref h15, .ref h16, .ref h17, .ref h18, .ref h19, .ref h20, .int 0, .ref h21, .ref h22, .ref h23, .ref h24, .int 0, .int 0, .ref h25, .ref h26, .int (-1), .ref h1, .ref h27])), (h1, .inl (K 0, 3600, .inl (fun _ => 0)))] sz) := by
  refine Met.ofW (cc := cX11_act) (maxL := 10) (ret := (some .int)) (by decide) rfl ?_
  intro p e s m args below meth c s₁ B hml hv
  obtain ⟨rfl, hsz, hP, hK, hD0, hE⟩ := hv
  have hx := B.exec
  have hb := B.bytes
  have hr := B.returns
  have hts := atoms_spec (ws := v_X11_act_5) B.pre
  have t_ := t_X11_act_5
  have mw : ∀ w ∈ e_X11_act_5, w ∈ v_X11_act_5 := fun w h => List.mem_cons_of_mem _ (List.mem_append_left _ h)
  have hw := fun w (h : w ∈ e_X11_act_5) => hts w (mw w h)
  have iX11 : ∀ w ∈ wsX110, w ∈ v_X11_act_5 := fun w h => List.mem_cons_of_mem _ (List.mem_append_right _ (List.mem_append_left _ h))
  have j_X11_reason_5 : ∀ w ∈ v_X11_reason_5, w ∈ v_X11_act_5 := fun w h => List.mem_cons_of_mem _ (List.mem_append_right _ (List.mem_append_right _ (List.mem_append_left _ h)))
  have j_X11_does_3 : ∀ w ∈ v_X11_does_3, w ∈ v_X11_act_5 := fun w h => List.mem_cons_of_mem _ (List.mem_append_right _ (List.mem_append_right _ (List.mem_append_right _ (List.mem_append_left _ h))))
  have j_X12_numbers_3 : ∀ w ∈ v_X12_numbers_3, w ∈ v_X11_act_5 := fun w h => List.mem_cons_of_mem _ (List.mem_append_right _ (List.mem_append_right _ (List.mem_append_right _ (List.mem_append_right _ (List.mem_append_left _ h)))))
  have hown : s.vm.findClass RX11 = some m.cls := findClass_of_methodNamed B.named
  have hlocks := B.notSynchronized
  subst hsz
  have hD := hD0.self (sz := s.heap.size)
  generalize hAe : va_A [(h0, .inr (8, [.int 1, .int 0, .int (-1), .int 0, .int 0, .int (-1), .int 0, .int 0, .int 0, .int 0, .int 0, .ref h2, .ref h3, .ref h4, .ref h5, .ref h6, .ref h7, .ref h8, .ref h9, .ref h10, .ref h11, .ref h12, .ref h13, .ref h14, .ref h15, .ref h16, .ref h17, .ref h18, .ref h19, .ref h20, .int 0, .ref h21, .ref h22, .ref h23, .ref h24, .int 0, .int 0, .ref h25, .ref h26, .int (-1), .ref h1, .ref h27])), (h1, .inl (K 0, 3600, .inl (fun _ => 0)))] s.heap.size = A at hD ⊢
  have hA : ∀ q : Nat, s.heap.size ≤ q → A q := fun q h => by rw [← hAe]; exact Or.inr h
  have hS : va_S A s.heap s.heap [] := va_S.rf
  have hP : va_P G vwCl [(h0, .inr (8, [.int 1, .int 0, .int (-1), .int 0, .int 0, .int (-1), .int 0, .int 0, .int 0, .int 0, .int 0, .ref h2, .ref h3, .ref h4, .ref h5, .ref h6, .ref h7, .ref h8, .ref h9, .ref h10, .ref h11, .ref h12, .ref h13, .ref h14, .ref h15, .ref h16, .ref h17, .ref h18, .ref h19, .ref h20, .int 0, .ref h21, .ref h22, .ref h23, .ref h24, .int 0, .int 0, .ref h25, .ref h26, .int (-1), .ref h1, .ref h27])), (h1, .inl (K 0, 3600, .inl (fun _ => 0)))] s.heap := hP
  have hl := lv_entry ([.ref h0, .int 6, .int p0, .int 0, .int 0, .int 0]) (n := 10) (Nat.le_of_ble_eq_true rfl)
  rw [lg_entry_eq]
  generalize (lg_sl ([.ref h0, .int 6, .int p0, .int 0, .int 0, .int 0]) ++ List.replicate (10 - (lg_sl ([.ref h0, .int 6, .int p0, .int 0, .int 0, .int 0])).length) Slot.unset).toArray = ls at hl ⊢
  have hl : lv_has ls 10 [(0, .ref h0), (1, .int 6), (2, .int p0), (3, .int 0), (4, .int 0), (5, .int 0)] := hl
  refine lv_aload_n hx hb dX11_act_0 rfl (lv_at hl 0 rfl) ?_
  refine lv_iload_n hx hb dX11_act_1 rfl (lv_at hl 1 rfl) ?_
  refine lv_iload_n hx hb dX11_act_2 rfl (lv_at hl 2 rfl) ?_
  refine lv_iload_n hx hb dX11_act_3 rfl (lv_at hl 3 rfl) ?_
  refine lv_iload hx hb dX11_act_4 (lv_at hl 4 rfl) ?_
  refine lv_iload hx hb dX11_act_6 (lv_at hl 5 rfl) ?_
  have hPc := hP.sub (ws' := [(h0, .inr (8, [.int 1, .int 0, .int (-1), .int 0, .int 0, .int (-1), .int 0, .int 0, .int 0, .int 0, .int 0, .ref h2, .ref h3, .ref h4, .ref h5, .ref h6, .ref h7, .ref h8, .ref h9, .ref h10, .ref h11, .ref h12, .ref h13, .ref h14, .ref h15, .ref h16, .ref h17, .ref h18, .ref h19, .ref h20, .int 0, .ref h21, .ref h22, .ref h23, .ref h24, .int 0, .int 0, .ref h25, .ref h26, .int (-1), .ref h1, .ref h27]))]) [0] rfl
  have hDc := hD.sub (ws' := [(h0, .inr (8, [.int 1, .int 0, .int (-1), .int 0, .int 0, .int (-1), .int 0, .int 0, .int 0, .int 0, .int 0, .ref h2, .ref h3, .ref h4, .ref h5, .ref h6, .ref h7, .ref h8, .ref h9, .ref h10, .ref h11, .ref h12, .ref h13, .ref h14, .ref h15, .ref h16, .ref h17, .ref h18, .ref h19, .ref h20, .int 0, .ref h21, .ref h22, .ref h23, .ref h24, .int 0, .int 0, .ref h25, .ref h26, .int (-1), .ref h1, .ref h27]))]) [0] (by decide) rfl
  refine wGoi (wc := [(h0, .inr (8, [.int 1, .int 0, .int (-1), .int 0, .int 0, .int (-1), .int 0, .int 0, .int 0, .int 0, .int 0, .ref h2, .ref h3, .ref h4, .ref h5, .ref h6, .ref h7, .ref h8, .ref h9, .ref h10, .ref h11, .ref h12, .ref h13, .ref h14, .ref h15, .ref h16, .ref h17, .ref h18, .ref h19, .ref h20, .int 0, .ref h21, .ref h22, .ref h23, .ref h24, .int 0, .int 0, .ref h25, .ref h26, .int (-1), .ref h1, .ref h27]))]) (wr := [(h1, .inl (K 0, 3600, .inl (fun _ => 0)))]) (va_runV (As := [.int 6, .int p0, .int 0, .int 0, .int 0]) (rest := []) ⟨hx, hb, hml, hown, hts⟩ (m_X11_reason_5 l G K h0 h2 h3 h4 h5 h6 h7 h8 h9 h10 h11 h12 h13 h14 h15 h16 h17 h18 h19 h20 h21 h22 h23 h24 h25 h26 h1 h27 p0 _) (cwV 5 hts (wGV t_ (mw (.methodLink RX11 196 yX11_reason) (List.mem_of_getElem? (i := 0) rfl)) (mw (.instanceMethod yX11_reason) (List.mem_of_getElem? (i := 1) rfl)) (mw (.selects RX11 yX11_reason yX11_reason) (List.mem_of_getElem? (i := 2) rfl)) (mw (.initialized RX11) (List.mem_of_getElem? (i := 3) rfl)) j_X11_reason_5) rfl rfl rfl (by decide +kernel) ⟨Nat.le_of_ble_eq_true rfl, Nat.le_of_ble_eq_true rfl⟩) (wPV hK hE hPc hDc 8 0 rfl rfl) rfl rfl hl.1 rfl (lv_room (Nat.le_of_ble_eq_true rfl)) dX11_act_8 ⟨Nat.le_of_ble_eq_true rfl, Nat.le_of_ble_eq_true rfl⟩) hP hD hS hA [0] [1] rfl rfl rfl (by decide) (fun r u H locs hw hP hD hS => ?_)
  rcases hw with ⟨c_w, rfl, rfl⟩ | ⟨c_w, rfl, rfl⟩
  · have c1 := c_w
    have hP : va_P G vwCl [(h1, .inl (K 0, 3600, .inl (fun _ => 0))), (h0, .inr (8, [.int 1, .int 0, .int (-1), .int 0, .int 0, .int (-1), .int 0, .int 0, .int 0, .int 0, .int 0, .ref h2, .ref h3, .ref h4, .ref h5, .ref h6, .ref h7, .ref h8, .ref h9, .ref h10, .ref h11, .ref h12, .ref h13, .ref h14, .ref h15, .ref h16, .ref h17, .ref h18, .ref h19, .ref h20, .int 0, .ref h21, .ref h22, .ref h23, .ref h24, .int 0, .int 0, .ref h25, .ref h26, .int (-1), .ref h1, .ref h27]))] _ := hP
    have hD : va_D A [(h1, .inl (K 0, 3600, .inl (fun _ => 0))), (h0, .inr (8, [.int 1, .int 0, .int (-1), .int 0, .int 0, .int (-1), .int 0, .int 0, .int 0, .int 0, .int 0, .ref h2, .ref h3, .ref h4, .ref h5, .ref h6, .ref h7, .ref h8, .ref h9, .ref h10, .ref h11, .ref h12, .ref h13, .ref h14, .ref h15, .ref h16, .ref h17, .ref h18, .ref h19, .ref h20, .int 0, .ref h21, .ref h22, .ref h23, .ref h24, .int 0, .int 0, .ref h25, .ref h26, .int (-1), .ref h1, .ref h27]))] := hD
    refine lv_istore (lv' := [(6, .int 9), (0, .ref h0), (1, .int 6), (2, .int p0), (3, .int 0), (4, .int 0), (5, .int 0)]) hx hb dX11_act_11 hl (by decide) rfl (fun ls hl => ?_)
    refine lv_iload hx hb dX11_act_13 (lv_at hl 0 rfl) ?_
    refine lv_if_ne (tgt := 32) hx hb dX11_act_15 (by decide) (fun _ => ?_) (fun c_ => absurd c_ (by decide))
    refine lv_aload_n hx hb dX11_act_32 rfl (lv_at hl 1 rfl) ?_
    refine lv_iload hx hb dX11_act_33 (lv_at hl 0 rfl) ?_
    refine va_put (D := G) (ci := 8) (v := .int 9) (ty := .int) (C := RX11) (T := TX11) (N := 42) hx hb hts iX11 tyX11 tyX11_ok nmX11 hown hK hP hD hS 1 rfl rfl 10 (by decide) (hw (.fieldLink RX11 127 "MotionFloorModel$Hall" "why" "I") (List.mem_of_getElem? (i := 4) rfl)) (fun _ h9 => h9) rfl (by decide +kernel) rfl rfl (Nat.le_of_ble_eq_true rfl) dX11_act_35 (fun H locs hP hD hS => ?_)
    have hP : va_P G vwCl [(h1, .inl (K 0, 3600, .inl (fun _ => 0))), (h0, .inr (8, [.int 1, .int 0, .int (-1), .int 0, .int 0, .int (-1), .int 0, .int 0, .int 0, .int 0, .int 9, .ref h2, .ref h3, .ref h4, .ref h5, .ref h6, .ref h7, .ref h8, .ref h9, .ref h10, .ref h11, .ref h12, .ref h13, .ref h14, .ref h15, .ref h16, .ref h17, .ref h18, .ref h19, .ref h20, .int 0, .ref h21, .ref h22, .ref h23, .ref h24, .int 0, .int 0, .ref h25, .ref h26, .int (-1), .ref h1, .ref h27]))] _ := hP
    have hD : va_D A [(h1, .inl (K 0, 3600, .inl (fun _ => 0))), (h0, .inr (8, [.int 1, .int 0, .int (-1), .int 0, .int 0, .int (-1), .int 0, .int 0, .int 0, .int 0, .int 9, .ref h2, .ref h3, .ref h4, .ref h5, .ref h6, .ref h7, .ref h8, .ref h9, .ref h10, .ref h11, .ref h12, .ref h13, .ref h14, .ref h15, .ref h16, .ref h17, .ref h18, .ref h19, .ref h20, .int 0, .ref h21, .ref h22, .ref h23, .ref h24, .int 0, .int 0, .ref h25, .ref h26, .int (-1), .ref h1, .ref h27]))] := hD
    refine lv_iload hx hb dX11_act_38 (lv_at hl 0 rfl) ?_
    refine lv_if_le (tgt := 47) hx hb dX11_act_40 (by decide) (fun c_ => absurd c_ (by decide)) (fun _ => ?_)
    refine lv_iload hx hb dX11_act_43 (lv_at hl 0 rfl) ?_
    refine lv_ineg hx hb dX11_act_45 ?_
    refine wTop (v1 := .int (-9)) (congrArg Value.int (by decide)) ?_
    have hP9 := hP.sub (ws' := [(h0, .inr (8, [.int 1, .int 0, .int (-1), .int 0, .int 0, .int (-1), .int 0, .int 0, .int 0, .int 0, .int 9, .ref h2, .ref h3, .ref h4, .ref h5, .ref h6, .ref h7, .ref h8, .ref h9, .ref h10, .ref h11, .ref h12, .ref h13, .ref h14, .ref h15, .ref h16, .ref h17, .ref h18, .ref h19, .ref h20, .int 0, .ref h21, .ref h22, .ref h23, .ref h24, .int 0, .int 0, .ref h25, .ref h26, .int (-1), .ref h1, .ref h27])), (h1, .inl (K 0, 3600, .inl (fun _ => 0)))]) [1, 0] rfl
    have hD9 := hD.sub (ws' := [(h0, .inr (8, [.int 1, .int 0, .int (-1), .int 0, .int 0, .int (-1), .int 0, .int 0, .int 0, .int 0, .int 9, .ref h2, .ref h3, .ref h4, .ref h5, .ref h6, .ref h7, .ref h8, .ref h9, .ref h10, .ref h11, .ref h12, .ref h13, .ref h14, .ref h15, .ref h16, .ref h17, .ref h18, .ref h19, .ref h20, .int 0, .ref h21, .ref h22, .ref h23, .ref h24, .int 0, .int 0, .ref h25, .ref h26, .int (-1), .ref h1, .ref h27])), (h1, .inl (K 0, 3600, .inl (fun _ => 0)))]) [1, 0] (by decide) rfl
    exact W.iret (v := (-9)) hx hb hr (fun t ht hW => ⟨⟨(-9), _, rfl, Or.inl ⟨(by first | omega | decide | simp), rfl, rfl⟩, by rw [ht]; exact hP9, hD9⟩, hS.F ht⟩) hS.2.2 dX11_act_46
  · have c2 := c_w
    have hP : va_P G vwCl [(h1, .inl (K 0, 3600, .inl (fun _ => 0))), (h0, .inr (8, [.int 1, .int 0, .int (-1), .int 0, .int 0, .int (-1), .int 0, .int 0, .int 0, .int 0, .int 0, .ref h2, .ref h3, .ref h4, .ref h5, .ref h6, .ref h7, .ref h8, .ref h9, .ref h10, .ref h11, .ref h12, .ref h13, .ref h14, .ref h15, .ref h16, .ref h17, .ref h18, .ref h19, .ref h20, .int 0, .ref h21, .ref h22, .ref h23, .ref h24, .int 0, .int 0, .ref h25, .ref h26, .int (-1), .ref h1, .ref h27]))] _ := hP
    have hD : va_D A [(h1, .inl (K 0, 3600, .inl (fun _ => 0))), (h0, .inr (8, [.int 1, .int 0, .int (-1), .int 0, .int 0, .int (-1), .int 0, .int 0, .int 0, .int 0, .int 0, .ref h2, .ref h3, .ref h4, .ref h5, .ref h6, .ref h7, .ref h8, .ref h9, .ref h10, .ref h11, .ref h12, .ref h13, .ref h14, .ref h15, .ref h16, .ref h17, .ref h18, .ref h19, .ref h20, .int 0, .ref h21, .ref h22, .ref h23, .ref h24, .int 0, .int 0, .ref h25, .ref h26, .int (-1), .ref h1, .ref h27]))] := hD
    refine lv_istore (lv' := [(6, .int 0), (0, .ref h0), (1, .int 6), (2, .int p0), (3, .int 0), (4, .int 0), (5, .int 0)]) hx hb dX11_act_11 hl (by decide) rfl (fun ls hl => ?_)
    refine lv_iload hx hb dX11_act_13 (lv_at hl 0 rfl) ?_
    refine lv_if_ne (tgt := 32) hx hb dX11_act_15 (by decide) (fun c_ => absurd c_ (by decide)) (fun _ => ?_)
    refine lv_aload_n hx hb dX11_act_18 rfl (lv_at hl 1 rfl) ?_
    refine va_get (D := G) (ci := 8) (v := .int 0) (C := RX11) (T := TX11) (N := 42) hx hb hts iX11 hown hK hP 1 rfl rfl 7 (by decide) (hw (.fieldLink RX11 118 "MotionFloorModel$Hall" "entries" "I") (List.mem_of_getElem? (i := 5) rfl)) (fun _ h9 => h9) rfl dX11_act_19 ?_
    refine lv_sipush (v := 600) hx hb dX11_act_22 (by decide) ?_
    refine lv_icmp_ne (tgt := 32) hx hb dX11_act_25 (by decide) (fun _ => ?_) (fun c_ => absurd c_ (by decide))
    refine lv_aload_n hx hb dX11_act_32 rfl (lv_at hl 1 rfl) ?_
    refine lv_iload hx hb dX11_act_33 (lv_at hl 0 rfl) ?_
    refine va_put (D := G) (ci := 8) (v := .int 0) (ty := .int) (C := RX11) (T := TX11) (N := 42) hx hb hts iX11 tyX11 tyX11_ok nmX11 hown hK hP hD hS 1 rfl rfl 10 (by decide) (hw (.fieldLink RX11 127 "MotionFloorModel$Hall" "why" "I") (List.mem_of_getElem? (i := 4) rfl)) (fun _ h9 => h9) rfl (by decide +kernel) rfl rfl (Nat.le_of_ble_eq_true rfl) dX11_act_35 (fun H locs hP hD hS => ?_)
    have hP : va_P G vwCl [(h1, .inl (K 0, 3600, .inl (fun _ => 0))), (h0, .inr (8, [.int 1, .int 0, .int (-1), .int 0, .int 0, .int (-1), .int 0, .int 0, .int 0, .int 0, .int 0, .ref h2, .ref h3, .ref h4, .ref h5, .ref h6, .ref h7, .ref h8, .ref h9, .ref h10, .ref h11, .ref h12, .ref h13, .ref h14, .ref h15, .ref h16, .ref h17, .ref h18, .ref h19, .ref h20, .int 0, .ref h21, .ref h22, .ref h23, .ref h24, .int 0, .int 0, .ref h25, .ref h26, .int (-1), .ref h1, .ref h27]))] _ := hP
    have hD : va_D A [(h1, .inl (K 0, 3600, .inl (fun _ => 0))), (h0, .inr (8, [.int 1, .int 0, .int (-1), .int 0, .int 0, .int (-1), .int 0, .int 0, .int 0, .int 0, .int 0, .ref h2, .ref h3, .ref h4, .ref h5, .ref h6, .ref h7, .ref h8, .ref h9, .ref h10, .ref h11, .ref h12, .ref h13, .ref h14, .ref h15, .ref h16, .ref h17, .ref h18, .ref h19, .ref h20, .int 0, .ref h21, .ref h22, .ref h23, .ref h24, .int 0, .int 0, .ref h25, .ref h26, .int (-1), .ref h1, .ref h27]))] := hD
    refine lv_iload hx hb dX11_act_38 (lv_at hl 0 rfl) ?_
    refine lv_if_le (tgt := 47) hx hb dX11_act_40 (by decide) (fun _ => ?_) (fun c_ => absurd c_ (by decide))
    refine lv_aload_n hx hb dX11_act_47 rfl (lv_at hl 1 rfl) ?_
    refine lv_iload_n hx hb dX11_act_48 rfl (lv_at hl 2 rfl) ?_
    refine lv_iload_n hx hb dX11_act_49 rfl (lv_at hl 3 rfl) ?_
    refine lv_iload_n hx hb dX11_act_50 rfl (lv_at hl 4 rfl) ?_
    refine lv_iload hx hb dX11_act_51 (lv_at hl 5 rfl) ?_
    refine lv_iload hx hb dX11_act_53 (lv_at hl 6 rfl) ?_
    have hPc := hP.sub (ws' := [(h0, .inr (8, [.int 1, .int 0, .int (-1), .int 0, .int 0, .int (-1), .int 0, .int 0, .int 0, .int 0, .int 0, .ref h2, .ref h3, .ref h4, .ref h5, .ref h6, .ref h7, .ref h8, .ref h9, .ref h10, .ref h11, .ref h12, .ref h13, .ref h14, .ref h15, .ref h16, .ref h17, .ref h18, .ref h19, .ref h20, .int 0, .ref h21, .ref h22, .ref h23, .ref h24, .int 0, .int 0, .ref h25, .ref h26, .int (-1), .ref h1, .ref h27]))]) [1] rfl
    have hDc := hD.sub (ws' := [(h0, .inr (8, [.int 1, .int 0, .int (-1), .int 0, .int 0, .int (-1), .int 0, .int 0, .int 0, .int 0, .int 0, .ref h2, .ref h3, .ref h4, .ref h5, .ref h6, .ref h7, .ref h8, .ref h9, .ref h10, .ref h11, .ref h12, .ref h13, .ref h14, .ref h15, .ref h16, .ref h17, .ref h18, .ref h19, .ref h20, .int 0, .ref h21, .ref h22, .ref h23, .ref h24, .int 0, .int 0, .ref h25, .ref h26, .int (-1), .ref h1, .ref h27]))]) [1] (by decide) rfl
    refine wGoi (wc := [(h0, .inr (8, [.int 1, .int 0, .int (-1), .int 0, .int 0, .int (-1), .int 0, .int 0, .int 0, .int 0, .int 0, .ref h2, .ref h3, .ref h4, .ref h5, .ref h6, .ref h7, .ref h8, .ref h9, .ref h10, .ref h11, .ref h12, .ref h13, .ref h14, .ref h15, .ref h16, .ref h17, .ref h18, .ref h19, .ref h20, .int 0, .ref h21, .ref h22, .ref h23, .ref h24, .int 0, .int 0, .ref h25, .ref h26, .int (-1), .ref h1, .ref h27]))]) (wr := [(h1, .inl (K 0, 3600, .inl (fun _ => 0)))]) (va_runV (As := [.int 6, .int p0, .int 0, .int 0, .int 0]) (rest := []) ⟨hx, hb, hml, hown, hts⟩ (m_X11_does_3 l G K h0 h2 h3 h4 h5 h6 h7 h8 h9 h10 h11 h12 h13 h14 h15 h16 h17 h18 h19 h20 h21 h22 h23 h24 h25 h26 h1 h27 p0 _ (by omega)) (cwV 5 hts (wGV t_ (mw (.methodLink RX11 200 yX11_does) (List.mem_of_getElem? (i := 6) rfl)) (mw (.instanceMethod yX11_does) (List.mem_of_getElem? (i := 7) rfl)) (mw (.selects RX11 yX11_does yX11_does) (List.mem_of_getElem? (i := 8) rfl)) (mw (.initialized RX11) (List.mem_of_getElem? (i := 3) rfl)) j_X11_does_3) rfl rfl rfl (by decide +kernel) ⟨Nat.le_of_ble_eq_true rfl, Nat.le_of_ble_eq_true rfl⟩) (wPV hK hE hPc hDc 8 0 rfl rfl) rfl rfl hl.1 rfl (lv_room (Nat.le_of_ble_eq_true rfl)) dX11_act_55 ⟨Nat.le_of_ble_eq_true rfl, Nat.le_of_ble_eq_true rfl⟩) hP hD hS hA [1] [0] rfl rfl rfl (by decide) (fun r u H locs hw hP hD hS => ?_)
    rcases hw with ⟨rfl, rfl⟩
    have hP : va_P G vwCl [(h1, .inl (K 0, 3600, .inl (fun _ => 0))), (h0, .inr (8, [.int 1, .int 0, .int (-1), .int 0, .int p0, .int (-1), .int 0, .int 0, .int 0, .int 0, .int 0, .ref h2, .ref h3, .ref h4, .ref h5, .ref h6, .ref h7, .ref h8, .ref h9, .ref h10, .ref h11, .ref h12, .ref h13, .ref h14, .ref h15, .ref h16, .ref h17, .ref h18, .ref h19, .ref h20, .int 0, .ref h21, .ref h22, .ref h23, .ref h24, .int 0, .int 0, .ref h25, .ref h26, .int (-1), .ref h1, .ref h27]))] _ := hP
    have hD : va_D A [(h1, .inl (K 0, 3600, .inl (fun _ => 0))), (h0, .inr (8, [.int 1, .int 0, .int (-1), .int 0, .int p0, .int (-1), .int 0, .int 0, .int 0, .int 0, .int 0, .ref h2, .ref h3, .ref h4, .ref h5, .ref h6, .ref h7, .ref h8, .ref h9, .ref h10, .ref h11, .ref h12, .ref h13, .ref h14, .ref h15, .ref h16, .ref h17, .ref h18, .ref h19, .ref h20, .int 0, .ref h21, .ref h22, .ref h23, .ref h24, .int 0, .int 0, .ref h25, .ref h26, .int (-1), .ref h1, .ref h27]))] := hD
    refine lv_istore (lv' := [(7, .int p0), (6, .int 0), (0, .ref h0), (1, .int 6), (2, .int p0), (3, .int 0), (4, .int 0), (5, .int 0)]) hx hb dX11_act_58 hl (by decide) rfl (fun ls hl => ?_)
    refine lv_bipush (v := 6) hx hb dX11_act_60 (by decide) ?_
    refine lv_aload_n hx hb dX11_act_62 rfl (lv_at hl 2 rfl) ?_
    refine va_get (D := G) (ci := 8) (v := .int 0) (C := RX11) (T := TX11) (N := 42) hx hb hts iX11 hown hK hP 1 rfl rfl 7 (by decide) (hw (.fieldLink RX11 118 "MotionFloorModel$Hall" "entries" "I") (List.mem_of_getElem? (i := 5) rfl)) (fun _ h9 => h9) rfl dX11_act_63 ?_
    refine lv_imul hx hb dX11_act_66 ?_
    refine wTop (v1 := .int 0) (congrArg Value.int (by decide)) ?_
    refine lv_istore (lv' := [(8, .int 0), (7, .int p0), (6, .int 0), (0, .ref h0), (1, .int 6), (2, .int p0), (3, .int 0), (4, .int 0), (5, .int 0)]) hx hb dX11_act_67 hl (by decide) rfl (fun ls hl => ?_)
    refine lv_iload_n hx hb dX11_act_69 rfl (lv_at hl 4 rfl) ?_
    have hPc := hP.sub (ws' := []) [] rfl
    have hDc := hD.sub (ws' := []) [] (by decide) rfl
    refine wGoi (wc := []) (wr := [(h1, .inl (K 0, 3600, .inl (fun _ => 0))), (h0, .inr (8, [.int 1, .int 0, .int (-1), .int 0, .int p0, .int (-1), .int 0, .int 0, .int 0, .int 0, .int 0, .ref h2, .ref h3, .ref h4, .ref h5, .ref h6, .ref h7, .ref h8, .ref h9, .ref h10, .ref h11, .ref h12, .ref h13, .ref h14, .ref h15, .ref h16, .ref h17, .ref h18, .ref h19, .ref h20, .int 0, .ref h21, .ref h22, .ref h23, .ref h24, .int 0, .int 0, .ref h25, .ref h26, .int (-1), .ref h1, .ref h27]))]) (va_runSN (As := [.int 6]) (rest := []) ⟨hx, hb, hml, hown, hts⟩ (m_X12_numbers_3 l G K _) ⟨va_cnB (host := "MotionFloorModel") 1 hts (wGP t_ j_X12_numbers_3) rfl rfl rfl hE.2.2.2.2.2.2.2.2.2.2 (hw (.initialized RX12) (List.mem_of_getElem? (i := 9) rfl)) (by decide +kernel) ⟨Nat.le_of_ble_eq_true rfl, Nat.le_of_ble_eq_true rfl⟩, (hw (.static yX12_numbers) (List.mem_of_getElem? (i := 10) rfl)), trivial⟩ (wPS hK hE hPc hDc) rfl rfl hl.1 rfl (lv_room (Nat.le_of_ble_eq_true rfl)) dX11_act_70 ⟨Nat.le_of_ble_eq_true rfl, Nat.le_of_ble_eq_true rfl⟩) hP hD hS hA [] [0, 1] rfl rfl rfl (by decide) (fun r u H locs hw hP hD hS => ?_)
    rcases hw with ⟨rfl, rfl⟩
    have hP : va_P G vwCl [(h1, .inl (K 0, 3600, .inl (fun _ => 0))), (h0, .inr (8, [.int 1, .int 0, .int (-1), .int 0, .int p0, .int (-1), .int 0, .int 0, .int 0, .int 0, .int 0, .ref h2, .ref h3, .ref h4, .ref h5, .ref h6, .ref h7, .ref h8, .ref h9, .ref h10, .ref h11, .ref h12, .ref h13, .ref h14, .ref h15, .ref h16, .ref h17, .ref h18, .ref h19, .ref h20, .int 0, .ref h21, .ref h22, .ref h23, .ref h24, .int 0, .int 0, .ref h25, .ref h26, .int (-1), .ref h1, .ref h27]))] _ := hP
    have hD : va_D A [(h1, .inl (K 0, 3600, .inl (fun _ => 0))), (h0, .inr (8, [.int 1, .int 0, .int (-1), .int 0, .int p0, .int (-1), .int 0, .int 0, .int 0, .int 0, .int 0, .ref h2, .ref h3, .ref h4, .ref h5, .ref h6, .ref h7, .ref h8, .ref h9, .ref h10, .ref h11, .ref h12, .ref h13, .ref h14, .ref h15, .ref h16, .ref h17, .ref h18, .ref h19, .ref h20, .int 0, .ref h21, .ref h22, .ref h23, .ref h24, .int 0, .int 0, .ref h25, .ref h26, .int (-1), .ref h1, .ref h27]))] := hD
    refine lv_istore (lv' := [(9, .int 1), (8, .int 0), (7, .int p0), (6, .int 0), (0, .ref h0), (1, .int 6), (2, .int p0), (3, .int 0), (4, .int 0), (5, .int 0)]) hx hb dX11_act_73 hl (by decide) rfl (fun ls hl => ?_)
    refine lv_aload_n hx hb dX11_act_75 rfl (lv_at hl 4 rfl) ?_
    refine va_get (D := G) (ci := 8) (v := .ref h1) (C := RX11) (T := TX11) (N := 42) hx hb hts iX11 hown hK hP 1 rfl rfl 40 (by decide) (hw (.fieldLink RX11 90 "MotionFloorModel$Hall" "minutes" "[I") (List.mem_of_getElem? (i := 11) rfl)) (fun _ h9 => h9) rfl dX11_act_76 ?_
    refine lv_iload hx hb dX11_act_79 (lv_at hl 1 rfl) ?_
    refine lv_iload_n hx hb dX11_act_81 rfl (lv_at hl 5 rfl) ?_
    refine va_iast hx hb hK hP hD hS 0 0 rfl rfl (vp_in_iff.mpr (by decide)) dX11_act_82 (fun H locs hP hD hS => ?_)
    have hP : va_P G vwCl [(h1, .inl (K 0, 3600, .inl (upd (fun _ => 0) 0 6))), (h0, .inr (8, [.int 1, .int 0, .int (-1), .int 0, .int p0, .int (-1), .int 0, .int 0, .int 0, .int 0, .int 0, .ref h2, .ref h3, .ref h4, .ref h5, .ref h6, .ref h7, .ref h8, .ref h9, .ref h10, .ref h11, .ref h12, .ref h13, .ref h14, .ref h15, .ref h16, .ref h17, .ref h18, .ref h19, .ref h20, .int 0, .ref h21, .ref h22, .ref h23, .ref h24, .int 0, .int 0, .ref h25, .ref h26, .int (-1), .ref h1, .ref h27]))] _ := hP
    have hD : va_D A [(h1, .inl (K 0, 3600, .inl (upd (fun _ => 0) 0 6))), (h0, .inr (8, [.int 1, .int 0, .int (-1), .int 0, .int p0, .int (-1), .int 0, .int 0, .int 0, .int 0, .int 0, .ref h2, .ref h3, .ref h4, .ref h5, .ref h6, .ref h7, .ref h8, .ref h9, .ref h10, .ref h11, .ref h12, .ref h13, .ref h14, .ref h15, .ref h16, .ref h17, .ref h18, .ref h19, .ref h20, .int 0, .ref h21, .ref h22, .ref h23, .ref h24, .int 0, .int 0, .ref h25, .ref h26, .int (-1), .ref h1, .ref h27]))] := hD
    refine lv_aload_n hx hb dX11_act_83 rfl (lv_at hl 4 rfl) ?_
    refine va_get (D := G) (ci := 8) (v := .ref h1) (C := RX11) (T := TX11) (N := 42) hx hb hts iX11 hown hK hP 1 rfl rfl 40 (by decide) (hw (.fieldLink RX11 90 "MotionFloorModel$Hall" "minutes" "[I") (List.mem_of_getElem? (i := 11) rfl)) (fun _ h9 => h9) rfl dX11_act_84 ?_
    refine lv_iload hx hb dX11_act_87 (lv_at hl 1 rfl) ?_
    refine lv_iconst (v := 1) hx hb dX11_act_89 (by decide) ?_
    refine lv_iadd hx hb dX11_act_90 ?_
    refine wTop (v1 := .int 1) (congrArg Value.int (by decide)) ?_
    refine lv_iload hx hb dX11_act_91 (lv_at hl 0 rfl) ?_
    refine lv_if_le (tgt := 100) hx hb dX11_act_93 (by decide) (fun c_ => absurd c_ (by decide)) (fun _ => ?_)
    refine lv_iload_n hx hb dX11_act_96 rfl (lv_at hl 6 rfl) ?_
    refine lv_goto (tgt := 101) hx hb dX11_act_97 (by decide) ?_
    refine va_iast hx hb hK hP hD hS 0 0 rfl rfl (vp_in_iff.mpr (by decide)) dX11_act_101 (fun H locs hP hD hS => ?_)
    have hP : va_P G vwCl [(h1, .inl (K 0, 3600, .inl (upd (upd (fun _ => 0) 0 6) 1 p0))), (h0, .inr (8, [.int 1, .int 0, .int (-1), .int 0, .int p0, .int (-1), .int 0, .int 0, .int 0, .int 0, .int 0, .ref h2, .ref h3, .ref h4, .ref h5, .ref h6, .ref h7, .ref h8, .ref h9, .ref h10, .ref h11, .ref h12, .ref h13, .ref h14, .ref h15, .ref h16, .ref h17, .ref h18, .ref h19, .ref h20, .int 0, .ref h21, .ref h22, .ref h23, .ref h24, .int 0, .int 0, .ref h25, .ref h26, .int (-1), .ref h1, .ref h27]))] _ := hP
    have hD : va_D A [(h1, .inl (K 0, 3600, .inl (upd (upd (fun _ => 0) 0 6) 1 p0))), (h0, .inr (8, [.int 1, .int 0, .int (-1), .int 0, .int p0, .int (-1), .int 0, .int 0, .int 0, .int 0, .int 0, .ref h2, .ref h3, .ref h4, .ref h5, .ref h6, .ref h7, .ref h8, .ref h9, .ref h10, .ref h11, .ref h12, .ref h13, .ref h14, .ref h15, .ref h16, .ref h17, .ref h18, .ref h19, .ref h20, .int 0, .ref h21, .ref h22, .ref h23, .ref h24, .int 0, .int 0, .ref h25, .ref h26, .int (-1), .ref h1, .ref h27]))] := hD
    refine lv_aload_n hx hb dX11_act_102 rfl (lv_at hl 4 rfl) ?_
    refine va_get (D := G) (ci := 8) (v := .ref h1) (C := RX11) (T := TX11) (N := 42) hx hb hts iX11 hown hK hP 1 rfl rfl 40 (by decide) (hw (.fieldLink RX11 90 "MotionFloorModel$Hall" "minutes" "[I") (List.mem_of_getElem? (i := 11) rfl)) (fun _ h9 => h9) rfl dX11_act_103 ?_
    refine lv_iload hx hb dX11_act_106 (lv_at hl 1 rfl) ?_
    refine lv_iconst (v := 2) hx hb dX11_act_108 (by decide) ?_
    refine lv_iadd hx hb dX11_act_109 ?_
    refine wTop (v1 := .int 2) (congrArg Value.int (by decide)) ?_
    refine lv_iload hx hb dX11_act_110 (lv_at hl 0 rfl) ?_
    refine lv_iconst (v := 1) hx hb dX11_act_112 (by decide) ?_
    refine lv_icmp_le (tgt := 120) hx hb dX11_act_113 (by decide) (fun _ => ?_) (fun c_ => absurd c_ (by decide))
    refine lv_iconst (v := 0) hx hb dX11_act_120 (by decide) ?_
    refine va_iast hx hb hK hP hD hS 0 0 rfl rfl (vp_in_iff.mpr (by decide)) dX11_act_121 (fun H locs hP hD hS => ?_)
    have hP : va_P G vwCl [(h1, .inl (K 0, 3600, .inl (upd (upd (upd (fun _ => 0) 0 6) 1 p0) 2 0))), (h0, .inr (8, [.int 1, .int 0, .int (-1), .int 0, .int p0, .int (-1), .int 0, .int 0, .int 0, .int 0, .int 0, .ref h2, .ref h3, .ref h4, .ref h5, .ref h6, .ref h7, .ref h8, .ref h9, .ref h10, .ref h11, .ref h12, .ref h13, .ref h14, .ref h15, .ref h16, .ref h17, .ref h18, .ref h19, .ref h20, .int 0, .ref h21, .ref h22, .ref h23, .ref h24, .int 0, .int 0, .ref h25, .ref h26, .int (-1), .ref h1, .ref h27]))] _ := hP
    have hD : va_D A [(h1, .inl (K 0, 3600, .inl (upd (upd (upd (fun _ => 0) 0 6) 1 p0) 2 0))), (h0, .inr (8, [.int 1, .int 0, .int (-1), .int 0, .int p0, .int (-1), .int 0, .int 0, .int 0, .int 0, .int 0, .ref h2, .ref h3, .ref h4, .ref h5, .ref h6, .ref h7, .ref h8, .ref h9, .ref h10, .ref h11, .ref h12, .ref h13, .ref h14, .ref h15, .ref h16, .ref h17, .ref h18, .ref h19, .ref h20, .int 0, .ref h21, .ref h22, .ref h23, .ref h24, .int 0, .int 0, .ref h25, .ref h26, .int (-1), .ref h1, .ref h27]))] := hD
    refine lv_aload_n hx hb dX11_act_122 rfl (lv_at hl 4 rfl) ?_
    refine va_get (D := G) (ci := 8) (v := .ref h1) (C := RX11) (T := TX11) (N := 42) hx hb hts iX11 hown hK hP 1 rfl rfl 40 (by decide) (hw (.fieldLink RX11 90 "MotionFloorModel$Hall" "minutes" "[I") (List.mem_of_getElem? (i := 11) rfl)) (fun _ h9 => h9) rfl dX11_act_123 ?_
    refine lv_iload hx hb dX11_act_126 (lv_at hl 1 rfl) ?_
    refine lv_iconst (v := 3) hx hb dX11_act_128 (by decide) ?_
    refine lv_iadd hx hb dX11_act_129 ?_
    refine wTop (v1 := .int 3) (congrArg Value.int (by decide)) ?_
    refine lv_iload hx hb dX11_act_130 (lv_at hl 0 rfl) ?_
    refine lv_iconst (v := 2) hx hb dX11_act_132 (by decide) ?_
    refine lv_icmp_le (tgt := 141) hx hb dX11_act_133 (by decide) (fun _ => ?_) (fun c_ => absurd c_ (by decide))
    refine lv_iconst (v := 0) hx hb dX11_act_141 (by decide) ?_
    refine va_iast hx hb hK hP hD hS 0 0 rfl rfl (vp_in_iff.mpr (by decide)) dX11_act_142 (fun H locs hP hD hS => ?_)
    have hP : va_P G vwCl [(h1, .inl (K 0, 3600, .inl (upd (upd (upd (upd (fun _ => 0) 0 6) 1 p0) 2 0) 3 0))), (h0, .inr (8, [.int 1, .int 0, .int (-1), .int 0, .int p0, .int (-1), .int 0, .int 0, .int 0, .int 0, .int 0, .ref h2, .ref h3, .ref h4, .ref h5, .ref h6, .ref h7, .ref h8, .ref h9, .ref h10, .ref h11, .ref h12, .ref h13, .ref h14, .ref h15, .ref h16, .ref h17, .ref h18, .ref h19, .ref h20, .int 0, .ref h21, .ref h22, .ref h23, .ref h24, .int 0, .int 0, .ref h25, .ref h26, .int (-1), .ref h1, .ref h27]))] _ := hP
    have hD : va_D A [(h1, .inl (K 0, 3600, .inl (upd (upd (upd (upd (fun _ => 0) 0 6) 1 p0) 2 0) 3 0))), (h0, .inr (8, [.int 1, .int 0, .int (-1), .int 0, .int p0, .int (-1), .int 0, .int 0, .int 0, .int 0, .int 0, .ref h2, .ref h3, .ref h4, .ref h5, .ref h6, .ref h7, .ref h8, .ref h9, .ref h10, .ref h11, .ref h12, .ref h13, .ref h14, .ref h15, .ref h16, .ref h17, .ref h18, .ref h19, .ref h20, .int 0, .ref h21, .ref h22, .ref h23, .ref h24, .int 0, .int 0, .ref h25, .ref h26, .int (-1), .ref h1, .ref h27]))] := hD
    refine lv_aload_n hx hb dX11_act_143 rfl (lv_at hl 4 rfl) ?_
    refine va_get (D := G) (ci := 8) (v := .ref h1) (C := RX11) (T := TX11) (N := 42) hx hb hts iX11 hown hK hP 1 rfl rfl 40 (by decide) (hw (.fieldLink RX11 90 "MotionFloorModel$Hall" "minutes" "[I") (List.mem_of_getElem? (i := 11) rfl)) (fun _ h9 => h9) rfl dX11_act_144 ?_
    refine lv_iload hx hb dX11_act_147 (lv_at hl 1 rfl) ?_
    refine lv_iconst (v := 4) hx hb dX11_act_149 (by decide) ?_
    refine lv_iadd hx hb dX11_act_150 ?_
    refine wTop (v1 := .int 4) (congrArg Value.int (by decide)) ?_
    refine lv_iload hx hb dX11_act_151 (lv_at hl 0 rfl) ?_
    refine lv_iconst (v := 3) hx hb dX11_act_153 (by decide) ?_
    refine lv_icmp_le (tgt := 162) hx hb dX11_act_154 (by decide) (fun _ => ?_) (fun c_ => absurd c_ (by decide))
    refine lv_iconst (v := 0) hx hb dX11_act_162 (by decide) ?_
    refine va_iast hx hb hK hP hD hS 0 0 rfl rfl (vp_in_iff.mpr (by decide)) dX11_act_163 (fun H locs hP hD hS => ?_)
    have hP : va_P G vwCl [(h1, .inl (K 0, 3600, .inl (upd (upd (upd (upd (upd (fun _ => 0) 0 6) 1 p0) 2 0) 3 0) 4 0))), (h0, .inr (8, [.int 1, .int 0, .int (-1), .int 0, .int p0, .int (-1), .int 0, .int 0, .int 0, .int 0, .int 0, .ref h2, .ref h3, .ref h4, .ref h5, .ref h6, .ref h7, .ref h8, .ref h9, .ref h10, .ref h11, .ref h12, .ref h13, .ref h14, .ref h15, .ref h16, .ref h17, .ref h18, .ref h19, .ref h20, .int 0, .ref h21, .ref h22, .ref h23, .ref h24, .int 0, .int 0, .ref h25, .ref h26, .int (-1), .ref h1, .ref h27]))] _ := hP
    have hD : va_D A [(h1, .inl (K 0, 3600, .inl (upd (upd (upd (upd (upd (fun _ => 0) 0 6) 1 p0) 2 0) 3 0) 4 0))), (h0, .inr (8, [.int 1, .int 0, .int (-1), .int 0, .int p0, .int (-1), .int 0, .int 0, .int 0, .int 0, .int 0, .ref h2, .ref h3, .ref h4, .ref h5, .ref h6, .ref h7, .ref h8, .ref h9, .ref h10, .ref h11, .ref h12, .ref h13, .ref h14, .ref h15, .ref h16, .ref h17, .ref h18, .ref h19, .ref h20, .int 0, .ref h21, .ref h22, .ref h23, .ref h24, .int 0, .int 0, .ref h25, .ref h26, .int (-1), .ref h1, .ref h27]))] := hD
    refine lv_aload_n hx hb dX11_act_164 rfl (lv_at hl 4 rfl) ?_
    refine va_get (D := G) (ci := 8) (v := .ref h1) (C := RX11) (T := TX11) (N := 42) hx hb hts iX11 hown hK hP 1 rfl rfl 40 (by decide) (hw (.fieldLink RX11 90 "MotionFloorModel$Hall" "minutes" "[I") (List.mem_of_getElem? (i := 11) rfl)) (fun _ h9 => h9) rfl dX11_act_165 ?_
    refine lv_iload hx hb dX11_act_168 (lv_at hl 1 rfl) ?_
    refine lv_iconst (v := 5) hx hb dX11_act_170 (by decide) ?_
    refine lv_iadd hx hb dX11_act_171 ?_
    refine wTop (v1 := .int 5) (congrArg Value.int (by decide)) ?_
    refine lv_iload hx hb dX11_act_172 (lv_at hl 2 rfl) ?_
    refine va_iast hx hb hK hP hD hS 0 0 rfl rfl (vp_in_iff.mpr (by decide)) dX11_act_174 (fun H locs hP hD hS => ?_)
    have hP : va_P G vwCl [(h1, .inl (K 0, 3600, .inl (upd (upd (upd (upd (upd (upd (fun _ => 0) 0 6) 1 p0) 2 0) 3 0) 4 0) 5 p0))), (h0, .inr (8, [.int 1, .int 0, .int (-1), .int 0, .int p0, .int (-1), .int 0, .int 0, .int 0, .int 0, .int 0, .ref h2, .ref h3, .ref h4, .ref h5, .ref h6, .ref h7, .ref h8, .ref h9, .ref h10, .ref h11, .ref h12, .ref h13, .ref h14, .ref h15, .ref h16, .ref h17, .ref h18, .ref h19, .ref h20, .int 0, .ref h21, .ref h22, .ref h23, .ref h24, .int 0, .int 0, .ref h25, .ref h26, .int (-1), .ref h1, .ref h27]))] _ := hP
    have hD : va_D A [(h1, .inl (K 0, 3600, .inl (upd (upd (upd (upd (upd (upd (fun _ => 0) 0 6) 1 p0) 2 0) 3 0) 4 0) 5 p0))), (h0, .inr (8, [.int 1, .int 0, .int (-1), .int 0, .int p0, .int (-1), .int 0, .int 0, .int 0, .int 0, .int 0, .ref h2, .ref h3, .ref h4, .ref h5, .ref h6, .ref h7, .ref h8, .ref h9, .ref h10, .ref h11, .ref h12, .ref h13, .ref h14, .ref h15, .ref h16, .ref h17, .ref h18, .ref h19, .ref h20, .int 0, .ref h21, .ref h22, .ref h23, .ref h24, .int 0, .int 0, .ref h25, .ref h26, .int (-1), .ref h1, .ref h27]))] := hD
    refine lv_aload_n hx hb dX11_act_175 rfl (lv_at hl 4 rfl) ?_
    refine lv_dup hx hb dX11_act_176 rfl ?_
    refine va_get (D := G) (ci := 8) (v := .int 0) (C := RX11) (T := TX11) (N := 42) hx hb hts iX11 hown hK hP 1 rfl rfl 7 (by decide) (hw (.fieldLink RX11 118 "MotionFloorModel$Hall" "entries" "I") (List.mem_of_getElem? (i := 5) rfl)) (fun _ h9 => h9) rfl dX11_act_177 ?_
    refine lv_iconst (v := 1) hx hb dX11_act_180 (by decide) ?_
    refine lv_iadd hx hb dX11_act_181 ?_
    refine wTop (v1 := .int 1) (congrArg Value.int (by decide)) ?_
    refine va_put (D := G) (ci := 8) (v := .int 1) (ty := .int) (C := RX11) (T := TX11) (N := 42) hx hb hts iX11 tyX11 tyX11_ok nmX11 hown hK hP hD hS 1 rfl rfl 7 (by decide) (hw (.fieldLink RX11 118 "MotionFloorModel$Hall" "entries" "I") (List.mem_of_getElem? (i := 5) rfl)) (fun _ h9 => h9) rfl (by decide +kernel) rfl rfl (Nat.le_of_ble_eq_true rfl) dX11_act_182 (fun H locs hP hD hS => ?_)
    have hP : va_P G vwCl [(h1, .inl (K 0, 3600, .inl (upd (upd (upd (upd (upd (upd (fun _ => 0) 0 6) 1 p0) 2 0) 3 0) 4 0) 5 p0))), (h0, .inr (8, [.int 1, .int 0, .int (-1), .int 0, .int p0, .int (-1), .int 0, .int 1, .int 0, .int 0, .int 0, .ref h2, .ref h3, .ref h4, .ref h5, .ref h6, .ref h7, .ref h8, .ref h9, .ref h10, .ref h11, .ref h12, .ref h13, .ref h14, .ref h15, .ref h16, .ref h17, .ref h18, .ref h19, .ref h20, .int 0, .ref h21, .ref h22, .ref h23, .ref h24, .int 0, .int 0, .ref h25, .ref h26, .int (-1), .ref h1, .ref h27]))] _ := hP
    have hD : va_D A [(h1, .inl (K 0, 3600, .inl (upd (upd (upd (upd (upd (upd (fun _ => 0) 0 6) 1 p0) 2 0) 3 0) 4 0) 5 p0))), (h0, .inr (8, [.int 1, .int 0, .int (-1), .int 0, .int p0, .int (-1), .int 0, .int 1, .int 0, .int 0, .int 0, .ref h2, .ref h3, .ref h4, .ref h5, .ref h6, .ref h7, .ref h8, .ref h9, .ref h10, .ref h11, .ref h12, .ref h13, .ref h14, .ref h15, .ref h16, .ref h17, .ref h18, .ref h19, .ref h20, .int 0, .ref h21, .ref h22, .ref h23, .ref h24, .int 0, .int 0, .ref h25, .ref h26, .int (-1), .ref h1, .ref h27]))] := hD
    refine lv_iload hx hb dX11_act_185 (lv_at hl 2 rfl) ?_
    have hP9 := hP.sub (ws' := [(h0, .inr (8, [.int 1, .int 0, .int (-1), .int 0, .int p0, .int (-1), .int 0, .int 1, .int 0, .int 0, .int 0, .ref h2, .ref h3, .ref h4, .ref h5, .ref h6, .ref h7, .ref h8, .ref h9, .ref h10, .ref h11, .ref h12, .ref h13, .ref h14, .ref h15, .ref h16, .ref h17, .ref h18, .ref h19, .ref h20, .int 0, .ref h21, .ref h22, .ref h23, .ref h24, .int 0, .int 0, .ref h25, .ref h26, .int (-1), .ref h1, .ref h27])), (h1, .inl (K 0, 3600, .inl (upd (upd (upd (upd (upd (upd (fun _ => 0) 0 6) 1 p0) 2 0) 3 0) 4 0) 5 p0)))]) [1, 0] rfl
    have hD9 := hD.sub (ws' := [(h0, .inr (8, [.int 1, .int 0, .int (-1), .int 0, .int p0, .int (-1), .int 0, .int 1, .int 0, .int 0, .int 0, .ref h2, .ref h3, .ref h4, .ref h5, .ref h6, .ref h7, .ref h8, .ref h9, .ref h10, .ref h11, .ref h12, .ref h13, .ref h14, .ref h15, .ref h16, .ref h17, .ref h18, .ref h19, .ref h20, .int 0, .ref h21, .ref h22, .ref h23, .ref h24, .int 0, .int 0, .ref h25, .ref h26, .int (-1), .ref h1, .ref h27])), (h1, .inl (K 0, 3600, .inl (upd (upd (upd (upd (upd (upd (fun _ => 0) 0 6) 1 p0) 2 0) 3 0) 4 0) 5 p0)))]) [1, 0] (by decide) rfl
    exact W.iret (v := p0) hx hb hr (fun t ht hW => ⟨⟨p0, _, rfl, Or.inr (⟨(by first | omega | decide | simp), rfl, rfl⟩), by rw [ht]; exact hP9, hD9⟩, hS.F ht⟩) hS.2.2 dX11_act_187
def e_X12_limit_0 : List Cond := [.fieldLink RX12 16 "MotionFloorModel" "hall" "LMotionFloorModel$Hall;", .methodLink RX12 40 yX11_act, .instanceMethod yX11_act, .selects RX11 yX11_act yX11_act, .initialized RX11]
def v_X12_limit_0 : List Cond := .code yX12_limit cX12_limit 2 (some .int) :: (e_X12_limit_0 ++ (wsX120 ++ (v_X11_act_5 ++ [])))
theorem te_X12_limit_0 : GoodIn lw_tbl e_X12_limit_0 := wGc z566 (wGc z595 (wGc z594 (wGc z593 (wGc z568 (wG0)))))
theorem t_X12_limit_0 : GoodIn lw_tbl v_X12_limit_0 := wGc z601 (wGa te_X12_limit_0 (wGa zcX12 (wGa t_X11_act_5 (wG0))))
set_option maxHeartbeats 4000000 in
set_option maxRecDepth 100000 in
theorem m_X12_limit_0 (l : Launch) (G : va_G) (K : Nat → ClassId) (h0 h1 h2 h3 h4 h5 h6 h7 h8 h9 h10 h11 h12 h13 h14 h15 h16 h17 h18 h19 h20 h21 h22 h23 h24 h25 h26 h27 h28 h29 h30 h31 h32 h33 : Nat) (p0 : Int32) (sz : Nat) : Met l yX12_limit v_X12_limit_0 ({ frames := 3, cells := 0, slots := 0, locals := 76 }) (va_Pc [.ref h0, .int p0] (wS G K sz [(h0, .inr (9, [.ref h1, .ref h3, .ref h4, .ref h5, .ref h6, .ref h7, .int 0])), (h1, .inr (8, [.int 1, .int 0, .int (-1), .int 0, .int 0, .int (-1), .int 0, .int 0, .int 0, .int 0, .int 0, .ref h8, .ref h9, .ref h10, .ref h11, .ref h12, .ref h13, .ref h14, .ref h15, .ref h16, .ref h17, .ref h18, .ref h19, .ref h20, .ref h21, .ref h22, .ref h23, .ref h24, .ref h25, .ref h26, .int 0, .ref h27, .ref h28, .ref h29, .ref h30, .int 0, .int 0, .ref h31, .ref h32, .int (-1), .ref h2, .ref h33])), (h2, .inl (K 0, 3600, .inl (fun _ => 0)))])) (va_Qi (fun (r : Int32) (u : va_W) => (((((p0.toInt < 0 ∨ (p0.toInt ≥ 0 ∧ p0.toInt > 99))))) ∧ r = (-9) ∧ u = [(h0, .inr (9, [.ref h1, .ref h3, .ref h4, .ref h5, .ref h6, .ref h7, .int 0])), (h1, .inr (8, [.int 1, .int 0, .int (-1), .int 0, .int 0, .int (-1), .int 0, .int 0, .int 0, .int 0, .int 9, .ref h8, .ref h9, .ref h10, .ref h11, .ref h12, .ref h13, .ref h14, .ref h15, .ref h16, .ref h17, .ref h18, .ref h19, .ref h20, .ref h21, .ref h22, .ref h23, .ref h24, .ref h25, .ref h26, .int 0, .ref h27, .ref h28, .ref h29, .ref h30, .int 0, .int 0, .ref h31, .ref h32, .int (-1), .ref h2, .ref h33])), (h2, .inl (K 0, 3600, .inl (fun _ => 0)))]) ∨ ((((((p0.toInt ≥ 0 ∧ p0.toInt ≤ 99))))) ∧ r = p0 ∧ u = [(h0, .inr (9, [.ref h1, .ref h3, .ref h4, .ref h5, .ref h6, .ref h7, .int 0])), (h1, .inr (8, [.int 1, .int 0, .int (-1), .int 0, .int p0, .int (-1), .int 0, .int 1, .int 0, .int 0, .int 0, .ref h8, .ref h9, .ref h10, .ref h11, .ref h12, .ref h13, .ref h14, .ref h15, .ref h16, .ref h17, .ref h18, .ref h19, .ref h20, .ref h21, .ref h22, .ref h23, .ref h24, .ref h25, .ref h26, .int 0, .ref h27, .ref h28, .ref h29, .ref h30, .int 0, .int 0, .ref h31, .ref h32, .int (-1), .ref h2, .ref h33])), (h2, .inl (K 0, 3600, .inl (upd (upd (upd (upd (upd (upd (fun _ => 0) 0 6) 1 p0) 2 0) 3 0) 4 0) 5 p0)))])) (wB G (va_A [(h0, .inr (9, [.ref h1, .ref h3, .ref h4, .ref h5, .ref h6, .ref h7, .int 0])), (h1, .inr (8, [.int 1, .int 0, .int (-1), .int 0, .int 0, .int (-1), .int 0, .int 0, .int 0, .int 0, .int 0, .ref h8, .ref h9, .ref h10, .ref h11, .ref h12, .ref h13, .ref h14, .ref h15, .ref h16, .ref h17, .ref h18, .ref h19, .ref h20, .ref h21, .ref h22, .ref h23, .ref h24, .ref h25, .ref h26, .int 0, .ref h27, .ref h28, .ref h29, .ref h30, .int 0, .int 0, .ref h31, .ref h32, .int (-1), .ref h2, .ref h33])), (h2, .inl (K 0, 3600, .inl (fun _ => 0)))] sz)) (va_A [(h0, .inr (9, [.ref h1, .ref h3, .ref h4, .ref h5, .ref h6, .ref h7, .int 0])), (h1, .inr (8, [.int 1, .int 0, .int (-1), .int 0, .int 0, .int (-1), .int 0, .int 0, .int 0, .int 0, .int 0, .ref h8, .ref h9, .ref h10, .ref h11, .ref h12, .ref h13, .ref h14, .ref h15, .ref h16, .ref h17, .ref h18, .ref h19, .ref h20, .ref h21, .ref h22, .ref h23, .ref h24, .ref h25, .ref h26, .int 0, .ref h27, .ref h28, .ref h29, .ref h30, .int 0, .int 0, .ref h31, .ref h32, .int (-1), .ref h2, .ref h33])), (h2, .inl (K 0, 3600, .inl (fun _ => 0)))] sz)) 0 0 (va_A [(h0, .inr (9, [.ref h1, .ref h3, .ref h4, .ref h5, .ref h6, .ref h7, .int 0])), (h1, .inr (8, [.int 1, .int 0, .int (-1), .int 0, .int 0, .int (-1), .int 0, .int 0, .int 0, .int 0, .int 0, .ref h8, .ref h9, .ref h10, .ref h11, .ref h12, .ref h13, .ref h14, .ref h15, .ref h16, .ref h17, .ref h18, .ref h19, .ref h20, .ref h21, .ref h22, .ref h23, .ref h24, .ref h25, .ref h26, .int 0, .ref h27, .ref h28, .ref h29, .ref h30, .int 0, .int 0, .ref h31, .ref h32, .int (-1), .ref h2, .ref h33])), (h2, .inl (K 0, 3600, .inl (fun _ => 0)))] sz) := by
  refine Met.ofW (cc := cX12_limit) (maxL := 2) (ret := (some .int)) (by decide) rfl ?_
  intro p e s m args below meth c s₁ B hml hv
  obtain ⟨rfl, hsz, hP, hK, hD0, hE⟩ := hv
  have hx := B.exec
  have hb := B.bytes
  have hr := B.returns
  have hts := atoms_spec (ws := v_X12_limit_0) B.pre
  have t_ := t_X12_limit_0
  have mw : ∀ w ∈ e_X12_limit_0, w ∈ v_X12_limit_0 := fun w h => List.mem_cons_of_mem _ (List.mem_append_left _ h)
  have hw := fun w (h : w ∈ e_X12_limit_0) => hts w (mw w h)
  have iX12 : ∀ w ∈ wsX120, w ∈ v_X12_limit_0 := fun w h => List.mem_cons_of_mem _ (List.mem_append_right _ (List.mem_append_left _ h))
  have j_X11_act_5 : ∀ w ∈ v_X11_act_5, w ∈ v_X12_limit_0 := fun w h => List.mem_cons_of_mem _ (List.mem_append_right _ (List.mem_append_right _ (List.mem_append_left _ h)))
  have hown : s.vm.findClass RX12 = some m.cls := findClass_of_methodNamed B.named
  have hlocks := B.notSynchronized
  subst hsz
  have hD := hD0.self (sz := s.heap.size)
  generalize hAe : va_A [(h0, .inr (9, [.ref h1, .ref h3, .ref h4, .ref h5, .ref h6, .ref h7, .int 0])), (h1, .inr (8, [.int 1, .int 0, .int (-1), .int 0, .int 0, .int (-1), .int 0, .int 0, .int 0, .int 0, .int 0, .ref h8, .ref h9, .ref h10, .ref h11, .ref h12, .ref h13, .ref h14, .ref h15, .ref h16, .ref h17, .ref h18, .ref h19, .ref h20, .ref h21, .ref h22, .ref h23, .ref h24, .ref h25, .ref h26, .int 0, .ref h27, .ref h28, .ref h29, .ref h30, .int 0, .int 0, .ref h31, .ref h32, .int (-1), .ref h2, .ref h33])), (h2, .inl (K 0, 3600, .inl (fun _ => 0)))] s.heap.size = A at hD ⊢
  have hA : ∀ q : Nat, s.heap.size ≤ q → A q := fun q h => by rw [← hAe]; exact Or.inr h
  have hS : va_S A s.heap s.heap [] := va_S.rf
  have hP : va_P G vwCl [(h0, .inr (9, [.ref h1, .ref h3, .ref h4, .ref h5, .ref h6, .ref h7, .int 0])), (h1, .inr (8, [.int 1, .int 0, .int (-1), .int 0, .int 0, .int (-1), .int 0, .int 0, .int 0, .int 0, .int 0, .ref h8, .ref h9, .ref h10, .ref h11, .ref h12, .ref h13, .ref h14, .ref h15, .ref h16, .ref h17, .ref h18, .ref h19, .ref h20, .ref h21, .ref h22, .ref h23, .ref h24, .ref h25, .ref h26, .int 0, .ref h27, .ref h28, .ref h29, .ref h30, .int 0, .int 0, .ref h31, .ref h32, .int (-1), .ref h2, .ref h33])), (h2, .inl (K 0, 3600, .inl (fun _ => 0)))] s.heap := hP
  have hl := lv_entry ([.ref h0, .int p0]) (n := 2) (Nat.le_of_ble_eq_true rfl)
  rw [lg_entry_eq]
  generalize (lg_sl ([.ref h0, .int p0]) ++ List.replicate (2 - (lg_sl ([.ref h0, .int p0])).length) Slot.unset).toArray = ls at hl ⊢
  have hl : lv_has ls 2 [(0, .ref h0), (1, .int p0)] := hl
  refine lv_aload_n hx hb dX12_limit_0 rfl (lv_at hl 0 rfl) ?_
  refine va_get (D := G) (ci := 9) (v := .ref h1) (C := RX12) (T := TX12) (N := 7) hx hb hts iX12 hown hK hP 0 rfl rfl 0 (by decide) (hw (.fieldLink RX12 16 "MotionFloorModel" "hall" "LMotionFloorModel$Hall;") (List.mem_of_getElem? (i := 0) rfl)) (fun _ h9 => h9) rfl dX12_limit_1 ?_
  refine lv_bipush (v := 6) hx hb dX12_limit_4 (by decide) ?_
  refine lv_iload_n hx hb dX12_limit_6 rfl (lv_at hl 1 rfl) ?_
  refine lv_iconst (v := 0) hx hb dX12_limit_7 (by decide) ?_
  refine lv_iconst (v := 0) hx hb dX12_limit_8 (by decide) ?_
  refine lv_iconst (v := 0) hx hb dX12_limit_9 (by decide) ?_
  have hPc := hP.sub (ws' := [(h1, .inr (8, [.int 1, .int 0, .int (-1), .int 0, .int 0, .int (-1), .int 0, .int 0, .int 0, .int 0, .int 0, .ref h8, .ref h9, .ref h10, .ref h11, .ref h12, .ref h13, .ref h14, .ref h15, .ref h16, .ref h17, .ref h18, .ref h19, .ref h20, .ref h21, .ref h22, .ref h23, .ref h24, .ref h25, .ref h26, .int 0, .ref h27, .ref h28, .ref h29, .ref h30, .int 0, .int 0, .ref h31, .ref h32, .int (-1), .ref h2, .ref h33])), (h2, .inl (K 0, 3600, .inl (fun _ => 0)))]) [1, 2] rfl
  have hDc := hD.sub (ws' := [(h1, .inr (8, [.int 1, .int 0, .int (-1), .int 0, .int 0, .int (-1), .int 0, .int 0, .int 0, .int 0, .int 0, .ref h8, .ref h9, .ref h10, .ref h11, .ref h12, .ref h13, .ref h14, .ref h15, .ref h16, .ref h17, .ref h18, .ref h19, .ref h20, .ref h21, .ref h22, .ref h23, .ref h24, .ref h25, .ref h26, .int 0, .ref h27, .ref h28, .ref h29, .ref h30, .int 0, .int 0, .ref h31, .ref h32, .int (-1), .ref h2, .ref h33])), (h2, .inl (K 0, 3600, .inl (fun _ => 0)))]) [1, 2] (by decide) rfl
  refine wGoi (wc := [(h1, .inr (8, [.int 1, .int 0, .int (-1), .int 0, .int 0, .int (-1), .int 0, .int 0, .int 0, .int 0, .int 0, .ref h8, .ref h9, .ref h10, .ref h11, .ref h12, .ref h13, .ref h14, .ref h15, .ref h16, .ref h17, .ref h18, .ref h19, .ref h20, .ref h21, .ref h22, .ref h23, .ref h24, .ref h25, .ref h26, .int 0, .ref h27, .ref h28, .ref h29, .ref h30, .int 0, .int 0, .ref h31, .ref h32, .int (-1), .ref h2, .ref h33])), (h2, .inl (K 0, 3600, .inl (fun _ => 0)))]) (wr := [(h0, .inr (9, [.ref h1, .ref h3, .ref h4, .ref h5, .ref h6, .ref h7, .int 0]))]) (va_runV (As := [.int 6, .int p0, .int 0, .int 0, .int 0]) (rest := []) ⟨hx, hb, hml, hown, hts⟩ (m_X11_act_5 l G K h1 h2 h8 h9 h10 h11 h12 h13 h14 h15 h16 h17 h18 h19 h20 h21 h22 h23 h24 h25 h26 h27 h28 h29 h30 h31 h32 h33 p0 _) (cwV 5 hts (wGV t_ (mw (.methodLink RX12 40 yX11_act) (List.mem_of_getElem? (i := 1) rfl)) (mw (.instanceMethod yX11_act) (List.mem_of_getElem? (i := 2) rfl)) (mw (.selects RX11 yX11_act yX11_act) (List.mem_of_getElem? (i := 3) rfl)) (mw (.initialized RX11) (List.mem_of_getElem? (i := 4) rfl)) j_X11_act_5) rfl rfl rfl (by decide +kernel) ⟨Nat.le_of_ble_eq_true rfl, Nat.le_of_ble_eq_true rfl⟩) (wPV hK hE hPc hDc 8 0 rfl rfl) rfl rfl hl.1 rfl (lv_room (Nat.le_of_ble_eq_true rfl)) dX12_limit_10 ⟨Nat.le_of_ble_eq_true rfl, Nat.le_of_ble_eq_true rfl⟩) hP hD hS hA [1, 2] [0] rfl rfl rfl (by decide) (fun r u H locs hw hP hD hS => ?_)
  rcases hw with ⟨c_w, rfl, rfl⟩ | ⟨c_w, rfl, rfl⟩
  · have c1 := c_w
    have hP : va_P G vwCl [(h0, .inr (9, [.ref h1, .ref h3, .ref h4, .ref h5, .ref h6, .ref h7, .int 0])), (h1, .inr (8, [.int 1, .int 0, .int (-1), .int 0, .int 0, .int (-1), .int 0, .int 0, .int 0, .int 0, .int 9, .ref h8, .ref h9, .ref h10, .ref h11, .ref h12, .ref h13, .ref h14, .ref h15, .ref h16, .ref h17, .ref h18, .ref h19, .ref h20, .ref h21, .ref h22, .ref h23, .ref h24, .ref h25, .ref h26, .int 0, .ref h27, .ref h28, .ref h29, .ref h30, .int 0, .int 0, .ref h31, .ref h32, .int (-1), .ref h2, .ref h33])), (h2, .inl (K 0, 3600, .inl (fun _ => 0)))] _ := hP
    have hD : va_D A [(h0, .inr (9, [.ref h1, .ref h3, .ref h4, .ref h5, .ref h6, .ref h7, .int 0])), (h1, .inr (8, [.int 1, .int 0, .int (-1), .int 0, .int 0, .int (-1), .int 0, .int 0, .int 0, .int 0, .int 9, .ref h8, .ref h9, .ref h10, .ref h11, .ref h12, .ref h13, .ref h14, .ref h15, .ref h16, .ref h17, .ref h18, .ref h19, .ref h20, .ref h21, .ref h22, .ref h23, .ref h24, .ref h25, .ref h26, .int 0, .ref h27, .ref h28, .ref h29, .ref h30, .int 0, .int 0, .ref h31, .ref h32, .int (-1), .ref h2, .ref h33])), (h2, .inl (K 0, 3600, .inl (fun _ => 0)))] := hD
    have hP9 : va_P G vwCl [(h0, .inr (9, [.ref h1, .ref h3, .ref h4, .ref h5, .ref h6, .ref h7, .int 0])), (h1, .inr (8, [.int 1, .int 0, .int (-1), .int 0, .int 0, .int (-1), .int 0, .int 0, .int 0, .int 0, .int 9, .ref h8, .ref h9, .ref h10, .ref h11, .ref h12, .ref h13, .ref h14, .ref h15, .ref h16, .ref h17, .ref h18, .ref h19, .ref h20, .ref h21, .ref h22, .ref h23, .ref h24, .ref h25, .ref h26, .int 0, .ref h27, .ref h28, .ref h29, .ref h30, .int 0, .int 0, .ref h31, .ref h32, .int (-1), .ref h2, .ref h33])), (h2, .inl (K 0, 3600, .inl (fun _ => 0)))] _ := hP
    have hD9 : va_D A [(h0, .inr (9, [.ref h1, .ref h3, .ref h4, .ref h5, .ref h6, .ref h7, .int 0])), (h1, .inr (8, [.int 1, .int 0, .int (-1), .int 0, .int 0, .int (-1), .int 0, .int 0, .int 0, .int 0, .int 9, .ref h8, .ref h9, .ref h10, .ref h11, .ref h12, .ref h13, .ref h14, .ref h15, .ref h16, .ref h17, .ref h18, .ref h19, .ref h20, .ref h21, .ref h22, .ref h23, .ref h24, .ref h25, .ref h26, .int 0, .ref h27, .ref h28, .ref h29, .ref h30, .int 0, .int 0, .ref h31, .ref h32, .int (-1), .ref h2, .ref h33])), (h2, .inl (K 0, 3600, .inl (fun _ => 0)))] := hD
    exact W.iret (v := (-9)) hx hb hr (fun t ht hW => ⟨⟨(-9), _, rfl, Or.inl ⟨(by first | omega | decide | simp), rfl, rfl⟩, by rw [ht]; exact hP9, hD9⟩, hS.F ht⟩) hS.2.2 dX12_limit_13
  · have c2 := c_w
    have hP : va_P G vwCl [(h0, .inr (9, [.ref h1, .ref h3, .ref h4, .ref h5, .ref h6, .ref h7, .int 0])), (h1, .inr (8, [.int 1, .int 0, .int (-1), .int 0, .int p0, .int (-1), .int 0, .int 1, .int 0, .int 0, .int 0, .ref h8, .ref h9, .ref h10, .ref h11, .ref h12, .ref h13, .ref h14, .ref h15, .ref h16, .ref h17, .ref h18, .ref h19, .ref h20, .ref h21, .ref h22, .ref h23, .ref h24, .ref h25, .ref h26, .int 0, .ref h27, .ref h28, .ref h29, .ref h30, .int 0, .int 0, .ref h31, .ref h32, .int (-1), .ref h2, .ref h33])), (h2, .inl (K 0, 3600, .inl (upd (upd (upd (upd (upd (upd (fun _ => 0) 0 6) 1 p0) 2 0) 3 0) 4 0) 5 p0)))] _ := hP
    have hD : va_D A [(h0, .inr (9, [.ref h1, .ref h3, .ref h4, .ref h5, .ref h6, .ref h7, .int 0])), (h1, .inr (8, [.int 1, .int 0, .int (-1), .int 0, .int p0, .int (-1), .int 0, .int 1, .int 0, .int 0, .int 0, .ref h8, .ref h9, .ref h10, .ref h11, .ref h12, .ref h13, .ref h14, .ref h15, .ref h16, .ref h17, .ref h18, .ref h19, .ref h20, .ref h21, .ref h22, .ref h23, .ref h24, .ref h25, .ref h26, .int 0, .ref h27, .ref h28, .ref h29, .ref h30, .int 0, .int 0, .ref h31, .ref h32, .int (-1), .ref h2, .ref h33])), (h2, .inl (K 0, 3600, .inl (upd (upd (upd (upd (upd (upd (fun _ => 0) 0 6) 1 p0) 2 0) 3 0) 4 0) 5 p0)))] := hD
    have hP9 : va_P G vwCl [(h0, .inr (9, [.ref h1, .ref h3, .ref h4, .ref h5, .ref h6, .ref h7, .int 0])), (h1, .inr (8, [.int 1, .int 0, .int (-1), .int 0, .int p0, .int (-1), .int 0, .int 1, .int 0, .int 0, .int 0, .ref h8, .ref h9, .ref h10, .ref h11, .ref h12, .ref h13, .ref h14, .ref h15, .ref h16, .ref h17, .ref h18, .ref h19, .ref h20, .ref h21, .ref h22, .ref h23, .ref h24, .ref h25, .ref h26, .int 0, .ref h27, .ref h28, .ref h29, .ref h30, .int 0, .int 0, .ref h31, .ref h32, .int (-1), .ref h2, .ref h33])), (h2, .inl (K 0, 3600, .inl (upd (upd (upd (upd (upd (upd (fun _ => 0) 0 6) 1 p0) 2 0) 3 0) 4 0) 5 p0)))] _ := hP
    have hD9 : va_D A [(h0, .inr (9, [.ref h1, .ref h3, .ref h4, .ref h5, .ref h6, .ref h7, .int 0])), (h1, .inr (8, [.int 1, .int 0, .int (-1), .int 0, .int p0, .int (-1), .int 0, .int 1, .int 0, .int 0, .int 0, .ref h8, .ref h9, .ref h10, .ref h11, .ref h12, .ref h13, .ref h14, .ref h15, .ref h16, .ref h17, .ref h18, .ref h19, .ref h20, .ref h21, .ref h22, .ref h23, .ref h24, .ref h25, .ref h26, .int 0, .ref h27, .ref h28, .ref h29, .ref h30, .int 0, .int 0, .ref h31, .ref h32, .int (-1), .ref h2, .ref h33])), (h2, .inl (K 0, 3600, .inl (upd (upd (upd (upd (upd (upd (fun _ => 0) 0 6) 1 p0) 2 0) 3 0) 4 0) 5 p0)))] := hD
    exact W.iret (v := p0) hx hb hr (fun t ht hW => ⟨⟨p0, _, rfl, Or.inr (⟨(by first | omega | decide | simp), rfl, rfl⟩), by rw [ht]; exact hP9, hD9⟩, hS.F ht⟩) hS.2.2 dX12_limit_13
