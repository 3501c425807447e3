def e_X11_reason_23 : List Cond := [.initialized RX12, .static yX12_in, .fieldLink RX11 130 "MotionFloorModel$Hall" "drafted" "I", .fieldLink RX11 81 "MotionFloorModel$Hall" "lying" "[I"]
def v_X11_reason_23 : List Cond := .code yX11_reason cX11_reason 6 (some .int) :: (e_X11_reason_23 ++ (wsX110 ++ (v_X12_in_17 ++ [])))
theorem te_X11_reason_23 : GoodIn lw_tbl e_X11_reason_23 := wGc z277 (wGc z278 (wGc z197 (wGc z169 (wG0))))
theorem t_X11_reason_23 : GoodIn lw_tbl v_X11_reason_23 := wGc z355 (wGa te_X11_reason_23 (wGa zcX11 (wGa t_X12_in_17 (wG0))))
set_option maxHeartbeats 4000000 in
set_option maxRecDepth 100000 in
theorem m_X11_reason_23 (l : Launch) (G : va_G) (K : Nat → ClassId) (h0 h1 h2 h3 h4 h5 h6 h7 h8 h9 h10 h11 h12 h13 h14 h15 h16 h17 h18 h19 h20 h21 h22 h23 h24 h25 h26 h27 : Nat) (p0 : Int32) (sz : Nat) (bp0 : 0 ≤ p0.toInt ∧ p0.toInt ≤ 7) : Met l yX11_reason v_X11_reason_23 ({ frames := 1, cells := 0, slots := 0, locals := 22 }) (va_Pc [.ref h0, .int 14, .int p0, .int 0, .int 0, .int 0] (wS G K sz [(h0, .inr (8, [.int 1, .int 0, .int (-1), .int 0, .int 0, .int (-1), .int 0, .int 0, .int 0, .int 0, .int 0, .ref h2, .ref h3, .ref h4, .ref h5, .ref h6, .ref h7, .ref h8, .ref h9, .ref h10, .ref h11, .ref h12, .ref h13, .ref h14, .ref h15, .ref h16, .ref h17, .ref h18, .ref h19, .ref h20, .int 0, .ref h21, .ref h22, .ref h23, .ref h1, .int 0, .int 0, .ref h24, .ref h25, .int (-1), .ref h26, .ref h27])), (h1, .inl (K 0, 8, .inl (fun _ => 0)))])) (va_Qi (fun (r : Int32) (u : va_W) => (11 = r ∧ u = [(h0, .inr (8, [.int 1, .int 0, .int (-1), .int 0, .int 0, .int (-1), .int 0, .int 0, .int 0, .int 0, .int 0, .ref h2, .ref h3, .ref h4, .ref h5, .ref h6, .ref h7, .ref h8, .ref h9, .ref h10, .ref h11, .ref h12, .ref h13, .ref h14, .ref h15, .ref h16, .ref h17, .ref h18, .ref h19, .ref h20, .int 0, .ref h21, .ref h22, .ref h23, .ref h1, .int 0, .int 0, .ref h24, .ref h25, .int (-1), .ref h26, .ref h27])), (h1, .inl (K 0, 8, .inl (fun _ => 0)))])) (wB G (va_A [(h0, .inr (8, [.int 1, .int 0, .int (-1), .int 0, .int 0, .int (-1), .int 0, .int 0, .int 0, .int 0, .int 0, .ref h2, .ref h3, .ref h4, .ref h5, .ref h6, .ref h7, .ref h8, .ref h9, .ref h10, .ref h11, .ref h12, .ref h13, .ref h14, .ref h15, .ref h16, .ref h17, .ref h18, .ref h19, .ref h20, .int 0, .ref h21, .ref h22, .ref h23, .ref h1, .int 0, .int 0, .ref h24, .ref h25, .int (-1), .ref h26, .ref h27])), (h1, .inl (K 0, 8, .inl (fun _ => 0)))] sz)) (va_A [(h0, .inr (8, [.int 1, .int 0, .int (-1), .int 0, .int 0, .int (-1), .int 0, .int 0, .int 0, .int 0, .int 0, .ref h2, .ref h3, .ref h4, .ref h5, .ref h6, .ref h7, .ref h8, .ref h9, .ref h10, .ref h11, .ref h12, .ref h13, .ref h14, .ref h15, .ref h16, .ref h17, .ref h18, .ref h19, .ref h20, .int 0, .ref h21, .ref h22, .ref h23, .ref h1, .int 0, .int 0, .ref h24, .ref h25, .int (-1), .ref h26, .ref h27])), (h1, .inl (K 0, 8, .inl (fun _ => 0)))] sz)) 0 0 (va_A [(h0, .inr (8, [.int 1, .int 0, .int (-1), .int 0, .int 0, .int (-1), .int 0, .int 0, .int 0, .int 0, .int 0, .ref h2, .ref h3, .ref h4, .ref h5, .ref h6, .ref h7, .ref h8, .ref h9, .ref h10, .ref h11, .ref h12, .ref h13, .ref h14, .ref h15, .ref h16, .ref h17, .ref h18, .ref h19, .ref h20, .int 0, .ref h21, .ref h22, .ref h23, .ref h1, .int 0, .int 0, .ref h24, .ref h25, .int (-1), .ref h26, .ref h27])), (h1, .inl (K 0, 8, .inl (fun _ => 0)))] sz) := by
  refine Met.ofW (cc := cX11_reason) (maxL := 6) (ret := (some .int)) (by decide) rfl ?_
  intro p e s m args below meth c s₁ B hml hv
  obtain ⟨rfl, hsz, hP, hK, hD0, hE⟩ := hv
  have hx := B.exec
  have hb := B.bytes
  have hr := B.returns
  have hts := atoms_spec (ws := v_X11_reason_23) B.pre
  have t_ := t_X11_reason_23
  have mw : ∀ w ∈ e_X11_reason_23, w ∈ v_X11_reason_23 := fun w h => List.mem_cons_of_mem _ (List.mem_append_left _ h)
  have hw := fun w (h : w ∈ e_X11_reason_23) => hts w (mw w h)
  have iX11 : ∀ w ∈ wsX110, w ∈ v_X11_reason_23 := fun w h => List.mem_cons_of_mem _ (List.mem_append_right _ (List.mem_append_left _ h))
  have j_X12_in_17 : ∀ w ∈ v_X12_in_17, w ∈ v_X11_reason_23 := fun w h => List.mem_cons_of_mem _ (List.mem_append_right _ (List.mem_append_right _ (List.mem_append_left _ h)))
  have hown : s.vm.findClass RX11 = some m.cls := findClass_of_methodNamed B.named
  have hlocks := B.notSynchronized
  subst hsz
  have hD := hD0.self (sz := s.heap.size)
  generalize hAe : va_A [(h0, .inr (8, [.int 1, .int 0, .int (-1), .int 0, .int 0, .int (-1), .int 0, .int 0, .int 0, .int 0, .int 0, .ref h2, .ref h3, .ref h4, .ref h5, .ref h6, .ref h7, .ref h8, .ref h9, .ref h10, .ref h11, .ref h12, .ref h13, .ref h14, .ref h15, .ref h16, .ref h17, .ref h18, .ref h19, .ref h20, .int 0, .ref h21, .ref h22, .ref h23, .ref h1, .int 0, .int 0, .ref h24, .ref h25, .int (-1), .ref h26, .ref h27])), (h1, .inl (K 0, 8, .inl (fun _ => 0)))] s.heap.size = A at hD ⊢
  have hA : ∀ q : Nat, s.heap.size ≤ q → A q := fun q h => by rw [← hAe]; exact Or.inr h
  have hS : va_S A s.heap s.heap [] := va_S.rf
  have hP : va_P G vwCl [(h0, .inr (8, [.int 1, .int 0, .int (-1), .int 0, .int 0, .int (-1), .int 0, .int 0, .int 0, .int 0, .int 0, .ref h2, .ref h3, .ref h4, .ref h5, .ref h6, .ref h7, .ref h8, .ref h9, .ref h10, .ref h11, .ref h12, .ref h13, .ref h14, .ref h15, .ref h16, .ref h17, .ref h18, .ref h19, .ref h20, .int 0, .ref h21, .ref h22, .ref h23, .ref h1, .int 0, .int 0, .ref h24, .ref h25, .int (-1), .ref h26, .ref h27])), (h1, .inl (K 0, 8, .inl (fun _ => 0)))] s.heap := hP
  have hl := lv_entry ([.ref h0, .int 14, .int p0, .int 0, .int 0, .int 0]) (n := 6) (Nat.le_of_ble_eq_true rfl)
  rw [lg_entry_eq]
  generalize (lg_sl ([.ref h0, .int 14, .int p0, .int 0, .int 0, .int 0]) ++ List.replicate (6 - (lg_sl ([.ref h0, .int 14, .int p0, .int 0, .int 0, .int 0])).length) Slot.unset).toArray = ls at hl ⊢
  have hl : lv_has ls 6 [(0, .ref h0), (1, .int 14), (2, .int p0), (3, .int 0), (4, .int 0), (5, .int 0)] := hl
  refine lv_iload_n hx hb dX11_reason_0 rfl (lv_at hl 1 rfl) ?_
  refine lv_tableIn (off := 533) (tgt := 534) hx hb dX11_reason_1 (by decide) (by decide) (by decide) (by decide) ?_
  refine lv_iload_n hx hb dX11_reason_534 rfl (lv_at hl 2 rfl) ?_
  refine lv_iconst (v := 0) hx hb dX11_reason_535 (by decide) ?_
  refine lv_bipush (v := 7) hx hb dX11_reason_536 (by decide) ?_
  have hPc := hP.sub (ws' := []) [] rfl
  have hDc := hD.sub (ws' := []) [] (by decide) rfl
  refine wGoi (wc := []) (wr := [(h0, .inr (8, [.int 1, .int 0, .int (-1), .int 0, .int 0, .int (-1), .int 0, .int 0, .int 0, .int 0, .int 0, .ref h2, .ref h3, .ref h4, .ref h5, .ref h6, .ref h7, .ref h8, .ref h9, .ref h10, .ref h11, .ref h12, .ref h13, .ref h14, .ref h15, .ref h16, .ref h17, .ref h18, .ref h19, .ref h20, .int 0, .ref h21, .ref h22, .ref h23, .ref h1, .int 0, .int 0, .ref h24, .ref h25, .int (-1), .ref h26, .ref h27])), (h1, .inl (K 0, 8, .inl (fun _ => 0)))]) (va_runSN (As := [.int p0, .int 0, .int 7]) (rest := []) ⟨hx, hb, hml, hown, hts⟩ (m_X12_in_17 l G K p0 _ (by omega)) ⟨va_cnB (host := "MotionFloorModel") 3 hts (wGP t_ j_X12_in_17) rfl rfl rfl hE.2.2.2.2.2.2.2.2.2.1 (hw (.initialized RX12) (List.mem_of_getElem? (i := 0) rfl)) (by decide +kernel) ⟨Nat.le_of_ble_eq_true rfl, Nat.le_of_ble_eq_true rfl⟩, (hw (.static yX12_in) (List.mem_of_getElem? (i := 1) rfl)), trivial⟩ (wPS hK hE hPc hDc) rfl rfl hl.1 rfl (lv_room (Nat.le_of_ble_eq_true rfl)) dX11_reason_538 ⟨Nat.le_of_ble_eq_true rfl, Nat.le_of_ble_eq_true rfl⟩) hP hD hS hA [] [0, 1] rfl rfl rfl (by decide) (fun r u H locs hw hP hD hS => ?_)
  rcases hw with ⟨rfl, rfl⟩
  have hP : va_P G vwCl [(h0, .inr (8, [.int 1, .int 0, .int (-1), .int 0, .int 0, .int (-1), .int 0, .int 0, .int 0, .int 0, .int 0, .ref h2, .ref h3, .ref h4, .ref h5, .ref h6, .ref h7, .ref h8, .ref h9, .ref h10, .ref h11, .ref h12, .ref h13, .ref h14, .ref h15, .ref h16, .ref h17, .ref h18, .ref h19, .ref h20, .int 0, .ref h21, .ref h22, .ref h23, .ref h1, .int 0, .int 0, .ref h24, .ref h25, .int (-1), .ref h26, .ref h27])), (h1, .inl (K 0, 8, .inl (fun _ => 0)))] _ := hP
  have hD : va_D A [(h0, .inr (8, [.int 1, .int 0, .int (-1), .int 0, .int 0, .int (-1), .int 0, .int 0, .int 0, .int 0, .int 0, .ref h2, .ref h3, .ref h4, .ref h5, .ref h6, .ref h7, .ref h8, .ref h9, .ref h10, .ref h11, .ref h12, .ref h13, .ref h14, .ref h15, .ref h16, .ref h17, .ref h18, .ref h19, .ref h20, .int 0, .ref h21, .ref h22, .ref h23, .ref h1, .int 0, .int 0, .ref h24, .ref h25, .int (-1), .ref h26, .ref h27])), (h1, .inl (K 0, 8, .inl (fun _ => 0)))] := hD
  refine lv_if_ne (tgt := 549) hx hb dX11_reason_541 (by decide) (fun _ => ?_) (fun c_ => absurd c_ (by decide))
  refine lv_aload_n hx hb dX11_reason_549 rfl (lv_at hl 0 rfl) ?_
  refine va_get (D := G) (ci := 8) (v := .int 0) (C := RX11) (T := TX11) (N := 42) hx hb hts iX11 hown hK hP 0 rfl rfl 35 (by decide) (hw (.fieldLink RX11 130 "MotionFloorModel$Hall" "drafted" "I") (List.mem_of_getElem? (i := 2) rfl)) (fun _ h9 => h9) rfl dX11_reason_550 ?_
  refine lv_if_gt (tgt := 565) hx hb dX11_reason_553 (by decide) (fun c_ => absurd c_ (by decide)) (fun _ => ?_)
  refine lv_aload_n hx hb dX11_reason_556 rfl (lv_at hl 0 rfl) ?_
  refine va_get (D := G) (ci := 8) (v := .ref h1) (C := RX11) (T := TX11) (N := 42) hx hb hts iX11 hown hK hP 0 rfl rfl 34 (by decide) (hw (.fieldLink RX11 81 "MotionFloorModel$Hall" "lying" "[I") (List.mem_of_getElem? (i := 3) rfl)) (fun _ h9 => h9) rfl dX11_reason_557 ?_
  refine lv_iload_n hx hb dX11_reason_560 rfl (lv_at hl 2 rfl) ?_
  refine va_iald hx hb hK hP 1 0 rfl rfl (vp_in_iff.mpr (by omega)) dX11_reason_561 ?_
  refine wTop (v1 := .int 0) rfl ?_
  refine lv_if_ne (tgt := 570) hx hb dX11_reason_562 (by decide) (fun c_ => absurd c_ (by decide)) (fun _ => ?_)
  refine lv_bipush (v := 11) hx hb dX11_reason_565 (by decide) ?_
  refine lv_goto (tgt := 571) hx hb dX11_reason_567 (by decide) ?_
  have hP9 : va_P G vwCl [(h0, .inr (8, [.int 1, .int 0, .int (-1), .int 0, .int 0, .int (-1), .int 0, .int 0, .int 0, .int 0, .int 0, .ref h2, .ref h3, .ref h4, .ref h5, .ref h6, .ref h7, .ref h8, .ref h9, .ref h10, .ref h11, .ref h12, .ref h13, .ref h14, .ref h15, .ref h16, .ref h17, .ref h18, .ref h19, .ref h20, .int 0, .ref h21, .ref h22, .ref h23, .ref h1, .int 0, .int 0, .ref h24, .ref h25, .int (-1), .ref h26, .ref h27])), (h1, .inl (K 0, 8, .inl (fun _ => 0)))] _ := hP
  have hD9 : va_D A [(h0, .inr (8, [.int 1, .int 0, .int (-1), .int 0, .int 0, .int (-1), .int 0, .int 0, .int 0, .int 0, .int 0, .ref h2, .ref h3, .ref h4, .ref h5, .ref h6, .ref h7, .ref h8, .ref h9, .ref h10, .ref h11, .ref h12, .ref h13, .ref h14, .ref h15, .ref h16, .ref h17, .ref h18, .ref h19, .ref h20, .int 0, .ref h21, .ref h22, .ref h23, .ref h1, .int 0, .int 0, .ref h24, .ref h25, .int (-1), .ref h26, .ref h27])), (h1, .inl (K 0, 8, .inl (fun _ => 0)))] := hD
  exact W.iret (v := 11) hx hb hr (fun t ht hW => ⟨⟨11, _, rfl, ⟨rfl, rfl⟩, by rw [ht]; exact hP9, hD9⟩, hS.F ht⟩) hS.2.2 dX11_reason_571
def e_X11_act_23 : List Cond := [.methodLink RX11 196 yX11_reason, .instanceMethod yX11_reason, .selects RX11 yX11_reason yX11_reason, .initialized RX11, .fieldLink RX11 127 "MotionFloorModel$Hall" "why" "I"]
def v_X11_act_23 : List Cond := .code yX11_act cX11_act 10 (some .int) :: (e_X11_act_23 ++ (wsX110 ++ (v_X11_reason_23 ++ [])))
theorem te_X11_act_23 : GoodIn lw_tbl e_X11_act_23 := wGc z364 (wGc z363 (wGc z362 (wGc z227 (wGc z198 (wG0)))))
theorem t_X11_act_23 : GoodIn lw_tbl v_X11_act_23 := wGc z365 (wGa te_X11_act_23 (wGa zcX11 (wGa t_X11_reason_23 (wG0))))
set_option maxHeartbeats 4000000 in
set_option maxRecDepth 100000 in
theorem m_X11_act_23 (l : Launch) (G : va_G) (K : Nat → ClassId) (h0 h1 h2 h3 h4 h5 h6 h7 h8 h9 h10 h11 h12 h13 h14 h15 h16 h17 h18 h19 h20 h21 h22 h23 h24 h25 h26 h27 : Nat) (p0 : Int32) (sz : Nat) (bp0 : 0 ≤ p0.toInt ∧ p0.toInt ≤ 7) : Met l yX11_act v_X11_act_23 ({ frames := 2, cells := 0, slots := 0, locals := 47 }) (va_Pc [.ref h0, .int 14, .int p0, .int 0, .int 0, .int 0] (wS G K sz [(h0, .inr (8, [.int 1, .int 0, .int (-1), .int 0, .int 0, .int (-1), .int 0, .int 0, .int 0, .int 0, .int 0, .ref h2, .ref h3, .ref h4, .ref h5, .ref h6, .ref h7, .ref h8, .ref h9, .ref h10, .ref h11, .ref h12, .ref h13, .ref h14, .ref h15, .ref h16, .ref h17, .ref h18, .ref h19, .ref h20, .int 0, .ref h21, .ref h22, .ref h23, .ref h1, .int 0, .int 0, .ref h24, .ref h25, .int (-1), .ref h26, .ref h27])), (h1, .inl (K 0, 8, .inl (fun _ => 0)))])) (va_Qi (fun (r : Int32) (u : va_W) => ((-11) = r ∧ u = [(h0, .inr (8, [.int 1, .int 0, .int (-1), .int 0, .int 0, .int (-1), .int 0, .int 0, .int 0, .int 0, .int 11, .ref h2, .ref h3, .ref h4, .ref h5, .ref h6, .ref h7, .ref h8, .ref h9, .ref h10, .ref h11, .ref h12, .ref h13, .ref h14, .ref h15, .ref h16, .ref h17, .ref h18, .ref h19, .ref h20, .int 0, .ref h21, .ref h22, .ref h23, .ref h1, .int 0, .int 0, .ref h24, .ref h25, .int (-1), .ref h26, .ref h27])), (h1, .inl (K 0, 8, .inl (fun _ => 0)))])) (wB G (va_A [(h0, .inr (8, [.int 1, .int 0, .int (-1), .int 0, .int 0, .int (-1), .int 0, .int 0, .int 0, .int 0, .int 0, .ref h2, .ref h3, .ref h4, .ref h5, .ref h6, .ref h7, .ref h8, .ref h9, .ref h10, .ref h11, .ref h12, .ref h13, .ref h14, .ref h15, .ref h16, .ref h17, .ref h18, .ref h19, .ref h20, .int 0, .ref h21, .ref h22, .ref h23, .ref h1, .int 0, .int 0, .ref h24, .ref h25, .int (-1), .ref h26, .ref h27])), (h1, .inl (K 0, 8, .inl (fun _ => 0)))] sz)) (va_A [(h0, .inr (8, [.int 1, .int 0, .int (-1), .int 0, .int 0, .int (-1), .int 0, .int 0, .int 0, .int 0, .int 0, .ref h2, .ref h3, .ref h4, .ref h5, .ref h6, .ref h7, .ref h8, .ref h9, .ref h10, .ref h11, .ref h12, .ref h13, .ref h14, .ref h15, .ref h16, .ref h17, .ref h18, .ref h19, .ref h20, .int 0, .ref h21, .ref h22, .ref h23, .ref h1, .int 0, .int 0, .ref h24, .ref h25, .int (-1), .ref h26, .ref h27])), (h1, .inl (K 0, 8, .inl (fun _ => 0)))] sz)) 0 0 (va_A [(h0, .inr (8, [.int 1, .int 0, .int (-1), .int 0, .int 0, .int (-1), .int 0, .int 0, .int 0, .int 0, .int 0, .ref h2, .ref h3, .ref h4, .ref h5, .ref h6, .ref h7, .ref h8, .ref h9, .ref h10, .ref h11, .ref h12, .ref h13, .ref h14, .ref h15, .ref h16, .ref h17, .ref h18, .ref h19, .ref h20, .int 0, .ref h21, .ref h22, .ref h23, .ref h1, .int 0, .int 0, .ref h24, .ref h25, .int (-1), .ref h26, .ref h27])), (h1, .inl (K 0, 8, .inl (fun _ => 0)))] sz) := by
  refine Met.ofW (cc := cX11_act) (maxL := 10) (ret := (some .int)) (by decide) rfl ?_
  intro p e s m args below meth c s₁ B hml hv
  obtain ⟨rfl, hsz, hP, hK, hD0, hE⟩ := hv
  have hx := B.exec
  have hb := B.bytes
  have hr := B.returns
  have hts := atoms_spec (ws := v_X11_act_23) B.pre
  have t_ := t_X11_act_23
  have mw : ∀ w ∈ e_X11_act_23, w ∈ v_X11_act_23 := fun w h => List.mem_cons_of_mem _ (List.mem_append_left _ h)
  have hw := fun w (h : w ∈ e_X11_act_23) => hts w (mw w h)
  have iX11 : ∀ w ∈ wsX110, w ∈ v_X11_act_23 := fun w h => List.mem_cons_of_mem _ (List.mem_append_right _ (List.mem_append_left _ h))
  have j_X11_reason_23 : ∀ w ∈ v_X11_reason_23, w ∈ v_X11_act_23 := fun w h => List.mem_cons_of_mem _ (List.mem_append_right _ (List.mem_append_right _ (List.mem_append_left _ h)))
  have hown : s.vm.findClass RX11 = some m.cls := findClass_of_methodNamed B.named
  have hlocks := B.notSynchronized
  subst hsz
  have hD := hD0.self (sz := s.heap.size)
  generalize hAe : va_A [(h0, .inr (8, [.int 1, .int 0, .int (-1), .int 0, .int 0, .int (-1), .int 0, .int 0, .int 0, .int 0, .int 0, .ref h2, .ref h3, .ref h4, .ref h5, .ref h6, .ref h7, .ref h8, .ref h9, .ref h10, .ref h11, .ref h12, .ref h13, .ref h14, .ref h15, .ref h16, .ref h17, .ref h18, .ref h19, .ref h20, .int 0, .ref h21, .ref h22, .ref h23, .ref h1, .int 0, .int 0, .ref h24, .ref h25, .int (-1), .ref h26, .ref h27])), (h1, .inl (K 0, 8, .inl (fun _ => 0)))] s.heap.size = A at hD ⊢
  have hA : ∀ q : Nat, s.heap.size ≤ q → A q := fun q h => by rw [← hAe]; exact Or.inr h
  have hS : va_S A s.heap s.heap [] := va_S.rf
  have hP : va_P G vwCl [(h0, .inr (8, [.int 1, .int 0, .int (-1), .int 0, .int 0, .int (-1), .int 0, .int 0, .int 0, .int 0, .int 0, .ref h2, .ref h3, .ref h4, .ref h5, .ref h6, .ref h7, .ref h8, .ref h9, .ref h10, .ref h11, .ref h12, .ref h13, .ref h14, .ref h15, .ref h16, .ref h17, .ref h18, .ref h19, .ref h20, .int 0, .ref h21, .ref h22, .ref h23, .ref h1, .int 0, .int 0, .ref h24, .ref h25, .int (-1), .ref h26, .ref h27])), (h1, .inl (K 0, 8, .inl (fun _ => 0)))] s.heap := hP
  have hl := lv_entry ([.ref h0, .int 14, .int p0, .int 0, .int 0, .int 0]) (n := 10) (Nat.le_of_ble_eq_true rfl)
  rw [lg_entry_eq]
  generalize (lg_sl ([.ref h0, .int 14, .int p0, .int 0, .int 0, .int 0]) ++ List.replicate (10 - (lg_sl ([.ref h0, .int 14, .int p0, .int 0, .int 0, .int 0])).length) Slot.unset).toArray = ls at hl ⊢
  have hl : lv_has ls 10 [(0, .ref h0), (1, .int 14), (2, .int p0), (3, .int 0), (4, .int 0), (5, .int 0)] := hl
  refine lv_aload_n hx hb dX11_act_0 rfl (lv_at hl 0 rfl) ?_
  refine lv_iload_n hx hb dX11_act_1 rfl (lv_at hl 1 rfl) ?_
  refine lv_iload_n hx hb dX11_act_2 rfl (lv_at hl 2 rfl) ?_
  refine lv_iload_n hx hb dX11_act_3 rfl (lv_at hl 3 rfl) ?_
  refine lv_iload hx hb dX11_act_4 (lv_at hl 4 rfl) ?_
  refine lv_iload hx hb dX11_act_6 (lv_at hl 5 rfl) ?_
  have hPc := hP.sub (ws' := [(h0, .inr (8, [.int 1, .int 0, .int (-1), .int 0, .int 0, .int (-1), .int 0, .int 0, .int 0, .int 0, .int 0, .ref h2, .ref h3, .ref h4, .ref h5, .ref h6, .ref h7, .ref h8, .ref h9, .ref h10, .ref h11, .ref h12, .ref h13, .ref h14, .ref h15, .ref h16, .ref h17, .ref h18, .ref h19, .ref h20, .int 0, .ref h21, .ref h22, .ref h23, .ref h1, .int 0, .int 0, .ref h24, .ref h25, .int (-1), .ref h26, .ref h27])), (h1, .inl (K 0, 8, .inl (fun _ => 0)))]) [0, 1] rfl
  have hDc := hD.sub (ws' := [(h0, .inr (8, [.int 1, .int 0, .int (-1), .int 0, .int 0, .int (-1), .int 0, .int 0, .int 0, .int 0, .int 0, .ref h2, .ref h3, .ref h4, .ref h5, .ref h6, .ref h7, .ref h8, .ref h9, .ref h10, .ref h11, .ref h12, .ref h13, .ref h14, .ref h15, .ref h16, .ref h17, .ref h18, .ref h19, .ref h20, .int 0, .ref h21, .ref h22, .ref h23, .ref h1, .int 0, .int 0, .ref h24, .ref h25, .int (-1), .ref h26, .ref h27])), (h1, .inl (K 0, 8, .inl (fun _ => 0)))]) [0, 1] (by decide) rfl
  refine wGoi (wc := [(h0, .inr (8, [.int 1, .int 0, .int (-1), .int 0, .int 0, .int (-1), .int 0, .int 0, .int 0, .int 0, .int 0, .ref h2, .ref h3, .ref h4, .ref h5, .ref h6, .ref h7, .ref h8, .ref h9, .ref h10, .ref h11, .ref h12, .ref h13, .ref h14, .ref h15, .ref h16, .ref h17, .ref h18, .ref h19, .ref h20, .int 0, .ref h21, .ref h22, .ref h23, .ref h1, .int 0, .int 0, .ref h24, .ref h25, .int (-1), .ref h26, .ref h27])), (h1, .inl (K 0, 8, .inl (fun _ => 0)))]) (wr := []) (va_runV (As := [.int 14, .int p0, .int 0, .int 0, .int 0]) (rest := []) ⟨hx, hb, hml, hown, hts⟩ (m_X11_reason_23 l G K h0 h1 h2 h3 h4 h5 h6 h7 h8 h9 h10 h11 h12 h13 h14 h15 h16 h17 h18 h19 h20 h21 h22 h23 h24 h25 h26 h27 p0 _ (by omega)) (cwV 5 hts (wGV t_ (mw (.methodLink RX11 196 yX11_reason) (List.mem_of_getElem? (i := 0) rfl)) (mw (.instanceMethod yX11_reason) (List.mem_of_getElem? (i := 1) rfl)) (mw (.selects RX11 yX11_reason yX11_reason) (List.mem_of_getElem? (i := 2) rfl)) (mw (.initialized RX11) (List.mem_of_getElem? (i := 3) rfl)) j_X11_reason_23) rfl rfl rfl (by decide +kernel) ⟨Nat.le_of_ble_eq_true rfl, Nat.le_of_ble_eq_true rfl⟩) (wPV hK hE hPc hDc 8 0 rfl rfl) rfl rfl hl.1 rfl (lv_room (Nat.le_of_ble_eq_true rfl)) dX11_act_8 ⟨Nat.le_of_ble_eq_true rfl, Nat.le_of_ble_eq_true rfl⟩) hP hD hS hA [0, 1] [] rfl rfl rfl (by decide) (fun r u H locs hw hP hD hS => ?_)
  rcases hw with ⟨rfl, rfl⟩
  have hP : va_P G vwCl [(h0, .inr (8, [.int 1, .int 0, .int (-1), .int 0, .int 0, .int (-1), .int 0, .int 0, .int 0, .int 0, .int 0, .ref h2, .ref h3, .ref h4, .ref h5, .ref h6, .ref h7, .ref h8, .ref h9, .ref h10, .ref h11, .ref h12, .ref h13, .ref h14, .ref h15, .ref h16, .ref h17, .ref h18, .ref h19, .ref h20, .int 0, .ref h21, .ref h22, .ref h23, .ref h1, .int 0, .int 0, .ref h24, .ref h25, .int (-1), .ref h26, .ref h27])), (h1, .inl (K 0, 8, .inl (fun _ => 0)))] _ := hP
  have hD : va_D A [(h0, .inr (8, [.int 1, .int 0, .int (-1), .int 0, .int 0, .int (-1), .int 0, .int 0, .int 0, .int 0, .int 0, .ref h2, .ref h3, .ref h4, .ref h5, .ref h6, .ref h7, .ref h8, .ref h9, .ref h10, .ref h11, .ref h12, .ref h13, .ref h14, .ref h15, .ref h16, .ref h17, .ref h18, .ref h19, .ref h20, .int 0, .ref h21, .ref h22, .ref h23, .ref h1, .int 0, .int 0, .ref h24, .ref h25, .int (-1), .ref h26, .ref h27])), (h1, .inl (K 0, 8, .inl (fun _ => 0)))] := hD
  refine lv_istore (lv' := [(6, .int 11), (0, .ref h0), (1, .int 14), (2, .int p0), (3, .int 0), (4, .int 0), (5, .int 0)]) hx hb dX11_act_11 hl (by decide) rfl (fun ls hl => ?_)
  refine lv_iload hx hb dX11_act_13 (lv_at hl 0 rfl) ?_
  refine lv_if_ne (tgt := 32) hx hb dX11_act_15 (by decide) (fun _ => ?_) (fun c_ => absurd c_ (by decide))
  refine lv_aload_n hx hb dX11_act_32 rfl (lv_at hl 1 rfl) ?_
  refine lv_iload hx hb dX11_act_33 (lv_at hl 0 rfl) ?_
  refine va_put (D := G) (ci := 8) (v := .int 11) (ty := .int) (C := RX11) (T := TX11) (N := 42) hx hb hts iX11 tyX11 tyX11_ok nmX11 hown hK hP hD hS 0 rfl rfl 10 (by decide) (hw (.fieldLink RX11 127 "MotionFloorModel$Hall" "why" "I") (List.mem_of_getElem? (i := 4) rfl)) (fun _ h9 => h9) rfl (by decide +kernel) rfl rfl (Nat.le_of_ble_eq_true rfl) dX11_act_35 (fun H locs hP hD hS => ?_)
  have hP : va_P G vwCl [(h0, .inr (8, [.int 1, .int 0, .int (-1), .int 0, .int 0, .int (-1), .int 0, .int 0, .int 0, .int 0, .int 11, .ref h2, .ref h3, .ref h4, .ref h5, .ref h6, .ref h7, .ref h8, .ref h9, .ref h10, .ref h11, .ref h12, .ref h13, .ref h14, .ref h15, .ref h16, .ref h17, .ref h18, .ref h19, .ref h20, .int 0, .ref h21, .ref h22, .ref h23, .ref h1, .int 0, .int 0, .ref h24, .ref h25, .int (-1), .ref h26, .ref h27])), (h1, .inl (K 0, 8, .inl (fun _ => 0)))] _ := hP
  have hD : va_D A [(h0, .inr (8, [.int 1, .int 0, .int (-1), .int 0, .int 0, .int (-1), .int 0, .int 0, .int 0, .int 0, .int 11, .ref h2, .ref h3, .ref h4, .ref h5, .ref h6, .ref h7, .ref h8, .ref h9, .ref h10, .ref h11, .ref h12, .ref h13, .ref h14, .ref h15, .ref h16, .ref h17, .ref h18, .ref h19, .ref h20, .int 0, .ref h21, .ref h22, .ref h23, .ref h1, .int 0, .int 0, .ref h24, .ref h25, .int (-1), .ref h26, .ref h27])), (h1, .inl (K 0, 8, .inl (fun _ => 0)))] := hD
  refine lv_iload hx hb dX11_act_38 (lv_at hl 0 rfl) ?_
  refine lv_if_le (tgt := 47) hx hb dX11_act_40 (by decide) (fun c_ => absurd c_ (by decide)) (fun _ => ?_)
  refine lv_iload hx hb dX11_act_43 (lv_at hl 0 rfl) ?_
  refine lv_ineg hx hb dX11_act_45 ?_
  refine wTop (v1 := .int (-11)) (congrArg Value.int (by decide)) ?_
  have hP9 : va_P G vwCl [(h0, .inr (8, [.int 1, .int 0, .int (-1), .int 0, .int 0, .int (-1), .int 0, .int 0, .int 0, .int 0, .int 11, .ref h2, .ref h3, .ref h4, .ref h5, .ref h6, .ref h7, .ref h8, .ref h9, .ref h10, .ref h11, .ref h12, .ref h13, .ref h14, .ref h15, .ref h16, .ref h17, .ref h18, .ref h19, .ref h20, .int 0, .ref h21, .ref h22, .ref h23, .ref h1, .int 0, .int 0, .ref h24, .ref h25, .int (-1), .ref h26, .ref h27])), (h1, .inl (K 0, 8, .inl (fun _ => 0)))] _ := hP
  have hD9 : va_D A [(h0, .inr (8, [.int 1, .int 0, .int (-1), .int 0, .int 0, .int (-1), .int 0, .int 0, .int 0, .int 0, .int 11, .ref h2, .ref h3, .ref h4, .ref h5, .ref h6, .ref h7, .ref h8, .ref h9, .ref h10, .ref h11, .ref h12, .ref h13, .ref h14, .ref h15, .ref h16, .ref h17, .ref h18, .ref h19, .ref h20, .int 0, .ref h21, .ref h22, .ref h23, .ref h1, .int 0, .int 0, .ref h24, .ref h25, .int (-1), .ref h26, .ref h27])), (h1, .inl (K 0, 8, .inl (fun _ => 0)))] := hD
  exact W.iret (v := (-11)) hx hb hr (fun t ht hW => ⟨⟨(-11), _, rfl, ⟨rfl, rfl⟩, by rw [ht]; exact hP9, hD9⟩, hS.F ht⟩) hS.2.2 dX11_act_46
def e_X12_take_1 : List Cond := [.fieldLink RX12 16 "MotionFloorModel" "hall" "LMotionFloorModel$Hall;", .methodLink RX12 40 yX11_act, .instanceMethod yX11_act, .selects RX11 yX11_act yX11_act, .initialized RX11]
def v_X12_take_1 : List Cond := .code yX12_take cX12_take 2 (some .int) :: (e_X12_take_1 ++ (wsX120 ++ (v_X11_act_23 ++ [])))
theorem te_X12_take_1 : GoodIn lw_tbl e_X12_take_1 := wGc z225 (wGc z368 (wGc z367 (wGc z366 (wGc z227 (wG0)))))
theorem t_X12_take_1 : GoodIn lw_tbl v_X12_take_1 := wGc z597 (wGa te_X12_take_1 (wGa zcX12 (wGa t_X11_act_23 (wG0))))
set_option maxHeartbeats 4000000 in
set_option maxRecDepth 100000 in
theorem m_X12_take_1 (l : Launch) (G : va_G) (K : Nat → ClassId) (h0 h1 h2 h3 h4 h5 h6 h7 h8 h9 h10 h11 h12 h13 h14 h15 h16 h17 h18 h19 h20 h21 h22 h23 h24 h25 h26 h27 h28 h29 h30 h31 h32 h33 : Nat) (p0 : Int32) (sz : Nat) (bp0 : 0 ≤ p0.toInt ∧ p0.toInt ≤ 7) : Met l yX12_take v_X12_take_1 ({ frames := 3, cells := 0, slots := 0, locals := 76 }) (va_Pc [.ref h0, .int p0] (wS G K sz [(h0, .inr (9, [.ref h1, .ref h3, .ref h4, .ref h5, .ref h6, .ref h7, .int 0])), (h1, .inr (8, [.int 1, .int 0, .int (-1), .int 0, .int 0, .int (-1), .int 0, .int 0, .int 0, .int 0, .int 0, .ref h8, .ref h9, .ref h10, .ref h11, .ref h12, .ref h13, .ref h14, .ref h15, .ref h16, .ref h17, .ref h18, .ref h19, .ref h20, .ref h21, .ref h22, .ref h23, .ref h24, .ref h25, .ref h26, .int 0, .ref h27, .ref h28, .ref h29, .ref h2, .int 0, .int 0, .ref h30, .ref h31, .int (-1), .ref h32, .ref h33])), (h2, .inl (K 0, 8, .inl (fun _ => 0)))])) (va_Qi (fun (r : Int32) (u : va_W) => ((-11) = r ∧ u = [(h0, .inr (9, [.ref h1, .ref h3, .ref h4, .ref h5, .ref h6, .ref h7, .int 0])), (h1, .inr (8, [.int 1, .int 0, .int (-1), .int 0, .int 0, .int (-1), .int 0, .int 0, .int 0, .int 0, .int 11, .ref h8, .ref h9, .ref h10, .ref h11, .ref h12, .ref h13, .ref h14, .ref h15, .ref h16, .ref h17, .ref h18, .ref h19, .ref h20, .ref h21, .ref h22, .ref h23, .ref h24, .ref h25, .ref h26, .int 0, .ref h27, .ref h28, .ref h29, .ref h2, .int 0, .int 0, .ref h30, .ref h31, .int (-1), .ref h32, .ref h33])), (h2, .inl (K 0, 8, .inl (fun _ => 0)))])) (wB G (va_A [(h0, .inr (9, [.ref h1, .ref h3, .ref h4, .ref h5, .ref h6, .ref h7, .int 0])), (h1, .inr (8, [.int 1, .int 0, .int (-1), .int 0, .int 0, .int (-1), .int 0, .int 0, .int 0, .int 0, .int 0, .ref h8, .ref h9, .ref h10, .ref h11, .ref h12, .ref h13, .ref h14, .ref h15, .ref h16, .ref h17, .ref h18, .ref h19, .ref h20, .ref h21, .ref h22, .ref h23, .ref h24, .ref h25, .ref h26, .int 0, .ref h27, .ref h28, .ref h29, .ref h2, .int 0, .int 0, .ref h30, .ref h31, .int (-1), .ref h32, .ref h33])), (h2, .inl (K 0, 8, .inl (fun _ => 0)))] sz)) (va_A [(h0, .inr (9, [.ref h1, .ref h3, .ref h4, .ref h5, .ref h6, .ref h7, .int 0])), (h1, .inr (8, [.int 1, .int 0, .int (-1), .int 0, .int 0, .int (-1), .int 0, .int 0, .int 0, .int 0, .int 0, .ref h8, .ref h9, .ref h10, .ref h11, .ref h12, .ref h13, .ref h14, .ref h15, .ref h16, .ref h17, .ref h18, .ref h19, .ref h20, .ref h21, .ref h22, .ref h23, .ref h24, .ref h25, .ref h26, .int 0, .ref h27, .ref h28, .ref h29, .ref h2, .int 0, .int 0, .ref h30, .ref h31, .int (-1), .ref h32, .ref h33])), (h2, .inl (K 0, 8, .inl (fun _ => 0)))] sz)) 0 0 (va_A [(h0, .inr (9, [.ref h1, .ref h3, .ref h4, .ref h5, .ref h6, .ref h7, .int 0])), (h1, .inr (8, [.int 1, .int 0, .int (-1), .int 0, .int 0, .int (-1), .int 0, .int 0, .int 0, .int 0, .int 0, .ref h8, .ref h9, .ref h10, .ref h11, .ref h12, .ref h13, .ref h14, .ref h15, .ref h16, .ref h17, .ref h18, .ref h19, .ref h20, .ref h21, .ref h22, .ref h23, .ref h24, .ref h25, .ref h26, .int 0, .ref h27, .ref h28, .ref h29, .ref h2, .int 0, .int 0, .ref h30, .ref h31, .int (-1), .ref h32, .ref h33])), (h2, .inl (K 0, 8, .inl (fun _ => 0)))] sz) := by
  refine Met.ofW (cc := cX12_take) (maxL := 2) (ret := (some .int)) (by decide) rfl ?_
  intro p e s m args below meth c s₁ B hml hv
  obtain ⟨rfl, hsz, hP, hK, hD0, hE⟩ := hv
  have hx := B.exec
  have hb := B.bytes
  have hr := B.returns
  have hts := atoms_spec (ws := v_X12_take_1) B.pre
  have t_ := t_X12_take_1
  have mw : ∀ w ∈ e_X12_take_1, w ∈ v_X12_take_1 := fun w h => List.mem_cons_of_mem _ (List.mem_append_left _ h)
  have hw := fun w (h : w ∈ e_X12_take_1) => hts w (mw w h)
  have iX12 : ∀ w ∈ wsX120, w ∈ v_X12_take_1 := fun w h => List.mem_cons_of_mem _ (List.mem_append_right _ (List.mem_append_left _ h))
  have j_X11_act_23 : ∀ w ∈ v_X11_act_23, w ∈ v_X12_take_1 := fun w h => List.mem_cons_of_mem _ (List.mem_append_right _ (List.mem_append_right _ (List.mem_append_left _ h)))
  have hown : s.vm.findClass RX12 = some m.cls := findClass_of_methodNamed B.named
  have hlocks := B.notSynchronized
  subst hsz
  have hD := hD0.self (sz := s.heap.size)
  generalize hAe : va_A [(h0, .inr (9, [.ref h1, .ref h3, .ref h4, .ref h5, .ref h6, .ref h7, .int 0])), (h1, .inr (8, [.int 1, .int 0, .int (-1), .int 0, .int 0, .int (-1), .int 0, .int 0, .int 0, .int 0, .int 0, .ref h8, .ref h9, .ref h10, .ref h11, .ref h12, .ref h13, .ref h14, .ref h15, .ref h16, .ref h17, .ref h18, .ref h19, .ref h20, .ref h21, .ref h22, .ref h23, .ref h24, .ref h25, .ref h26, .int 0, .ref h27, .ref h28, .ref h29, .ref h2, .int 0, .int 0, .ref h30, .ref h31, .int (-1), .ref h32, .ref h33])), (h2, .inl (K 0, 8, .inl (fun _ => 0)))] s.heap.size = A at hD ⊢
  have hA : ∀ q : Nat, s.heap.size ≤ q → A q := fun q h => by rw [← hAe]; exact Or.inr h
  have hS : va_S A s.heap s.heap [] := va_S.rf
  have hP : va_P G vwCl [(h0, .inr (9, [.ref h1, .ref h3, .ref h4, .ref h5, .ref h6, .ref h7, .int 0])), (h1, .inr (8, [.int 1, .int 0, .int (-1), .int 0, .int 0, .int (-1), .int 0, .int 0, .int 0, .int 0, .int 0, .ref h8, .ref h9, .ref h10, .ref h11, .ref h12, .ref h13, .ref h14, .ref h15, .ref h16, .ref h17, .ref h18, .ref h19, .ref h20, .ref h21, .ref h22, .ref h23, .ref h24, .ref h25, .ref h26, .int 0, .ref h27, .ref h28, .ref h29, .ref h2, .int 0, .int 0, .ref h30, .ref h31, .int (-1), .ref h32, .ref h33])), (h2, .inl (K 0, 8, .inl (fun _ => 0)))] s.heap := hP
  have hl := lv_entry ([.ref h0, .int p0]) (n := 2) (Nat.le_of_ble_eq_true rfl)
  rw [lg_entry_eq]
  generalize (lg_sl ([.ref h0, .int p0]) ++ List.replicate (2 - (lg_sl ([.ref h0, .int p0])).length) Slot.unset).toArray = ls at hl ⊢
  have hl : lv_has ls 2 [(0, .ref h0), (1, .int p0)] := hl
  refine lv_aload_n hx hb dX12_take_0 rfl (lv_at hl 0 rfl) ?_
  refine va_get (D := G) (ci := 9) (v := .ref h1) (C := RX12) (T := TX12) (N := 7) hx hb hts iX12 hown hK hP 0 rfl rfl 0 (by decide) (hw (.fieldLink RX12 16 "MotionFloorModel" "hall" "LMotionFloorModel$Hall;") (List.mem_of_getElem? (i := 0) rfl)) (fun _ h9 => h9) rfl dX12_take_1 ?_
  refine lv_bipush (v := 14) hx hb dX12_take_4 (by decide) ?_
  refine lv_iload_n hx hb dX12_take_6 rfl (lv_at hl 1 rfl) ?_
  refine lv_iconst (v := 0) hx hb dX12_take_7 (by decide) ?_
  refine lv_iconst (v := 0) hx hb dX12_take_8 (by decide) ?_
  refine lv_iconst (v := 0) hx hb dX12_take_9 (by decide) ?_
  have hPc := hP.sub (ws' := [(h1, .inr (8, [.int 1, .int 0, .int (-1), .int 0, .int 0, .int (-1), .int 0, .int 0, .int 0, .int 0, .int 0, .ref h8, .ref h9, .ref h10, .ref h11, .ref h12, .ref h13, .ref h14, .ref h15, .ref h16, .ref h17, .ref h18, .ref h19, .ref h20, .ref h21, .ref h22, .ref h23, .ref h24, .ref h25, .ref h26, .int 0, .ref h27, .ref h28, .ref h29, .ref h2, .int 0, .int 0, .ref h30, .ref h31, .int (-1), .ref h32, .ref h33])), (h2, .inl (K 0, 8, .inl (fun _ => 0)))]) [1, 2] rfl
  have hDc := hD.sub (ws' := [(h1, .inr (8, [.int 1, .int 0, .int (-1), .int 0, .int 0, .int (-1), .int 0, .int 0, .int 0, .int 0, .int 0, .ref h8, .ref h9, .ref h10, .ref h11, .ref h12, .ref h13, .ref h14, .ref h15, .ref h16, .ref h17, .ref h18, .ref h19, .ref h20, .ref h21, .ref h22, .ref h23, .ref h24, .ref h25, .ref h26, .int 0, .ref h27, .ref h28, .ref h29, .ref h2, .int 0, .int 0, .ref h30, .ref h31, .int (-1), .ref h32, .ref h33])), (h2, .inl (K 0, 8, .inl (fun _ => 0)))]) [1, 2] (by decide) rfl
  refine wGoi (wc := [(h1, .inr (8, [.int 1, .int 0, .int (-1), .int 0, .int 0, .int (-1), .int 0, .int 0, .int 0, .int 0, .int 0, .ref h8, .ref h9, .ref h10, .ref h11, .ref h12, .ref h13, .ref h14, .ref h15, .ref h16, .ref h17, .ref h18, .ref h19, .ref h20, .ref h21, .ref h22, .ref h23, .ref h24, .ref h25, .ref h26, .int 0, .ref h27, .ref h28, .ref h29, .ref h2, .int 0, .int 0, .ref h30, .ref h31, .int (-1), .ref h32, .ref h33])), (h2, .inl (K 0, 8, .inl (fun _ => 0)))]) (wr := [(h0, .inr (9, [.ref h1, .ref h3, .ref h4, .ref h5, .ref h6, .ref h7, .int 0]))]) (va_runV (As := [.int 14, .int p0, .int 0, .int 0, .int 0]) (rest := []) ⟨hx, hb, hml, hown, hts⟩ (m_X11_act_23 l G K h1 h2 h8 h9 h10 h11 h12 h13 h14 h15 h16 h17 h18 h19 h20 h21 h22 h23 h24 h25 h26 h27 h28 h29 h30 h31 h32 h33 p0 _ (by omega)) (cwV 5 hts (wGV t_ (mw (.methodLink RX12 40 yX11_act) (List.mem_of_getElem? (i := 1) rfl)) (mw (.instanceMethod yX11_act) (List.mem_of_getElem? (i := 2) rfl)) (mw (.selects RX11 yX11_act yX11_act) (List.mem_of_getElem? (i := 3) rfl)) (mw (.initialized RX11) (List.mem_of_getElem? (i := 4) rfl)) j_X11_act_23) rfl rfl rfl (by decide +kernel) ⟨Nat.le_of_ble_eq_true rfl, Nat.le_of_ble_eq_true rfl⟩) (wPV hK hE hPc hDc 8 0 rfl rfl) rfl rfl hl.1 rfl (lv_room (Nat.le_of_ble_eq_true rfl)) dX12_take_10 ⟨Nat.le_of_ble_eq_true rfl, Nat.le_of_ble_eq_true rfl⟩) hP hD hS hA [1, 2] [0] rfl rfl rfl (by decide) (fun r u H locs hw hP hD hS => ?_)
  rcases hw with ⟨rfl, rfl⟩
  have hP : va_P G vwCl [(h0, .inr (9, [.ref h1, .ref h3, .ref h4, .ref h5, .ref h6, .ref h7, .int 0])), (h1, .inr (8, [.int 1, .int 0, .int (-1), .int 0, .int 0, .int (-1), .int 0, .int 0, .int 0, .int 0, .int 11, .ref h8, .ref h9, .ref h10, .ref h11, .ref h12, .ref h13, .ref h14, .ref h15, .ref h16, .ref h17, .ref h18, .ref h19, .ref h20, .ref h21, .ref h22, .ref h23, .ref h24, .ref h25, .ref h26, .int 0, .ref h27, .ref h28, .ref h29, .ref h2, .int 0, .int 0, .ref h30, .ref h31, .int (-1), .ref h32, .ref h33])), (h2, .inl (K 0, 8, .inl (fun _ => 0)))] _ := hP
  have hD : va_D A [(h0, .inr (9, [.ref h1, .ref h3, .ref h4, .ref h5, .ref h6, .ref h7, .int 0])), (h1, .inr (8, [.int 1, .int 0, .int (-1), .int 0, .int 0, .int (-1), .int 0, .int 0, .int 0, .int 0, .int 11, .ref h8, .ref h9, .ref h10, .ref h11, .ref h12, .ref h13, .ref h14, .ref h15, .ref h16, .ref h17, .ref h18, .ref h19, .ref h20, .ref h21, .ref h22, .ref h23, .ref h24, .ref h25, .ref h26, .int 0, .ref h27, .ref h28, .ref h29, .ref h2, .int 0, .int 0, .ref h30, .ref h31, .int (-1), .ref h32, .ref h33])), (h2, .inl (K 0, 8, .inl (fun _ => 0)))] := hD
  have hP9 : va_P G vwCl [(h0, .inr (9, [.ref h1, .ref h3, .ref h4, .ref h5, .ref h6, .ref h7, .int 0])), (h1, .inr (8, [.int 1, .int 0, .int (-1), .int 0, .int 0, .int (-1), .int 0, .int 0, .int 0, .int 0, .int 11, .ref h8, .ref h9, .ref h10, .ref h11, .ref h12, .ref h13, .ref h14, .ref h15, .ref h16, .ref h17, .ref h18, .ref h19, .ref h20, .ref h21, .ref h22, .ref h23, .ref h24, .ref h25, .ref h26, .int 0, .ref h27, .ref h28, .ref h29, .ref h2, .int 0, .int 0, .ref h30, .ref h31, .int (-1), .ref h32, .ref h33])), (h2, .inl (K 0, 8, .inl (fun _ => 0)))] _ := hP
  have hD9 : va_D A [(h0, .inr (9, [.ref h1, .ref h3, .ref h4, .ref h5, .ref h6, .ref h7, .int 0])), (h1, .inr (8, [.int 1, .int 0, .int (-1), .int 0, .int 0, .int (-1), .int 0, .int 0, .int 0, .int 0, .int 11, .ref h8, .ref h9, .ref h10, .ref h11, .ref h12, .ref h13, .ref h14, .ref h15, .ref h16, .ref h17, .ref h18, .ref h19, .ref h20, .ref h21, .ref h22, .ref h23, .ref h24, .ref h25, .ref h26, .int 0, .ref h27, .ref h28, .ref h29, .ref h2, .int 0, .int 0, .ref h30, .ref h31, .int (-1), .ref h32, .ref h33])), (h2, .inl (K 0, 8, .inl (fun _ => 0)))] := hD
  exact W.iret (v := (-11)) hx hb hr (fun t ht hW => ⟨⟨(-11), _, rfl, ⟨rfl, rfl⟩, by rw [ht]; exact hP9, hD9⟩, hS.F ht⟩) hS.2.2 dX12_take_13
def e_X8_againstMove_0 : List Cond := [.fieldLink RX8 141 "MotionFloor$Assembly" "draft" "LMotionFloor$Place;", .methodLink RX8 170 yX6_isEmpty, .instanceMethod yX6_isEmpty, .selects RX6 yX6_isEmpty yX6_isEmpty, .initialized RX6]
def v_X8_againstMove_0 : List Cond := .code yX8_againstMove cX8_againstMove 4 (some .int) :: (e_X8_againstMove_0 ++ (wsX00 ++ (v_X6_isEmpty_0 ++ [])))
theorem te_X8_againstMove_0 : GoodIn lw_tbl e_X8_againstMove_0 := wGc z539 (wGc z574 (wGc z573 (wGc z572 (wGc z95 (wG0)))))
theorem t_X8_againstMove_0 : GoodIn lw_tbl v_X8_againstMove_0 := wGc z604 (wGa te_X8_againstMove_0 (wGa zcX0 (wGa t_X6_isEmpty_0 (wG0))))
set_option maxHeartbeats 4000000 in
set_option maxRecDepth 100000 in
theorem m_X8_againstMove_0 (l : Launch) (G : va_G) (K : Nat → ClassId) (h0 h1 h2 h3 h4 h5 h6 h7 h8 : Nat) (p0 : Int32) (sz : Nat) : Met l yX8_againstMove v_X8_againstMove_0 ({ frames := 1, cells := 0, slots := 0, locals := 20 }) (va_Pc [.ref h0, .int p0] (wS G K sz [(h0, .inr (0, [.ref h2, .ref h3, .ref h1, .ref h4, .ref h5, .ref h6, .ref h7, .int 0, .int 0, .int 0, .null])), (h1, .inr (5, [.int 0, .ref h8]))])) (va_Qi (fun (r : Int32) (u : va_W) => (11 = r ∧ u = [(h0, .inr (0, [.ref h2, .ref h3, .ref h1, .ref h4, .ref h5, .ref h6, .ref h7, .int 0, .int 0, .int 0, .null])), (h1, .inr (5, [.int 0, .ref h8]))])) (wB G (va_A [(h0, .inr (0, [.ref h2, .ref h3, .ref h1, .ref h4, .ref h5, .ref h6, .ref h7, .int 0, .int 0, .int 0, .null])), (h1, .inr (5, [.int 0, .ref h8]))] sz)) (va_A [(h0, .inr (0, [.ref h2, .ref h3, .ref h1, .ref h4, .ref h5, .ref h6, .ref h7, .int 0, .int 0, .int 0, .null])), (h1, .inr (5, [.int 0, .ref h8]))] sz)) 0 0 (va_A [(h0, .inr (0, [.ref h2, .ref h3, .ref h1, .ref h4, .ref h5, .ref h6, .ref h7, .int 0, .int 0, .int 0, .null])), (h1, .inr (5, [.int 0, .ref h8]))] sz) := by
  refine Met.ofW (cc := cX8_againstMove) (maxL := 4) (ret := (some .int)) (by decide) rfl ?_
  intro p e s m args below meth c s₁ B hml hv
  obtain ⟨rfl, hsz, hP, hK, hD0, hE⟩ := hv
  have hx := B.exec
  have hb := B.bytes
  have hr := B.returns
  have hts := atoms_spec (ws := v_X8_againstMove_0) B.pre
  have t_ := t_X8_againstMove_0
  have mw : ∀ w ∈ e_X8_againstMove_0, w ∈ v_X8_againstMove_0 := fun w h => List.mem_cons_of_mem _ (List.mem_append_left _ h)
  have hw := fun w (h : w ∈ e_X8_againstMove_0) => hts w (mw w h)
  have iX0 : ∀ w ∈ wsX00, w ∈ v_X8_againstMove_0 := fun w h => List.mem_cons_of_mem _ (List.mem_append_right _ (List.mem_append_left _ h))
  have j_X6_isEmpty_0 : ∀ w ∈ v_X6_isEmpty_0, w ∈ v_X8_againstMove_0 := fun w h => List.mem_cons_of_mem _ (List.mem_append_right _ (List.mem_append_right _ (List.mem_append_left _ h)))
  have hown : s.vm.findClass RX8 = some m.cls := findClass_of_methodNamed B.named
  have hlocks := B.notSynchronized
  subst hsz
  have hD := hD0.self (sz := s.heap.size)
  generalize hAe : va_A [(h0, .inr (0, [.ref h2, .ref h3, .ref h1, .ref h4, .ref h5, .ref h6, .ref h7, .int 0, .int 0, .int 0, .null])), (h1, .inr (5, [.int 0, .ref h8]))] s.heap.size = A at hD ⊢
  have hA : ∀ q : Nat, s.heap.size ≤ q → A q := fun q h => by rw [← hAe]; exact Or.inr h
  have hS : va_S A s.heap s.heap [] := va_S.rf
  have hP : va_P G vwCl [(h0, .inr (0, [.ref h2, .ref h3, .ref h1, .ref h4, .ref h5, .ref h6, .ref h7, .int 0, .int 0, .int 0, .null])), (h1, .inr (5, [.int 0, .ref h8]))] s.heap := hP
  have hl := lv_entry ([.ref h0, .int p0]) (n := 4) (Nat.le_of_ble_eq_true rfl)
  rw [lg_entry_eq]
  generalize (lg_sl ([.ref h0, .int p0]) ++ List.replicate (4 - (lg_sl ([.ref h0, .int p0])).length) Slot.unset).toArray = ls at hl ⊢
  have hl : lv_has ls 4 [(0, .ref h0), (1, .int p0)] := hl
  refine lv_aload_n hx hb dX8_againstMove_0 rfl (lv_at hl 0 rfl) ?_
  refine va_get (D := G) (ci := 0) (v := .ref h1) (C := RX0) (T := TX0) (N := 11) hx hb hts iX0 hown hK hP 0 rfl rfl 2 (by decide) (hw (.fieldLink RX8 141 "MotionFloor$Assembly" "draft" "LMotionFloor$Place;") (List.mem_of_getElem? (i := 0) rfl)) (fun _ h9 => h9) rfl dX8_againstMove_1 ?_
  have hPc := hP.sub (ws' := [(h1, .inr (5, [.int 0, .ref h8]))]) [1] rfl
  have hDc := hD.sub (ws' := [(h1, .inr (5, [.int 0, .ref h8]))]) [1] (by decide) rfl
  refine wGoi (wc := [(h1, .inr (5, [.int 0, .ref h8]))]) (wr := [(h0, .inr (0, [.ref h2, .ref h3, .ref h1, .ref h4, .ref h5, .ref h6, .ref h7, .int 0, .int 0, .int 0, .null]))]) (va_runV (As := []) (rest := []) ⟨hx, hb, hml, hown, hts⟩ (m_X6_isEmpty_0 l G K h1 h8 _) (cwV 0 hts (wGV t_ (mw (.methodLink RX8 170 yX6_isEmpty) (List.mem_of_getElem? (i := 1) rfl)) (mw (.instanceMethod yX6_isEmpty) (List.mem_of_getElem? (i := 2) rfl)) (mw (.selects RX6 yX6_isEmpty yX6_isEmpty) (List.mem_of_getElem? (i := 3) rfl)) (mw (.initialized RX6) (List.mem_of_getElem? (i := 4) rfl)) j_X6_isEmpty_0) rfl rfl rfl (by decide +kernel) ⟨Nat.le_of_ble_eq_true rfl, Nat.le_of_ble_eq_true rfl⟩) (wPV hK hE hPc hDc 5 0 rfl rfl) rfl rfl hl.1 rfl (lv_room (Nat.le_of_ble_eq_true rfl)) dX8_againstMove_4 ⟨Nat.le_of_ble_eq_true rfl, Nat.le_of_ble_eq_true rfl⟩) hP hD hS hA [1] [0] rfl rfl rfl (by decide) (fun r u H locs hw hP hD hS => ?_)
  rcases hw with ⟨rfl, rfl⟩
  have hP : va_P G vwCl [(h0, .inr (0, [.ref h2, .ref h3, .ref h1, .ref h4, .ref h5, .ref h6, .ref h7, .int 0, .int 0, .int 0, .null])), (h1, .inr (5, [.int 0, .ref h8]))] _ := hP
  have hD : va_D A [(h0, .inr (0, [.ref h2, .ref h3, .ref h1, .ref h4, .ref h5, .ref h6, .ref h7, .int 0, .int 0, .int 0, .null])), (h1, .inr (5, [.int 0, .ref h8]))] := hD
  refine lv_if_eq (tgt := 13) hx hb dX8_againstMove_7 (by decide) (fun c_ => absurd c_ (by decide)) (fun _ => ?_)
  refine lv_bipush (v := 11) hx hb dX8_againstMove_10 (by decide) ?_
  have hP9 : va_P G vwCl [(h0, .inr (0, [.ref h2, .ref h3, .ref h1, .ref h4, .ref h5, .ref h6, .ref h7, .int 0, .int 0, .int 0, .null])), (h1, .inr (5, [.int 0, .ref h8]))] _ := hP
  have hD9 : va_D A [(h0, .inr (0, [.ref h2, .ref h3, .ref h1, .ref h4, .ref h5, .ref h6, .ref h7, .int 0, .int 0, .int 0, .null])), (h1, .inr (5, [.int 0, .ref h8]))] := hD
  exact W.iret (v := 11) hx hb hr (fun t ht hW => ⟨⟨11, _, rfl, ⟨rfl, rfl⟩, by rw [ht]; exact hP9, hD9⟩, hS.F ht⟩) hS.2.2 dX8_againstMove_12
def e_X8_againstOnMotion_0 : List Cond := [.methodLink RX8 76 yX8_againstMove, .static yX8_againstMove, .initialized RX8]
def v_X8_againstOnMotion_0 : List Cond := .code yX8_againstOnMotion cX8_againstOnMotion 6 (some .int) :: (e_X8_againstOnMotion_0 ++ (v_X8_againstMove_0 ++ []))
theorem te_X8_againstOnMotion_0 : GoodIn lw_tbl e_X8_againstOnMotion_0 := wGc z606 (wGc z605 (wGc z297 (wG0)))
theorem t_X8_againstOnMotion_0 : GoodIn lw_tbl v_X8_againstOnMotion_0 := wGc z607 (wGa te_X8_againstOnMotion_0 (wGa t_X8_againstMove_0 (wG0)))
set_option maxHeartbeats 4000000 in
set_option maxRecDepth 100000 in
theorem m_X8_againstOnMotion_0 (l : Launch) (G : va_G) (K : Nat → ClassId) (h0 h1 h2 h3 h4 h5 h6 h7 h8 : Nat) (p0 : Int32) (sz : Nat) : Met l yX8_againstOnMotion v_X8_againstOnMotion_0 ({ frames := 2, cells := 0, slots := 0, locals := 43 }) (va_Pc [.ref h0, .int 15, .int p0, .int 0] (wS G K sz [(h0, .inr (0, [.ref h2, .ref h3, .ref h1, .ref h4, .ref h5, .ref h6, .ref h7, .int 0, .int 0, .int 0, .null])), (h1, .inr (5, [.int 0, .ref h8]))])) (va_Qi (fun (r : Int32) (u : va_W) => (11 = r ∧ u = [(h0, .inr (0, [.ref h2, .ref h3, .ref h1, .ref h4, .ref h5, .ref h6, .ref h7, .int 0, .int 0, .int 0, .null])), (h1, .inr (5, [.int 0, .ref h8]))])) (wB G (va_A [(h0, .inr (0, [.ref h2, .ref h3, .ref h1, .ref h4, .ref h5, .ref h6, .ref h7, .int 0, .int 0, .int 0, .null])), (h1, .inr (5, [.int 0, .ref h8]))] sz)) (va_A [(h0, .inr (0, [.ref h2, .ref h3, .ref h1, .ref h4, .ref h5, .ref h6, .ref h7, .int 0, .int 0, .int 0, .null])), (h1, .inr (5, [.int 0, .ref h8]))] sz)) 0 0 (va_A [(h0, .inr (0, [.ref h2, .ref h3, .ref h1, .ref h4, .ref h5, .ref h6, .ref h7, .int 0, .int 0, .int 0, .null])), (h1, .inr (5, [.int 0, .ref h8]))] sz) := by
  refine Met.ofW (cc := cX8_againstOnMotion) (maxL := 6) (ret := (some .int)) (by decide) rfl ?_
  intro p e s m args below meth c s₁ B hml hv
  obtain ⟨rfl, hsz, hP, hK, hD0, hE⟩ := hv
  have hx := B.exec
  have hb := B.bytes
  have hr := B.returns
  have hts := atoms_spec (ws := v_X8_againstOnMotion_0) B.pre
  have t_ := t_X8_againstOnMotion_0
  have mw : ∀ w ∈ e_X8_againstOnMotion_0, w ∈ v_X8_againstOnMotion_0 := fun w h => List.mem_cons_of_mem _ (List.mem_append_left _ h)
  have hw := fun w (h : w ∈ e_X8_againstOnMotion_0) => hts w (mw w h)
  have j_X8_againstMove_0 : ∀ w ∈ v_X8_againstMove_0, w ∈ v_X8_againstOnMotion_0 := fun w h => List.mem_cons_of_mem _ (List.mem_append_right _ (List.mem_append_left _ h))
  have hown : s.vm.findClass RX8 = some m.cls := findClass_of_methodNamed B.named
  have hlocks := B.notSynchronized
  subst hsz
  have hD := hD0.self (sz := s.heap.size)
  generalize hAe : va_A [(h0, .inr (0, [.ref h2, .ref h3, .ref h1, .ref h4, .ref h5, .ref h6, .ref h7, .int 0, .int 0, .int 0, .null])), (h1, .inr (5, [.int 0, .ref h8]))] s.heap.size = A at hD ⊢
  have hA : ∀ q : Nat, s.heap.size ≤ q → A q := fun q h => by rw [← hAe]; exact Or.inr h
  have hS : va_S A s.heap s.heap [] := va_S.rf
  have hP : va_P G vwCl [(h0, .inr (0, [.ref h2, .ref h3, .ref h1, .ref h4, .ref h5, .ref h6, .ref h7, .int 0, .int 0, .int 0, .null])), (h1, .inr (5, [.int 0, .ref h8]))] s.heap := hP
  have hl := lv_entry ([.ref h0, .int 15, .int p0, .int 0]) (n := 6) (Nat.le_of_ble_eq_true rfl)
  rw [lg_entry_eq]
  generalize (lg_sl ([.ref h0, .int 15, .int p0, .int 0]) ++ List.replicate (6 - (lg_sl ([.ref h0, .int 15, .int p0, .int 0])).length) Slot.unset).toArray = ls at hl ⊢
  have hl : lv_has ls 6 [(0, .ref h0), (1, .int 15), (2, .int p0), (3, .int 0)] := hl
  refine lv_iload_n hx hb dX8_againstOnMotion_0 rfl (lv_at hl 1 rfl) ?_
  refine lv_bipush (v := 15) hx hb dX8_againstOnMotion_1 (by decide) ?_
  refine lv_icmp_ne (tgt := 12) hx hb dX8_againstOnMotion_3 (by decide) (fun c_ => absurd c_ (by decide)) (fun _ => ?_)
  refine lv_aload_n hx hb dX8_againstOnMotion_6 rfl (lv_at hl 0 rfl) ?_
  refine lv_iload_n hx hb dX8_againstOnMotion_7 rfl (lv_at hl 2 rfl) ?_
  have hPc := hP.sub (ws' := [(h0, .inr (0, [.ref h2, .ref h3, .ref h1, .ref h4, .ref h5, .ref h6, .ref h7, .int 0, .int 0, .int 0, .null])), (h1, .inr (5, [.int 0, .ref h8]))]) [0, 1] rfl
  have hDc := hD.sub (ws' := [(h0, .inr (0, [.ref h2, .ref h3, .ref h1, .ref h4, .ref h5, .ref h6, .ref h7, .int 0, .int 0, .int 0, .null])), (h1, .inr (5, [.int 0, .ref h8]))]) [0, 1] (by decide) rfl
  refine wGoi (wc := [(h0, .inr (0, [.ref h2, .ref h3, .ref h1, .ref h4, .ref h5, .ref h6, .ref h7, .int 0, .int 0, .int 0, .null])), (h1, .inr (5, [.int 0, .ref h8]))]) (wr := []) (va_runS (As := [.ref h0, .int p0]) (rest := []) ⟨hx, hb, hml, hown, hts⟩ (m_X8_againstMove_0 l G K h0 h1 h2 h3 h4 h5 h6 h7 h8 p0 _) (va_cwS 2 hts (wGS t_ (mw (.methodLink RX8 76 yX8_againstMove) (List.mem_of_getElem? (i := 0) rfl)) (mw (.static yX8_againstMove) (List.mem_of_getElem? (i := 1) rfl)) (mw (.initialized RX8) (List.mem_of_getElem? (i := 2) rfl)) j_X8_againstMove_0) rfl rfl rfl (by decide +kernel) ⟨Nat.le_of_ble_eq_true rfl, Nat.le_of_ble_eq_true rfl⟩) (wPS hK hE hPc hDc) rfl rfl hl.1 rfl (lv_room (Nat.le_of_ble_eq_true rfl)) dX8_againstOnMotion_8 ⟨Nat.le_of_ble_eq_true rfl, Nat.le_of_ble_eq_true rfl⟩) hP hD hS hA [0, 1] [] rfl rfl rfl (by decide) (fun r u H locs hw hP hD hS => ?_)
  rcases hw with ⟨rfl, rfl⟩
  have hP : va_P G vwCl [(h0, .inr (0, [.ref h2, .ref h3, .ref h1, .ref h4, .ref h5, .ref h6, .ref h7, .int 0, .int 0, .int 0, .null])), (h1, .inr (5, [.int 0, .ref h8]))] _ := hP
  have hD : va_D A [(h0, .inr (0, [.ref h2, .ref h3, .ref h1, .ref h4, .ref h5, .ref h6, .ref h7, .int 0, .int 0, .int 0, .null])), (h1, .inr (5, [.int 0, .ref h8]))] := hD
  have hP9 : va_P G vwCl [(h0, .inr (0, [.ref h2, .ref h3, .ref h1, .ref h4, .ref h5, .ref h6, .ref h7, .int 0, .int 0, .int 0, .null])), (h1, .inr (5, [.int 0, .ref h8]))] _ := hP
  have hD9 : va_D A [(h0, .inr (0, [.ref h2, .ref h3, .ref h1, .ref h4, .ref h5, .ref h6, .ref h7, .int 0, .int 0, .int 0, .null])), (h1, .inr (5, [.int 0, .ref h8]))] := hD
  exact W.iret (v := 11) hx hb hr (fun t ht hW => ⟨⟨11, _, rfl, ⟨rfl, rfl⟩, by rw [ht]; exact hP9, hD9⟩, hS.F ht⟩) hS.2.2 dX8_againstOnMotion_11
def e_X8_against_14 : List Cond := [.methodLink RX8 19 yX8_againstOnMotion, .static yX8_againstOnMotion, .initialized RX8]
def v_X8_against_14 : List Cond := .code yX8_against cX8_against 7 (some .int) :: (e_X8_against_14 ++ (v_X8_againstOnMotion_0 ++ []))
theorem te_X8_against_14 : GoodIn lw_tbl e_X8_against_14 := wGc z609 (wGc z608 (wGc z297 (wG0)))
theorem t_X8_against_14 : GoodIn lw_tbl v_X8_against_14 := wGc z310 (wGa te_X8_against_14 (wGa t_X8_againstOnMotion_0 (wG0)))
set_option maxHeartbeats 4000000 in
set_option maxRecDepth 100000 in
theorem m_X8_against_14 (l : Launch) (G : va_G) (K : Nat → ClassId) (h0 h1 h2 h3 h4 h5 h6 h7 h8 : Nat) (p0 : Int32) (sz : Nat) : Met l yX8_against v_X8_against_14 ({ frames := 3, cells := 0, slots := 0, locals := 68 }) (va_Pc [.ref h0, .int 15, .int p0, .int 0, .int 0, .int 0] (wS G K sz [(h0, .inr (0, [.ref h2, .ref h3, .ref h1, .ref h4, .ref h5, .ref h6, .ref h7, .int 0, .int 0, .int 0, .null])), (h1, .inr (5, [.int 0, .ref h8]))])) (va_Qi (fun (r : Int32) (u : va_W) => (11 = r ∧ u = [(h0, .inr (0, [.ref h2, .ref h3, .ref h1, .ref h4, .ref h5, .ref h6, .ref h7, .int 0, .int 0, .int 0, .null])), (h1, .inr (5, [.int 0, .ref h8]))])) (wB G (va_A [(h0, .inr (0, [.ref h2, .ref h3, .ref h1, .ref h4, .ref h5, .ref h6, .ref h7, .int 0, .int 0, .int 0, .null])), (h1, .inr (5, [.int 0, .ref h8]))] sz)) (va_A [(h0, .inr (0, [.ref h2, .ref h3, .ref h1, .ref h4, .ref h5, .ref h6, .ref h7, .int 0, .int 0, .int 0, .null])), (h1, .inr (5, [.int 0, .ref h8]))] sz)) 0 0 (va_A [(h0, .inr (0, [.ref h2, .ref h3, .ref h1, .ref h4, .ref h5, .ref h6, .ref h7, .int 0, .int 0, .int 0, .null])), (h1, .inr (5, [.int 0, .ref h8]))] sz) := by
  refine Met.ofW (cc := cX8_against) (maxL := 7) (ret := (some .int)) (by decide) rfl ?_
  intro p e s m args below meth c s₁ B hml hv
  obtain ⟨rfl, hsz, hP, hK, hD0, hE⟩ := hv
  have hx := B.exec
  have hb := B.bytes
  have hr := B.returns
  have hts := atoms_spec (ws := v_X8_against_14) B.pre
  have t_ := t_X8_against_14
  have mw : ∀ w ∈ e_X8_against_14, w ∈ v_X8_against_14 := fun w h => List.mem_cons_of_mem _ (List.mem_append_left _ h)
  have hw := fun w (h : w ∈ e_X8_against_14) => hts w (mw w h)
  have j_X8_againstOnMotion_0 : ∀ w ∈ v_X8_againstOnMotion_0, w ∈ v_X8_against_14 := fun w h => List.mem_cons_of_mem _ (List.mem_append_right _ (List.mem_append_left _ h))
  have hown : s.vm.findClass RX8 = some m.cls := findClass_of_methodNamed B.named
  have hlocks := B.notSynchronized
  subst hsz
  have hD := hD0.self (sz := s.heap.size)
  generalize hAe : va_A [(h0, .inr (0, [.ref h2, .ref h3, .ref h1, .ref h4, .ref h5, .ref h6, .ref h7, .int 0, .int 0, .int 0, .null])), (h1, .inr (5, [.int 0, .ref h8]))] s.heap.size = A at hD ⊢
  have hA : ∀ q : Nat, s.heap.size ≤ q → A q := fun q h => by rw [← hAe]; exact Or.inr h
  have hS : va_S A s.heap s.heap [] := va_S.rf
  have hP : va_P G vwCl [(h0, .inr (0, [.ref h2, .ref h3, .ref h1, .ref h4, .ref h5, .ref h6, .ref h7, .int 0, .int 0, .int 0, .null])), (h1, .inr (5, [.int 0, .ref h8]))] s.heap := hP
  have hl := lv_entry ([.ref h0, .int 15, .int p0, .int 0, .int 0, .int 0]) (n := 7) (Nat.le_of_ble_eq_true rfl)
  rw [lg_entry_eq]
  generalize (lg_sl ([.ref h0, .int 15, .int p0, .int 0, .int 0, .int 0]) ++ List.replicate (7 - (lg_sl ([.ref h0, .int 15, .int p0, .int 0, .int 0, .int 0])).length) Slot.unset).toArray = ls at hl ⊢
  have hl : lv_has ls 7 [(0, .ref h0), (1, .int 15), (2, .int p0), (3, .int 0), (4, .int 0), (5, .int 0)] := hl
  refine lv_iload_n hx hb dX8_against_0 rfl (lv_at hl 1 rfl) ?_
  refine lv_bipush (v := 9) hx hb dX8_against_1 (by decide) ?_
  refine lv_icmp_gt (tgt := 18) hx hb dX8_against_3 (by decide) (fun _ => ?_) (fun c_ => absurd c_ (by decide))
  refine lv_iload_n hx hb dX8_against_18 rfl (lv_at hl 1 rfl) ?_
  refine lv_bipush (v := 14) hx hb dX8_against_19 (by decide) ?_
  refine lv_icmp_gt (tgt := 40) hx hb dX8_against_21 (by decide) (fun _ => ?_) (fun c_ => absurd c_ (by decide))
  refine lv_aload_n hx hb dX8_against_40 rfl (lv_at hl 0 rfl) ?_
  refine lv_iload_n hx hb dX8_against_41 rfl (lv_at hl 1 rfl) ?_
  refine lv_iload_n hx hb dX8_against_42 rfl (lv_at hl 2 rfl) ?_
  refine lv_iload_n hx hb dX8_against_43 rfl (lv_at hl 3 rfl) ?_
  have hPc := hP.sub (ws' := [(h0, .inr (0, [.ref h2, .ref h3, .ref h1, .ref h4, .ref h5, .ref h6, .ref h7, .int 0, .int 0, .int 0, .null])), (h1, .inr (5, [.int 0, .ref h8]))]) [0, 1] rfl
  have hDc := hD.sub (ws' := [(h0, .inr (0, [.ref h2, .ref h3, .ref h1, .ref h4, .ref h5, .ref h6, .ref h7, .int 0, .int 0, .int 0, .null])), (h1, .inr (5, [.int 0, .ref h8]))]) [0, 1] (by decide) rfl
  refine wGoi (wc := [(h0, .inr (0, [.ref h2, .ref h3, .ref h1, .ref h4, .ref h5, .ref h6, .ref h7, .int 0, .int 0, .int 0, .null])), (h1, .inr (5, [.int 0, .ref h8]))]) (wr := []) (va_runS (As := [.ref h0, .int 15, .int p0, .int 0]) (rest := []) ⟨hx, hb, hml, hown, hts⟩ (m_X8_againstOnMotion_0 l G K h0 h1 h2 h3 h4 h5 h6 h7 h8 p0 _) (va_cwS 4 hts (wGS t_ (mw (.methodLink RX8 19 yX8_againstOnMotion) (List.mem_of_getElem? (i := 0) rfl)) (mw (.static yX8_againstOnMotion) (List.mem_of_getElem? (i := 1) rfl)) (mw (.initialized RX8) (List.mem_of_getElem? (i := 2) rfl)) j_X8_againstOnMotion_0) rfl rfl rfl (by decide +kernel) ⟨Nat.le_of_ble_eq_true rfl, Nat.le_of_ble_eq_true rfl⟩) (wPS hK hE hPc hDc) rfl rfl hl.1 rfl (lv_room (Nat.le_of_ble_eq_true rfl)) dX8_against_44 ⟨Nat.le_of_ble_eq_true rfl, Nat.le_of_ble_eq_true rfl⟩) hP hD hS hA [0, 1] [] rfl rfl rfl (by decide) (fun r u H locs hw hP hD hS => ?_)
  rcases hw with ⟨rfl, rfl⟩
  have hP : va_P G vwCl [(h0, .inr (0, [.ref h2, .ref h3, .ref h1, .ref h4, .ref h5, .ref h6, .ref h7, .int 0, .int 0, .int 0, .null])), (h1, .inr (5, [.int 0, .ref h8]))] _ := hP
  have hD : va_D A [(h0, .inr (0, [.ref h2, .ref h3, .ref h1, .ref h4, .ref h5, .ref h6, .ref h7, .int 0, .int 0, .int 0, .null])), (h1, .inr (5, [.int 0, .ref h8]))] := hD
  refine lv_istore (lv' := [(6, .int 11), (0, .ref h0), (1, .int 15), (2, .int p0), (3, .int 0), (4, .int 0), (5, .int 0)]) hx hb dX8_against_47 hl (by decide) rfl (fun ls hl => ?_)
  refine lv_iload hx hb dX8_against_49 (lv_at hl 0 rfl) ?_
  refine lv_if_ne (tgt := 69) hx hb dX8_against_51 (by decide) (fun _ => ?_) (fun c_ => absurd c_ (by decide))
  refine lv_iload hx hb dX8_against_69 (lv_at hl 0 rfl) ?_
  have hP9 : va_P G vwCl [(h0, .inr (0, [.ref h2, .ref h3, .ref h1, .ref h4, .ref h5, .ref h6, .ref h7, .int 0, .int 0, .int 0, .null])), (h1, .inr (5, [.int 0, .ref h8]))] _ := hP
  have hD9 : va_D A [(h0, .inr (0, [.ref h2, .ref h3, .ref h1, .ref h4, .ref h5, .ref h6, .ref h7, .int 0, .int 0, .int 0, .null])), (h1, .inr (5, [.int 0, .ref h8]))] := hD
  exact W.iret (v := 11) hx hb hr (fun t ht hW => ⟨⟨11, _, rfl, ⟨rfl, rfl⟩, by rw [ht]; exact hP9, hD9⟩, hS.F ht⟩) hS.2.2 dX8_against_71
def e_X0_enact_14 : List Cond := [.methodLink RX0 155 yX8_against, .static yX8_against, .initialized RX8, .fieldLink RX0 73 "MotionFloor$Assembly" "reason" "I"]
def v_X0_enact_14 : List Cond := .code yX0_enact cX0_enact 7 (some .int) :: (e_X0_enact_14 ++ (wsX00 ++ (v_X8_against_14 ++ [])))
theorem te_X0_enact_14 : GoodIn lw_tbl e_X0_enact_14 := wGc z345 (wGc z344 (wGc z297 (wGc z263 (wG0))))
theorem t_X0_enact_14 : GoodIn lw_tbl v_X0_enact_14 := wGc z346 (wGa te_X0_enact_14 (wGa zcX0 (wGa t_X8_against_14 (wG0))))
set_option maxHeartbeats 4000000 in
set_option maxRecDepth 100000 in
theorem m_X0_enact_14 (l : Launch) (G : va_G) (K : Nat → ClassId) (h0 h1 h2 h3 h4 h5 h6 h7 h8 : Nat) (p0 : Int32) (sz : Nat) : Met l yX0_enact v_X0_enact_14 ({ frames := 4, cells := 0, slots := 0, locals := 94 }) (va_Pc [.ref h0, .int 15, .int p0, .int 0, .int 0, .int 0] (wS G K sz [(h0, .inr (0, [.ref h2, .ref h3, .ref h1, .ref h4, .ref h5, .ref h6, .ref h7, .int 0, .int 0, .int 0, .null])), (h1, .inr (5, [.int 0, .ref h8]))])) (va_Qi (fun (r : Int32) (u : va_W) => ((-11) = r ∧ u = [(h0, .inr (0, [.ref h2, .ref h3, .ref h1, .ref h4, .ref h5, .ref h6, .ref h7, .int 0, .int 0, .int 11, .null])), (h1, .inr (5, [.int 0, .ref h8]))])) (wB G (va_A [(h0, .inr (0, [.ref h2, .ref h3, .ref h1, .ref h4, .ref h5, .ref h6, .ref h7, .int 0, .int 0, .int 0, .null])), (h1, .inr (5, [.int 0, .ref h8]))] sz)) (va_A [(h0, .inr (0, [.ref h2, .ref h3, .ref h1, .ref h4, .ref h5, .ref h6, .ref h7, .int 0, .int 0, .int 0, .null])), (h1, .inr (5, [.int 0, .ref h8]))] sz)) 0 0 (va_A [(h0, .inr (0, [.ref h2, .ref h3, .ref h1, .ref h4, .ref h5, .ref h6, .ref h7, .int 0, .int 0, .int 0, .null])), (h1, .inr (5, [.int 0, .ref h8]))] sz) := by
  refine Met.ofW (cc := cX0_enact) (maxL := 7) (ret := (some .int)) (by decide) rfl ?_
  intro p e s m args below meth c s₁ B hml hv
  obtain ⟨rfl, hsz, hP, hK, hD0, hE⟩ := hv
  have hx := B.exec
  have hb := B.bytes
  have hr := B.returns
  have hts := atoms_spec (ws := v_X0_enact_14) B.pre
  have t_ := t_X0_enact_14
  have mw : ∀ w ∈ e_X0_enact_14, w ∈ v_X0_enact_14 := fun w h => List.mem_cons_of_mem _ (List.mem_append_left _ h)
  have hw := fun w (h : w ∈ e_X0_enact_14) => hts w (mw w h)
  have iX0 : ∀ w ∈ wsX00, w ∈ v_X0_enact_14 := fun w h => List.mem_cons_of_mem _ (List.mem_append_right _ (List.mem_append_left _ h))
  have j_X8_against_14 : ∀ w ∈ v_X8_against_14, w ∈ v_X0_enact_14 := fun w h => List.mem_cons_of_mem _ (List.mem_append_right _ (List.mem_append_right _ (List.mem_append_left _ h)))
  have hown : s.vm.findClass RX0 = some m.cls := findClass_of_methodNamed B.named
  have hlocks := B.notSynchronized
  subst hsz
  have hD := hD0.self (sz := s.heap.size)
  generalize hAe : va_A [(h0, .inr (0, [.ref h2, .ref h3, .ref h1, .ref h4, .ref h5, .ref h6, .ref h7, .int 0, .int 0, .int 0, .null])), (h1, .inr (5, [.int 0, .ref h8]))] s.heap.size = A at hD ⊢
  have hA : ∀ q : Nat, s.heap.size ≤ q → A q := fun q h => by rw [← hAe]; exact Or.inr h
  have hS : va_S A s.heap s.heap [] := va_S.rf
  have hP : va_P G vwCl [(h0, .inr (0, [.ref h2, .ref h3, .ref h1, .ref h4, .ref h5, .ref h6, .ref h7, .int 0, .int 0, .int 0, .null])), (h1, .inr (5, [.int 0, .ref h8]))] s.heap := hP
  have hl := lv_entry ([.ref h0, .int 15, .int p0, .int 0, .int 0, .int 0]) (n := 7) (Nat.le_of_ble_eq_true rfl)
  rw [lg_entry_eq]
  generalize (lg_sl ([.ref h0, .int 15, .int p0, .int 0, .int 0, .int 0]) ++ List.replicate (7 - (lg_sl ([.ref h0, .int 15, .int p0, .int 0, .int 0, .int 0])).length) Slot.unset).toArray = ls at hl ⊢
  have hl : lv_has ls 7 [(0, .ref h0), (1, .int 15), (2, .int p0), (3, .int 0), (4, .int 0), (5, .int 0)] := hl
  refine lv_aload_n hx hb dX0_enact_0 rfl (lv_at hl 0 rfl) ?_
  refine lv_aload_n hx hb dX0_enact_1 rfl (lv_at hl 0 rfl) ?_
  refine lv_iload_n hx hb dX0_enact_2 rfl (lv_at hl 1 rfl) ?_
  refine lv_iload_n hx hb dX0_enact_3 rfl (lv_at hl 2 rfl) ?_
  refine lv_iload_n hx hb dX0_enact_4 rfl (lv_at hl 3 rfl) ?_
  refine lv_iload hx hb dX0_enact_5 (lv_at hl 4 rfl) ?_
  refine lv_iload hx hb dX0_enact_7 (lv_at hl 5 rfl) ?_
  have hPc := hP.sub (ws' := [(h0, .inr (0, [.ref h2, .ref h3, .ref h1, .ref h4, .ref h5, .ref h6, .ref h7, .int 0, .int 0, .int 0, .null])), (h1, .inr (5, [.int 0, .ref h8]))]) [0, 1] rfl
  have hDc := hD.sub (ws' := [(h0, .inr (0, [.ref h2, .ref h3, .ref h1, .ref h4, .ref h5, .ref h6, .ref h7, .int 0, .int 0, .int 0, .null])), (h1, .inr (5, [.int 0, .ref h8]))]) [0, 1] (by decide) rfl
  refine wGoi (wc := [(h0, .inr (0, [.ref h2, .ref h3, .ref h1, .ref h4, .ref h5, .ref h6, .ref h7, .int 0, .int 0, .int 0, .null])), (h1, .inr (5, [.int 0, .ref h8]))]) (wr := []) (va_runS (As := [.ref h0, .int 15, .int p0, .int 0, .int 0, .int 0]) (rest := [.ref h0]) ⟨hx, hb, hml, hown, hts⟩ (m_X8_against_14 l G K h0 h1 h2 h3 h4 h5 h6 h7 h8 p0 _) (va_cwS 6 hts (wGS t_ (mw (.methodLink RX0 155 yX8_against) (List.mem_of_getElem? (i := 0) rfl)) (mw (.static yX8_against) (List.mem_of_getElem? (i := 1) rfl)) (mw (.initialized RX8) (List.mem_of_getElem? (i := 2) rfl)) j_X8_against_14) rfl rfl rfl (by decide +kernel) ⟨Nat.le_of_ble_eq_true rfl, Nat.le_of_ble_eq_true rfl⟩) (wPS hK hE hPc hDc) rfl rfl hl.1 rfl (lv_room (Nat.le_of_ble_eq_true rfl)) dX0_enact_9 ⟨Nat.le_of_ble_eq_true rfl, Nat.le_of_ble_eq_true rfl⟩) hP hD hS hA [0, 1] [] rfl rfl rfl (by decide) (fun r u H locs hw hP hD hS => ?_)
  rcases hw with ⟨rfl, rfl⟩
  have hP : va_P G vwCl [(h0, .inr (0, [.ref h2, .ref h3, .ref h1, .ref h4, .ref h5, .ref h6, .ref h7, .int 0, .int 0, .int 0, .null])), (h1, .inr (5, [.int 0, .ref h8]))] _ := hP
  have hD : va_D A [(h0, .inr (0, [.ref h2, .ref h3, .ref h1, .ref h4, .ref h5, .ref h6, .ref h7, .int 0, .int 0, .int 0, .null])), (h1, .inr (5, [.int 0, .ref h8]))] := hD
  refine va_put (D := G) (ci := 0) (v := .int 11) (ty := .int) (C := RX0) (T := TX0) (N := 11) hx hb hts iX0 tyX0 tyX0_ok nmX0 hown hK hP hD hS 0 rfl rfl 9 (by decide) (hw (.fieldLink RX0 73 "MotionFloor$Assembly" "reason" "I") (List.mem_of_getElem? (i := 3) rfl)) (fun _ h9 => h9) rfl (by decide +kernel) rfl rfl (Nat.le_of_ble_eq_true rfl) dX0_enact_12 (fun H locs hP hD hS => ?_)
  have hP : va_P G vwCl [(h0, .inr (0, [.ref h2, .ref h3, .ref h1, .ref h4, .ref h5, .ref h6, .ref h7, .int 0, .int 0, .int 11, .null])), (h1, .inr (5, [.int 0, .ref h8]))] _ := hP
  have hD : va_D A [(h0, .inr (0, [.ref h2, .ref h3, .ref h1, .ref h4, .ref h5, .ref h6, .ref h7, .int 0, .int 0, .int 11, .null])), (h1, .inr (5, [.int 0, .ref h8]))] := hD
  refine lv_aload_n hx hb dX0_enact_15 rfl (lv_at hl 0 rfl) ?_
  refine va_get (D := G) (ci := 0) (v := .int 11) (C := RX0) (T := TX0) (N := 11) hx hb hts iX0 hown hK hP 0 rfl rfl 9 (by decide) (hw (.fieldLink RX0 73 "MotionFloor$Assembly" "reason" "I") (List.mem_of_getElem? (i := 3) rfl)) (fun _ h9 => h9) rfl dX0_enact_16 ?_
  refine lv_if_eq (tgt := 28) hx hb dX0_enact_19 (by decide) (fun c_ => absurd c_ (by decide)) (fun _ => ?_)
  refine lv_aload_n hx hb dX0_enact_22 rfl (lv_at hl 0 rfl) ?_
  refine va_get (D := G) (ci := 0) (v := .int 11) (C := RX0) (T := TX0) (N := 11) hx hb hts iX0 hown hK hP 0 rfl rfl 9 (by decide) (hw (.fieldLink RX0 73 "MotionFloor$Assembly" "reason" "I") (List.mem_of_getElem? (i := 3) rfl)) (fun _ h9 => h9) rfl dX0_enact_23 ?_
  refine lv_ineg hx hb dX0_enact_26 ?_
  refine wTop (v1 := .int (-11)) (congrArg Value.int (by decide)) ?_
  have hP9 : va_P G vwCl [(h0, .inr (0, [.ref h2, .ref h3, .ref h1, .ref h4, .ref h5, .ref h6, .ref h7, .int 0, .int 0, .int 11, .null])), (h1, .inr (5, [.int 0, .ref h8]))] _ := hP
  have hD9 : va_D A [(h0, .inr (0, [.ref h2, .ref h3, .ref h1, .ref h4, .ref h5, .ref h6, .ref h7, .int 0, .int 0, .int 11, .null])), (h1, .inr (5, [.int 0, .ref h8]))] := hD
  exact W.iret (v := (-11)) hx hb hr (fun t ht hW => ⟨⟨(-11), _, rfl, ⟨rfl, rfl⟩, by rw [ht]; exact hP9, hD9⟩, hS.F ht⟩) hS.2.2 dX0_enact_27
def e_X10_move_0 : List Cond := [.fieldLink RX10 10 "MotionFloor" "now" "LMotionFloor$Assembly;", .methodLink RX10 32 yX0_enact, .instanceMethod yX0_enact, .selects RX0 yX0_enact yX0_enact, .initialized RX0]
def v_X10_move_0 : List Cond := .code yX10_move cX10_move 2 (some .int) :: (e_X10_move_0 ++ (wsX100 ++ (v_X0_enact_14 ++ [])))
theorem te_X10_move_0 : GoodIn lw_tbl e_X10_move_0 := wGc z115 (wGc z349 (wGc z348 (wGc z347 (wGc z118 (wG0)))))
theorem t_X10_move_0 : GoodIn lw_tbl v_X10_move_0 := wGc z610 (wGa te_X10_move_0 (wGa zcX10 (wGa t_X0_enact_14 (wG0))))
set_option maxHeartbeats 4000000 in
set_option maxRecDepth 100000 in
theorem m_X10_move_0 (l : Launch) (G : va_G) (K : Nat → ClassId) (h0 h1 h2 h3 h4 h5 h6 h7 h8 h9 h10 h11 : Nat) (p0 : Int32) (sz : Nat) : Met l yX10_move v_X10_move_0 ({ frames := 5, cells := 0, slots := 0, locals := 120 }) (va_Pc [.ref h0, .int p0] (wS G K sz [(h0, .inr (7, [.ref h1, .ref h3, .null, .null, .ref h4])), (h1, .inr (0, [.ref h5, .ref h6, .ref h2, .ref h7, .ref h8, .ref h9, .ref h10, .int 0, .int 0, .int 0, .null])), (h2, .inr (5, [.int 0, .ref h11]))])) (va_Qi (fun (r : Int32) (u : va_W) => ((-11) = r ∧ u = [(h0, .inr (7, [.ref h1, .ref h3, .null, .null, .ref h4])), (h1, .inr (0, [.ref h5, .ref h6, .ref h2, .ref h7, .ref h8, .ref h9, .ref h10, .int 0, .int 0, .int 11, .null])), (h2, .inr (5, [.int 0, .ref h11]))])) (wB G (va_A [(h0, .inr (7, [.ref h1, .ref h3, .null, .null, .ref h4])), (h1, .inr (0, [.ref h5, .ref h6, .ref h2, .ref h7, .ref h8, .ref h9, .ref h10, .int 0, .int 0, .int 0, .null])), (h2, .inr (5, [.int 0, .ref h11]))] sz)) (va_A [(h0, .inr (7, [.ref h1, .ref h3, .null, .null, .ref h4])), (h1, .inr (0, [.ref h5, .ref h6, .ref h2, .ref h7, .ref h8, .ref h9, .ref h10, .int 0, .int 0, .int 0, .null])), (h2, .inr (5, [.int 0, .ref h11]))] sz)) 0 0 (va_A [(h0, .inr (7, [.ref h1, .ref h3, .null, .null, .ref h4])), (h1, .inr (0, [.ref h5, .ref h6, .ref h2, .ref h7, .ref h8, .ref h9, .ref h10, .int 0, .int 0, .int 0, .null])), (h2, .inr (5, [.int 0, .ref h11]))] sz) := by
  refine Met.ofW (cc := cX10_move) (maxL := 2) (ret := (some .int)) (by decide) rfl ?_
  intro p e s m args below meth c s₁ B hml hv
  obtain ⟨rfl, hsz, hP, hK, hD0, hE⟩ := hv
  have hx := B.exec
  have hb := B.bytes
  have hr := B.returns
  have hts := atoms_spec (ws := v_X10_move_0) B.pre
  have t_ := t_X10_move_0
  have mw : ∀ w ∈ e_X10_move_0, w ∈ v_X10_move_0 := fun w h => List.mem_cons_of_mem _ (List.mem_append_left _ h)
  have hw := fun w (h : w ∈ e_X10_move_0) => hts w (mw w h)
  have iX10 : ∀ w ∈ wsX100, w ∈ v_X10_move_0 := fun w h => List.mem_cons_of_mem _ (List.mem_append_right _ (List.mem_append_left _ h))
  have j_X0_enact_14 : ∀ w ∈ v_X0_enact_14, w ∈ v_X10_move_0 := fun w h => List.mem_cons_of_mem _ (List.mem_append_right _ (List.mem_append_right _ (List.mem_append_left _ h)))
  have hown : s.vm.findClass RX10 = some m.cls := findClass_of_methodNamed B.named
  have hlocks := B.notSynchronized
  subst hsz
  have hD := hD0.self (sz := s.heap.size)
  generalize hAe : va_A [(h0, .inr (7, [.ref h1, .ref h3, .null, .null, .ref h4])), (h1, .inr (0, [.ref h5, .ref h6, .ref h2, .ref h7, .ref h8, .ref h9, .ref h10, .int 0, .int 0, .int 0, .null])), (h2, .inr (5, [.int 0, .ref h11]))] s.heap.size = A at hD ⊢
  have hA : ∀ q : Nat, s.heap.size ≤ q → A q := fun q h => by rw [← hAe]; exact Or.inr h
  have hS : va_S A s.heap s.heap [] := va_S.rf
  have hP : va_P G vwCl [(h0, .inr (7, [.ref h1, .ref h3, .null, .null, .ref h4])), (h1, .inr (0, [.ref h5, .ref h6, .ref h2, .ref h7, .ref h8, .ref h9, .ref h10, .int 0, .int 0, .int 0, .null])), (h2, .inr (5, [.int 0, .ref h11]))] s.heap := hP
  have hl := lv_entry ([.ref h0, .int p0]) (n := 2) (Nat.le_of_ble_eq_true rfl)
  rw [lg_entry_eq]
  generalize (lg_sl ([.ref h0, .int p0]) ++ List.replicate (2 - (lg_sl ([.ref h0, .int p0])).length) Slot.unset).toArray = ls at hl ⊢
  have hl : lv_has ls 2 [(0, .ref h0), (1, .int p0)] := hl
  refine lv_aload_n hx hb dX10_move_0 rfl (lv_at hl 0 rfl) ?_
  refine va_get (D := G) (ci := 7) (v := .ref h1) (C := RX10) (T := TX10) (N := 5) hx hb hts iX10 hown hK hP 0 rfl rfl 0 (by decide) (hw (.fieldLink RX10 10 "MotionFloor" "now" "LMotionFloor$Assembly;") (List.mem_of_getElem? (i := 0) rfl)) (fun _ h9 => h9) rfl dX10_move_1 ?_
  refine lv_bipush (v := 15) hx hb dX10_move_4 (by decide) ?_
  refine lv_iload_n hx hb dX10_move_6 rfl (lv_at hl 1 rfl) ?_
  refine lv_iconst (v := 0) hx hb dX10_move_7 (by decide) ?_
  refine lv_iconst (v := 0) hx hb dX10_move_8 (by decide) ?_
  refine lv_iconst (v := 0) hx hb dX10_move_9 (by decide) ?_
  have hPc := hP.sub (ws' := [(h1, .inr (0, [.ref h5, .ref h6, .ref h2, .ref h7, .ref h8, .ref h9, .ref h10, .int 0, .int 0, .int 0, .null])), (h2, .inr (5, [.int 0, .ref h11]))]) [1, 2] rfl
  have hDc := hD.sub (ws' := [(h1, .inr (0, [.ref h5, .ref h6, .ref h2, .ref h7, .ref h8, .ref h9, .ref h10, .int 0, .int 0, .int 0, .null])), (h2, .inr (5, [.int 0, .ref h11]))]) [1, 2] (by decide) rfl
  refine wGoi (wc := [(h1, .inr (0, [.ref h5, .ref h6, .ref h2, .ref h7, .ref h8, .ref h9, .ref h10, .int 0, .int 0, .int 0, .null])), (h2, .inr (5, [.int 0, .ref h11]))]) (wr := [(h0, .inr (7, [.ref h1, .ref h3, .null, .null, .ref h4]))]) (va_runV (As := [.int 15, .int p0, .int 0, .int 0, .int 0]) (rest := []) ⟨hx, hb, hml, hown, hts⟩ (m_X0_enact_14 l G K h1 h2 h5 h6 h7 h8 h9 h10 h11 p0 _) (cwV 5 hts (wGV t_ (mw (.methodLink RX10 32 yX0_enact) (List.mem_of_getElem? (i := 1) rfl)) (mw (.instanceMethod yX0_enact) (List.mem_of_getElem? (i := 2) rfl)) (mw (.selects RX0 yX0_enact yX0_enact) (List.mem_of_getElem? (i := 3) rfl)) (mw (.initialized RX0) (List.mem_of_getElem? (i := 4) rfl)) j_X0_enact_14) rfl rfl rfl (by decide +kernel) ⟨Nat.le_of_ble_eq_true rfl, Nat.le_of_ble_eq_true rfl⟩) (wPV hK hE hPc hDc 0 0 rfl rfl) rfl rfl hl.1 rfl (lv_room (Nat.le_of_ble_eq_true rfl)) dX10_move_10 ⟨Nat.le_of_ble_eq_true rfl, Nat.le_of_ble_eq_true rfl⟩) hP hD hS hA [1, 2] [0] rfl rfl rfl (by decide) (fun r u H locs hw hP hD hS => ?_)
  rcases hw with ⟨rfl, rfl⟩
  have hP : va_P G vwCl [(h0, .inr (7, [.ref h1, .ref h3, .null, .null, .ref h4])), (h1, .inr (0, [.ref h5, .ref h6, .ref h2, .ref h7, .ref h8, .ref h9, .ref h10, .int 0, .int 0, .int 11, .null])), (h2, .inr (5, [.int 0, .ref h11]))] _ := hP
  have hD : va_D A [(h0, .inr (7, [.ref h1, .ref h3, .null, .null, .ref h4])), (h1, .inr (0, [.ref h5, .ref h6, .ref h2, .ref h7, .ref h8, .ref h9, .ref h10, .int 0, .int 0, .int 11, .null])), (h2, .inr (5, [.int 0, .ref h11]))] := hD
  have hP9 : va_P G vwCl [(h0, .inr (7, [.ref h1, .ref h3, .null, .null, .ref h4])), (h1, .inr (0, [.ref h5, .ref h6, .ref h2, .ref h7, .ref h8, .ref h9, .ref h10, .int 0, .int 0, .int 11, .null])), (h2, .inr (5, [.int 0, .ref h11]))] _ := hP
  have hD9 : va_D A [(h0, .inr (7, [.ref h1, .ref h3, .null, .null, .ref h4])), (h1, .inr (0, [.ref h5, .ref h6, .ref h2, .ref h7, .ref h8, .ref h9, .ref h10, .int 0, .int 0, .int 11, .null])), (h2, .inr (5, [.int 0, .ref h11]))] := hD
  exact W.iret (v := (-11)) hx hb hr (fun t ht hW => ⟨⟨(-11), _, rfl, ⟨rfl, rfl⟩, by rw [ht]; exact hP9, hD9⟩, hS.F ht⟩) hS.2.2 dX10_move_13
def e_X11_reasonOfMove_0 : List Cond := [.fieldLink RX11 130 "MotionFloorModel$Hall" "drafted" "I"]
def v_X11_reasonOfMove_0 : List Cond := .code yX11_reasonOfMove cX11_reasonOfMove 7 (some .int) :: (e_X11_reasonOfMove_0 ++ (wsX110 ++ []))
theorem te_X11_reasonOfMove_0 : GoodIn lw_tbl e_X11_reasonOfMove_0 := wGc z197 (wG0)
theorem t_X11_reasonOfMove_0 : GoodIn lw_tbl v_X11_reasonOfMove_0 := wGc z611 (wGa te_X11_reasonOfMove_0 (wGa zcX11 (wG0)))
set_option maxHeartbeats 4000000 in
set_option maxRecDepth 100000 in
theorem m_X11_reasonOfMove_0 (l : Launch) (G : va_G) (K : Nat → ClassId) (h0 h1 h2 h3 h4 h5 h6 h7 h8 h9 h10 h11 h12 h13 h14 h15 h16 h17 h18 h19 h20 h21 h22 h23 h24 h25 h26 h27 : Nat) (p0 : Int32) (sz : Nat) : Met l yX11_reasonOfMove v_X11_reasonOfMove_0 ({ frames := 0, cells := 0, slots := 0, locals := 0 }) (va_Pc [.ref h0, .int p0] (wS G K sz [(h0, .inr (8, [.int 1, .int 0, .int (-1), .int 0, .int 0, .int (-1), .int 0, .int 0, .int 0, .int 0, .int 0, .ref h1, .ref h2, .ref h3, .ref h4, .ref h5, .ref h6, .ref h7, .ref h8, .ref h9, .ref h10, .ref h11, .ref h12, .ref h13, .ref h14, .ref h15, .ref h16, .ref h17, .ref h18, .ref h19, .int 0, .ref h20, .ref h21, .ref h22, .ref h23, .int 0, .int 0, .ref h24, .ref h25, .int (-1), .ref h26, .ref h27]))])) (va_Qi (fun (r : Int32) (u : va_W) => (11 = r ∧ u = [(h0, .inr (8, [.int 1, .int 0, .int (-1), .int 0, .int 0, .int (-1), .int 0, .int 0, .int 0, .int 0, .int 0, .ref h1, .ref h2, .ref h3, .ref h4, .ref h5, .ref h6, .ref h7, .ref h8, .ref h9, .ref h10, .ref h11, .ref h12, .ref h13, .ref h14, .ref h15, .ref h16, .ref h17, .ref h18, .ref h19, .int 0, .ref h20, .ref h21, .ref h22, .ref h23, .int 0, .int 0, .ref h24, .ref h25, .int (-1), .ref h26, .ref h27]))])) (wB G (va_A [(h0, .inr (8, [.int 1, .int 0, .int (-1), .int 0, .int 0, .int (-1), .int 0, .int 0, .int 0, .int 0, .int 0, .ref h1, .ref h2, .ref h3, .ref h4, .ref h5, .ref h6, .ref h7, .ref h8, .ref h9, .ref h10, .ref h11, .ref h12, .ref h13, .ref h14, .ref h15, .ref h16, .ref h17, .ref h18, .ref h19, .int 0, .ref h20, .ref h21, .ref h22, .ref h23, .int 0, .int 0, .ref h24, .ref h25, .int (-1), .ref h26, .ref h27]))] sz)) (va_A [(h0, .inr (8, [.int 1, .int 0, .int (-1), .int 0, .int 0, .int (-1), .int 0, .int 0, .int 0, .int 0, .int 0, .ref h1, .ref h2, .ref h3, .ref h4, .ref h5, .ref h6, .ref h7, .ref h8, .ref h9, .ref h10, .ref h11, .ref h12, .ref h13, .ref h14, .ref h15, .ref h16, .ref h17, .ref h18, .ref h19, .int 0, .ref h20, .ref h21, .ref h22, .ref h23, .int 0, .int 0, .ref h24, .ref h25, .int (-1), .ref h26, .ref h27]))] sz)) 0 0 (va_A [(h0, .inr (8, [.int 1, .int 0, .int (-1), .int 0, .int 0, .int (-1), .int 0, .int 0, .int 0, .int 0, .int 0, .ref h1, .ref h2, .ref h3, .ref h4, .ref h5, .ref h6, .ref h7, .ref h8, .ref h9, .ref h10, .ref h11, .ref h12, .ref h13, .ref h14, .ref h15, .ref h16, .ref h17, .ref h18, .ref h19, .int 0, .ref h20, .ref h21, .ref h22, .ref h23, .int 0, .int 0, .ref h24, .ref h25, .int (-1), .ref h26, .ref h27]))] sz) := by
  refine Met.ofW (cc := cX11_reasonOfMove) (maxL := 7) (ret := (some .int)) (by decide) rfl ?_
  intro p e s m args below meth c s₁ B hml hv
  obtain ⟨rfl, hsz, hP, hK, hD0, hE⟩ := hv
  have hx := B.exec
  have hb := B.bytes
  have hr := B.returns
  have hts := atoms_spec (ws := v_X11_reasonOfMove_0) B.pre
  have t_ := t_X11_reasonOfMove_0
  have mw : ∀ w ∈ e_X11_reasonOfMove_0, w ∈ v_X11_reasonOfMove_0 := fun w h => List.mem_cons_of_mem _ (List.mem_append_left _ h)
  have hw := fun w (h : w ∈ e_X11_reasonOfMove_0) => hts w (mw w h)
  have iX11 : ∀ w ∈ wsX110, w ∈ v_X11_reasonOfMove_0 := fun w h => List.mem_cons_of_mem _ (List.mem_append_right _ (List.mem_append_left _ h))
  have hown : s.vm.findClass RX11 = some m.cls := findClass_of_methodNamed B.named
  have hlocks := B.notSynchronized
  subst hsz
  have hD := hD0.self (sz := s.heap.size)
  generalize hAe : va_A [(h0, .inr (8, [.int 1, .int 0, .int (-1), .int 0, .int 0, .int (-1), .int 0, .int 0, .int 0, .int 0, .int 0, .ref h1, .ref h2, .ref h3, .ref h4, .ref h5, .ref h6, .ref h7, .ref h8, .ref h9, .ref h10, .ref h11, .ref h12, .ref h13, .ref h14, .ref h15, .ref h16, .ref h17, .ref h18, .ref h19, .int 0, .ref h20, .ref h21, .ref h22, .ref h23, .int 0, .int 0, .ref h24, .ref h25, .int (-1), .ref h26, .ref h27]))] s.heap.size = A at hD ⊢
  have hA : ∀ q : Nat, s.heap.size ≤ q → A q := fun q h => by rw [← hAe]; exact Or.inr h
  have hS : va_S A s.heap s.heap [] := va_S.rf
  have hP : va_P G vwCl [(h0, .inr (8, [.int 1, .int 0, .int (-1), .int 0, .int 0, .int (-1), .int 0, .int 0, .int 0, .int 0, .int 0, .ref h1, .ref h2, .ref h3, .ref h4, .ref h5, .ref h6, .ref h7, .ref h8, .ref h9, .ref h10, .ref h11, .ref h12, .ref h13, .ref h14, .ref h15, .ref h16, .ref h17, .ref h18, .ref h19, .int 0, .ref h20, .ref h21, .ref h22, .ref h23, .int 0, .int 0, .ref h24, .ref h25, .int (-1), .ref h26, .ref h27]))] s.heap := hP
  have hl := lv_entry ([.ref h0, .int p0]) (n := 7) (Nat.le_of_ble_eq_true rfl)
  rw [lg_entry_eq]
  generalize (lg_sl ([.ref h0, .int p0]) ++ List.replicate (7 - (lg_sl ([.ref h0, .int p0])).length) Slot.unset).toArray = ls at hl ⊢
  have hl : lv_has ls 7 [(0, .ref h0), (1, .int p0)] := hl
  refine lv_aload_n hx hb dX11_reasonOfMove_0 rfl (lv_at hl 0 rfl) ?_
  refine va_get (D := G) (ci := 8) (v := .int 0) (C := RX11) (T := TX11) (N := 42) hx hb hts iX11 hown hK hP 0 rfl rfl 35 (by decide) (hw (.fieldLink RX11 130 "MotionFloorModel$Hall" "drafted" "I") (List.mem_of_getElem? (i := 0) rfl)) (fun _ h9 => h9) rfl dX11_reasonOfMove_1 ?_
  refine lv_if_ne (tgt := 10) hx hb dX11_reasonOfMove_4 (by decide) (fun c_ => absurd c_ (by decide)) (fun _ => ?_)
  refine lv_bipush (v := 11) hx hb dX11_reasonOfMove_7 (by decide) ?_
  have hP9 : va_P G vwCl [(h0, .inr (8, [.int 1, .int 0, .int (-1), .int 0, .int 0, .int (-1), .int 0, .int 0, .int 0, .int 0, .int 0, .ref h1, .ref h2, .ref h3, .ref h4, .ref h5, .ref h6, .ref h7, .ref h8, .ref h9, .ref h10, .ref h11, .ref h12, .ref h13, .ref h14, .ref h15, .ref h16, .ref h17, .ref h18, .ref h19, .int 0, .ref h20, .ref h21, .ref h22, .ref h23, .int 0, .int 0, .ref h24, .ref h25, .int (-1), .ref h26, .ref h27]))] _ := hP
  have hD9 : va_D A [(h0, .inr (8, [.int 1, .int 0, .int (-1), .int 0, .int 0, .int (-1), .int 0, .int 0, .int 0, .int 0, .int 0, .ref h1, .ref h2, .ref h3, .ref h4, .ref h5, .ref h6, .ref h7, .ref h8, .ref h9, .ref h10, .ref h11, .ref h12, .ref h13, .ref h14, .ref h15, .ref h16, .ref h17, .ref h18, .ref h19, .int 0, .ref h20, .ref h21, .ref h22, .ref h23, .int 0, .int 0, .ref h24, .ref h25, .int (-1), .ref h26, .ref h27]))] := hD
  exact W.iret (v := 11) hx hb hr (fun t ht hW => ⟨⟨11, _, rfl, ⟨rfl, rfl⟩, by rw [ht]; exact hP9, hD9⟩, hS.F ht⟩) hS.2.2 dX11_reasonOfMove_9
def e_X11_reason_24 : List Cond := [.methodLink RX11 175 yX11_reasonOfMove, .instanceMethod yX11_reasonOfMove, .selects RX11 yX11_reasonOfMove yX11_reasonOfMove, .initialized RX11]
def v_X11_reason_24 : List Cond := .code yX11_reason cX11_reason 6 (some .int) :: (e_X11_reason_24 ++ (v_X11_reasonOfMove_0 ++ []))
theorem te_X11_reason_24 : GoodIn lw_tbl e_X11_reason_24 := wGc z614 (wGc z613 (wGc z612 (wGc z227 (wG0))))
theorem t_X11_reason_24 : GoodIn lw_tbl v_X11_reason_24 := wGc z355 (wGa te_X11_reason_24 (wGa t_X11_reasonOfMove_0 (wG0)))
set_option maxHeartbeats 4000000 in
set_option maxRecDepth 100000 in
theorem m_X11_reason_24 (l : Launch) (G : va_G) (K : Nat → ClassId) (h0 h1 h2 h3 h4 h5 h6 h7 h8 h9 h10 h11 h12 h13 h14 h15 h16 h17 h18 h19 h20 h21 h22 h23 h24 h25 h26 h27 : Nat) (p0 : Int32) (sz : Nat) : Met l yX11_reason v_X11_reason_24 ({ frames := 1, cells := 0, slots := 0, locals := 26 }) (va_Pc [.ref h0, .int 15, .int p0, .int 0, .int 0, .int 0] (wS G K sz [(h0, .inr (8, [.int 1, .int 0, .int (-1), .int 0, .int 0, .int (-1), .int 0, .int 0, .int 0, .int 0, .int 0, .ref h1, .ref h2, .ref h3, .ref h4, .ref h5, .ref h6, .ref h7, .ref h8, .ref h9, .ref h10, .ref h11, .ref h12, .ref h13, .ref h14, .ref h15, .ref h16, .ref h17, .ref h18, .ref h19, .int 0, .ref h20, .ref h21, .ref h22, .ref h23, .int 0, .int 0, .ref h24, .ref h25, .int (-1), .ref h26, .ref h27]))])) (va_Qi (fun (r : Int32) (u : va_W) => (11 = r ∧ u = [(h0, .inr (8, [.int 1, .int 0, .int (-1), .int 0, .int 0, .int (-1), .int 0, .int 0, .int 0, .int 0, .int 0, .ref h1, .ref h2, .ref h3, .ref h4, .ref h5, .ref h6, .ref h7, .ref h8, .ref h9, .ref h10, .ref h11, .ref h12, .ref h13, .ref h14, .ref h15, .ref h16, .ref h17, .ref h18, .ref h19, .int 0, .ref h20, .ref h21, .ref h22, .ref h23, .int 0, .int 0, .ref h24, .ref h25, .int (-1), .ref h26, .ref h27]))])) (wB G (va_A [(h0, .inr (8, [.int 1, .int 0, .int (-1), .int 0, .int 0, .int (-1), .int 0, .int 0, .int 0, .int 0, .int 0, .ref h1, .ref h2, .ref h3, .ref h4, .ref h5, .ref h6, .ref h7, .ref h8, .ref h9, .ref h10, .ref h11, .ref h12, .ref h13, .ref h14, .ref h15, .ref h16, .ref h17, .ref h18, .ref h19, .int 0, .ref h20, .ref h21, .ref h22, .ref h23, .int 0, .int 0, .ref h24, .ref h25, .int (-1), .ref h26, .ref h27]))] sz)) (va_A [(h0, .inr (8, [.int 1, .int 0, .int (-1), .int 0, .int 0, .int (-1), .int 0, .int 0, .int 0, .int 0, .int 0, .ref h1, .ref h2, .ref h3, .ref h4, .ref h5, .ref h6, .ref h7, .ref h8, .ref h9, .ref h10, .ref h11, .ref h12, .ref h13, .ref h14, .ref h15, .ref h16, .ref h17, .ref h18, .ref h19, .int 0, .ref h20, .ref h21, .ref h22, .ref h23, .int 0, .int 0, .ref h24, .ref h25, .int (-1), .ref h26, .ref h27]))] sz)) 0 0 (va_A [(h0, .inr (8, [.int 1, .int 0, .int (-1), .int 0, .int 0, .int (-1), .int 0, .int 0, .int 0, .int 0, .int 0, .ref h1, .ref h2, .ref h3, .ref h4, .ref h5, .ref h6, .ref h7, .ref h8, .ref h9, .ref h10, .ref h11, .ref h12, .ref h13, .ref h14, .ref h15, .ref h16, .ref h17, .ref h18, .ref h19, .int 0, .ref h20, .ref h21, .ref h22, .ref h23, .int 0, .int 0, .ref h24, .ref h25, .int (-1), .ref h26, .ref h27]))] sz) := by
  refine Met.ofW (cc := cX11_reason) (maxL := 6) (ret := (some .int)) (by decide) rfl ?_
  intro p e s m args below meth c s₁ B hml hv
  obtain ⟨rfl, hsz, hP, hK, hD0, hE⟩ := hv
  have hx := B.exec
  have hb := B.bytes
  have hr := B.returns
  have hts := atoms_spec (ws := v_X11_reason_24) B.pre
  have t_ := t_X11_reason_24
  have mw : ∀ w ∈ e_X11_reason_24, w ∈ v_X11_reason_24 := fun w h => List.mem_cons_of_mem _ (List.mem_append_left _ h)
  have hw := fun w (h : w ∈ e_X11_reason_24) => hts w (mw w h)
  have j_X11_reasonOfMove_0 : ∀ w ∈ v_X11_reasonOfMove_0, w ∈ v_X11_reason_24 := fun w h => List.mem_cons_of_mem _ (List.mem_append_right _ (List.mem_append_left _ h))
  have hown : s.vm.findClass RX11 = some m.cls := findClass_of_methodNamed B.named
  have hlocks := B.notSynchronized
  subst hsz
  have hD := hD0.self (sz := s.heap.size)
  generalize hAe : va_A [(h0, .inr (8, [.int 1, .int 0, .int (-1), .int 0, .int 0, .int (-1), .int 0, .int 0, .int 0, .int 0, .int 0, .ref h1, .ref h2, .ref h3, .ref h4, .ref h5, .ref h6, .ref h7, .ref h8, .ref h9, .ref h10, .ref h11, .ref h12, .ref h13, .ref h14, .ref h15, .ref h16, .ref h17, .ref h18, .ref h19, .int 0, .ref h20, .ref h21, .ref h22, .ref h23, .int 0, .int 0, .ref h24, .ref h25, .int (-1), .ref h26, .ref h27]))] s.heap.size = A at hD ⊢
  have hA : ∀ q : Nat, s.heap.size ≤ q → A q := fun q h => by rw [← hAe]; exact Or.inr h
  have hS : va_S A s.heap s.heap [] := va_S.rf
  have hP : va_P G vwCl [(h0, .inr (8, [.int 1, .int 0, .int (-1), .int 0, .int 0, .int (-1), .int 0, .int 0, .int 0, .int 0, .int 0, .ref h1, .ref h2, .ref h3, .ref h4, .ref h5, .ref h6, .ref h7, .ref h8, .ref h9, .ref h10, .ref h11, .ref h12, .ref h13, .ref h14, .ref h15, .ref h16, .ref h17, .ref h18, .ref h19, .int 0, .ref h20, .ref h21, .ref h22, .ref h23, .int 0, .int 0, .ref h24, .ref h25, .int (-1), .ref h26, .ref h27]))] s.heap := hP
  have hl := lv_entry ([.ref h0, .int 15, .int p0, .int 0, .int 0, .int 0]) (n := 6) (Nat.le_of_ble_eq_true rfl)
  rw [lg_entry_eq]
  generalize (lg_sl ([.ref h0, .int 15, .int p0, .int 0, .int 0, .int 0]) ++ List.replicate (6 - (lg_sl ([.ref h0, .int 15, .int p0, .int 0, .int 0, .int 0])).length) Slot.unset).toArray = ls at hl ⊢
  have hl : lv_has ls 6 [(0, .ref h0), (1, .int 15), (2, .int p0), (3, .int 0), (4, .int 0), (5, .int 0)] := hl
  refine lv_iload_n hx hb dX11_reason_0 rfl (lv_at hl 1 rfl) ?_
  refine lv_tableIn (off := 571) (tgt := 572) hx hb dX11_reason_1 (by decide) (by decide) (by decide) (by decide) ?_
  refine lv_aload_n hx hb dX11_reason_572 rfl (lv_at hl 0 rfl) ?_
  refine lv_iload_n hx hb dX11_reason_573 rfl (lv_at hl 2 rfl) ?_
  have hPc := hP.sub (ws' := [(h0, .inr (8, [.int 1, .int 0, .int (-1), .int 0, .int 0, .int (-1), .int 0, .int 0, .int 0, .int 0, .int 0, .ref h1, .ref h2, .ref h3, .ref h4, .ref h5, .ref h6, .ref h7, .ref h8, .ref h9, .ref h10, .ref h11, .ref h12, .ref h13, .ref h14, .ref h15, .ref h16, .ref h17, .ref h18, .ref h19, .int 0, .ref h20, .ref h21, .ref h22, .ref h23, .int 0, .int 0, .ref h24, .ref h25, .int (-1), .ref h26, .ref h27]))]) [0] rfl
  have hDc := hD.sub (ws' := [(h0, .inr (8, [.int 1, .int 0, .int (-1), .int 0, .int 0, .int (-1), .int 0, .int 0, .int 0, .int 0, .int 0, .ref h1, .ref h2, .ref h3, .ref h4, .ref h5, .ref h6, .ref h7, .ref h8, .ref h9, .ref h10, .ref h11, .ref h12, .ref h13, .ref h14, .ref h15, .ref h16, .ref h17, .ref h18, .ref h19, .int 0, .ref h20, .ref h21, .ref h22, .ref h23, .int 0, .int 0, .ref h24, .ref h25, .int (-1), .ref h26, .ref h27]))]) [0] (by decide) rfl
  refine wGoi (wc := [(h0, .inr (8, [.int 1, .int 0, .int (-1), .int 0, .int 0, .int (-1), .int 0, .int 0, .int 0, .int 0, .int 0, .ref h1, .ref h2, .ref h3, .ref h4, .ref h5, .ref h6, .ref h7, .ref h8, .ref h9, .ref h10, .ref h11, .ref h12, .ref h13, .ref h14, .ref h15, .ref h16, .ref h17, .ref h18, .ref h19, .int 0, .ref h20, .ref h21, .ref h22, .ref h23, .int 0, .int 0, .ref h24, .ref h25, .int (-1), .ref h26, .ref h27]))]) (wr := []) (va_runV (As := [.int p0]) (rest := []) ⟨hx, hb, hml, hown, hts⟩ (m_X11_reasonOfMove_0 l G K h0 h1 h2 h3 h4 h5 h6 h7 h8 h9 h10 h11 h12 h13 h14 h15 h16 h17 h18 h19 h20 h21 h22 h23 h24 h25 h26 h27 p0 _) (cwV 1 hts (wGV t_ (mw (.methodLink RX11 175 yX11_reasonOfMove) (List.mem_of_getElem? (i := 0) rfl)) (mw (.instanceMethod yX11_reasonOfMove) (List.mem_of_getElem? (i := 1) rfl)) (mw (.selects RX11 yX11_reasonOfMove yX11_reasonOfMove) (List.mem_of_getElem? (i := 2) rfl)) (mw (.initialized RX11) (List.mem_of_getElem? (i := 3) rfl)) j_X11_reasonOfMove_0) rfl rfl rfl (by decide +kernel) ⟨Nat.le_of_ble_eq_true rfl, Nat.le_of_ble_eq_true rfl⟩) (wPV hK hE hPc hDc 8 0 rfl rfl) rfl rfl hl.1 rfl (lv_room (Nat.le_of_ble_eq_true rfl)) dX11_reason_574 ⟨Nat.le_of_ble_eq_true rfl, Nat.le_of_ble_eq_true rfl⟩) hP hD hS hA [0] [] rfl rfl rfl (by decide) (fun r u H locs hw hP hD hS => ?_)
  rcases hw with ⟨rfl, rfl⟩
  have hP : va_P G vwCl [(h0, .inr (8, [.int 1, .int 0, .int (-1), .int 0, .int 0, .int (-1), .int 0, .int 0, .int 0, .int 0, .int 0, .ref h1, .ref h2, .ref h3, .ref h4, .ref h5, .ref h6, .ref h7, .ref h8, .ref h9, .ref h10, .ref h11, .ref h12, .ref h13, .ref h14, .ref h15, .ref h16, .ref h17, .ref h18, .ref h19, .int 0, .ref h20, .ref h21, .ref h22, .ref h23, .int 0, .int 0, .ref h24, .ref h25, .int (-1), .ref h26, .ref h27]))] _ := hP
  have hD : va_D A [(h0, .inr (8, [.int 1, .int 0, .int (-1), .int 0, .int 0, .int (-1), .int 0, .int 0, .int 0, .int 0, .int 0, .ref h1, .ref h2, .ref h3, .ref h4, .ref h5, .ref h6, .ref h7, .ref h8, .ref h9, .ref h10, .ref h11, .ref h12, .ref h13, .ref h14, .ref h15, .ref h16, .ref h17, .ref h18, .ref h19, .int 0, .ref h20, .ref h21, .ref h22, .ref h23, .int 0, .int 0, .ref h24, .ref h25, .int (-1), .ref h26, .ref h27]))] := hD
  have hP9 : va_P G vwCl [(h0, .inr (8, [.int 1, .int 0, .int (-1), .int 0, .int 0, .int (-1), .int 0, .int 0, .int 0, .int 0, .int 0, .ref h1, .ref h2, .ref h3, .ref h4, .ref h5, .ref h6, .ref h7, .ref h8, .ref h9, .ref h10, .ref h11, .ref h12, .ref h13, .ref h14, .ref h15, .ref h16, .ref h17, .ref h18, .ref h19, .int 0, .ref h20, .ref h21, .ref h22, .ref h23, .int 0, .int 0, .ref h24, .ref h25, .int (-1), .ref h26, .ref h27]))] _ := hP
  have hD9 : va_D A [(h0, .inr (8, [.int 1, .int 0, .int (-1), .int 0, .int 0, .int (-1), .int 0, .int 0, .int 0, .int 0, .int 0, .ref h1, .ref h2, .ref h3, .ref h4, .ref h5, .ref h6, .ref h7, .ref h8, .ref h9, .ref h10, .ref h11, .ref h12, .ref h13, .ref h14, .ref h15, .ref h16, .ref h17, .ref h18, .ref h19, .int 0, .ref h20, .ref h21, .ref h22, .ref h23, .int 0, .int 0, .ref h24, .ref h25, .int (-1), .ref h26, .ref h27]))] := hD
  exact W.iret (v := 11) hx hb hr (fun t ht hW => ⟨⟨11, _, rfl, ⟨rfl, rfl⟩, by rw [ht]; exact hP9, hD9⟩, hS.F ht⟩) hS.2.2 dX11_reason_577
def e_X11_act_24 : List Cond := [.methodLink RX11 196 yX11_reason, .instanceMethod yX11_reason, .selects RX11 yX11_reason yX11_reason, .initialized RX11, .fieldLink RX11 127 "MotionFloorModel$Hall" "why" "I"]
def v_X11_act_24 : List Cond := .code yX11_act cX11_act 10 (some .int) :: (e_X11_act_24 ++ (wsX110 ++ (v_X11_reason_24 ++ [])))
theorem te_X11_act_24 : GoodIn lw_tbl e_X11_act_24 := wGc z364 (wGc z363 (wGc z362 (wGc z227 (wGc z198 (wG0)))))
theorem t_X11_act_24 : GoodIn lw_tbl v_X11_act_24 := wGc z365 (wGa te_X11_act_24 (wGa zcX11 (wGa t_X11_reason_24 (wG0))))
set_option maxHeartbeats 4000000 in
set_option maxRecDepth 100000 in
theorem m_X11_act_24 (l : Launch) (G : va_G) (K : Nat → ClassId) (h0 h1 h2 h3 h4 h5 h6 h7 h8 h9 h10 h11 h12 h13 h14 h15 h16 h17 h18 h19 h20 h21 h22 h23 h24 h25 h26 h27 : Nat) (p0 : Int32) (sz : Nat) : Met l yX11_act v_X11_act_24 ({ frames := 2, cells := 0, slots := 0, locals := 51 }) (va_Pc [.ref h0, .int 15, .int p0, .int 0, .int 0, .int 0] (wS G K sz [(h0, .inr (8, [.int 1, .int 0, .int (-1), .int 0, .int 0, .int (-1), .int 0, .int 0, .int 0, .int 0, .int 0, .ref h1, .ref h2, .ref h3, .ref h4, .ref h5, .ref h6, .ref h7, .ref h8, .ref h9, .ref h10, .ref h11, .ref h12, .ref h13, .ref h14, .ref h15, .ref h16, .ref h17, .ref h18, .ref h19, .int 0, .ref h20, .ref h21, .ref h22, .ref h23, .int 0, .int 0, .ref h24, .ref h25, .int (-1), .ref h26, .ref h27]))])) (va_Qi (fun (r : Int32) (u : va_W) => ((-11) = r ∧ u = [(h0, .inr (8, [.int 1, .int 0, .int (-1), .int 0, .int 0, .int (-1), .int 0, .int 0, .int 0, .int 0, .int 11, .ref h1, .ref h2, .ref h3, .ref h4, .ref h5, .ref h6, .ref h7, .ref h8, .ref h9, .ref h10, .ref h11, .ref h12, .ref h13, .ref h14, .ref h15, .ref h16, .ref h17, .ref h18, .ref h19, .int 0, .ref h20, .ref h21, .ref h22, .ref h23, .int 0, .int 0, .ref h24, .ref h25, .int (-1), .ref h26, .ref h27]))])) (wB G (va_A [(h0, .inr (8, [.int 1, .int 0, .int (-1), .int 0, .int 0, .int (-1), .int 0, .int 0, .int 0, .int 0, .int 0, .ref h1, .ref h2, .ref h3, .ref h4, .ref h5, .ref h6, .ref h7, .ref h8, .ref h9, .ref h10, .ref h11, .ref h12, .ref h13, .ref h14, .ref h15, .ref h16, .ref h17, .ref h18, .ref h19, .int 0, .ref h20, .ref h21, .ref h22, .ref h23, .int 0, .int 0, .ref h24, .ref h25, .int (-1), .ref h26, .ref h27]))] sz)) (va_A [(h0, .inr (8, [.int 1, .int 0, .int (-1), .int 0, .int 0, .int (-1), .int 0, .int 0, .int 0, .int 0, .int 0, .ref h1, .ref h2, .ref h3, .ref h4, .ref h5, .ref h6, .ref h7, .ref h8, .ref h9, .ref h10, .ref h11, .ref h12, .ref h13, .ref h14, .ref h15, .ref h16, .ref h17, .ref h18, .ref h19, .int 0, .ref h20, .ref h21, .ref h22, .ref h23, .int 0, .int 0, .ref h24, .ref h25, .int (-1), .ref h26, .ref h27]))] sz)) 0 0 (va_A [(h0, .inr (8, [.int 1, .int 0, .int (-1), .int 0, .int 0, .int (-1), .int 0, .int 0, .int 0, .int 0, .int 0, .ref h1, .ref h2, .ref h3, .ref h4, .ref h5, .ref h6, .ref h7, .ref h8, .ref h9, .ref h10, .ref h11, .ref h12, .ref h13, .ref h14, .ref h15, .ref h16, .ref h17, .ref h18, .ref h19, .int 0, .ref h20, .ref h21, .ref h22, .ref h23, .int 0, .int 0, .ref h24, .ref h25, .int (-1), .ref h26, .ref h27]))] sz) := by
  refine Met.ofW (cc := cX11_act) (maxL := 10) (ret := (some .int)) (by decide) rfl ?_
  intro p e s m args below meth c s₁ B hml hv
  obtain ⟨rfl, hsz, hP, hK, hD0, hE⟩ := hv
  have hx := B.exec
  have hb := B.bytes
  have hr := B.returns
  have hts := atoms_spec (ws := v_X11_act_24) B.pre
  have t_ := t_X11_act_24
  have mw : ∀ w ∈ e_X11_act_24, w ∈ v_X11_act_24 := fun w h => List.mem_cons_of_mem _ (List.mem_append_left _ h)
  have hw := fun w (h : w ∈ e_X11_act_24) => hts w (mw w h)
  have iX11 : ∀ w ∈ wsX110, w ∈ v_X11_act_24 := fun w h => List.mem_cons_of_mem _ (List.mem_append_right _ (List.mem_append_left _ h))
  have j_X11_reason_24 : ∀ w ∈ v_X11_reason_24, w ∈ v_X11_act_24 := fun w h => List.mem_cons_of_mem _ (List.mem_append_right _ (List.mem_append_right _ (List.mem_append_left _ h)))
  have hown : s.vm.findClass RX11 = some m.cls := findClass_of_methodNamed B.named
  have hlocks := B.notSynchronized
  subst hsz
  have hD := hD0.self (sz := s.heap.size)
  generalize hAe : va_A [(h0, .inr (8, [.int 1, .int 0, .int (-1), .int 0, .int 0, .int (-1), .int 0, .int 0, .int 0, .int 0, .int 0, .ref h1, .ref h2, .ref h3, .ref h4, .ref h5, .ref h6, .ref h7, .ref h8, .ref h9, .ref h10, .ref h11, .ref h12, .ref h13, .ref h14, .ref h15, .ref h16, .ref h17, .ref h18, .ref h19, .int 0, .ref h20, .ref h21, .ref h22, .ref h23, .int 0, .int 0, .ref h24, .ref h25, .int (-1), .ref h26, .ref h27]))] s.heap.size = A at hD ⊢
  have hA : ∀ q : Nat, s.heap.size ≤ q → A q := fun q h => by rw [← hAe]; exact Or.inr h
  have hS : va_S A s.heap s.heap [] := va_S.rf
  have hP : va_P G vwCl [(h0, .inr (8, [.int 1, .int 0, .int (-1), .int 0, .int 0, .int (-1), .int 0, .int 0, .int 0, .int 0, .int 0, .ref h1, .ref h2, .ref h3, .ref h4, .ref h5, .ref h6, .ref h7, .ref h8, .ref h9, .ref h10, .ref h11, .ref h12, .ref h13, .ref h14, .ref h15, .ref h16, .ref h17, .ref h18, .ref h19, .int 0, .ref h20, .ref h21, .ref h22, .ref h23, .int 0, .int 0, .ref h24, .ref h25, .int (-1), .ref h26, .ref h27]))] s.heap := hP
  have hl := lv_entry ([.ref h0, .int 15, .int p0, .int 0, .int 0, .int 0]) (n := 10) (Nat.le_of_ble_eq_true rfl)
  rw [lg_entry_eq]
  generalize (lg_sl ([.ref h0, .int 15, .int p0, .int 0, .int 0, .int 0]) ++ List.replicate (10 - (lg_sl ([.ref h0, .int 15, .int p0, .int 0, .int 0, .int 0])).length) Slot.unset).toArray = ls at hl ⊢
  have hl : lv_has ls 10 [(0, .ref h0), (1, .int 15), (2, .int p0), (3, .int 0), (4, .int 0), (5, .int 0)] := hl
  refine lv_aload_n hx hb dX11_act_0 rfl (lv_at hl 0 rfl) ?_
  refine lv_iload_n hx hb dX11_act_1 rfl (lv_at hl 1 rfl) ?_
  refine lv_iload_n hx hb dX11_act_2 rfl (lv_at hl 2 rfl) ?_
  refine lv_iload_n hx hb dX11_act_3 rfl (lv_at hl 3 rfl) ?_
  refine lv_iload hx hb dX11_act_4 (lv_at hl 4 rfl) ?_
  refine lv_iload hx hb dX11_act_6 (lv_at hl 5 rfl) ?_
  have hPc := hP.sub (ws' := [(h0, .inr (8, [.int 1, .int 0, .int (-1), .int 0, .int 0, .int (-1), .int 0, .int 0, .int 0, .int 0, .int 0, .ref h1, .ref h2, .ref h3, .ref h4, .ref h5, .ref h6, .ref h7, .ref h8, .ref h9, .ref h10, .ref h11, .ref h12, .ref h13, .ref h14, .ref h15, .ref h16, .ref h17, .ref h18, .ref h19, .int 0, .ref h20, .ref h21, .ref h22, .ref h23, .int 0, .int 0, .ref h24, .ref h25, .int (-1), .ref h26, .ref h27]))]) [0] rfl
  have hDc := hD.sub (ws' := [(h0, .inr (8, [.int 1, .int 0, .int (-1), .int 0, .int 0, .int (-1), .int 0, .int 0, .int 0, .int 0, .int 0, .ref h1, .ref h2, .ref h3, .ref h4, .ref h5, .ref h6, .ref h7, .ref h8, .ref h9, .ref h10, .ref h11, .ref h12, .ref h13, .ref h14, .ref h15, .ref h16, .ref h17, .ref h18, .ref h19, .int 0, .ref h20, .ref h21, .ref h22, .ref h23, .int 0, .int 0, .ref h24, .ref h25, .int (-1), .ref h26, .ref h27]))]) [0] (by decide) rfl
  refine wGoi (wc := [(h0, .inr (8, [.int 1, .int 0, .int (-1), .int 0, .int 0, .int (-1), .int 0, .int 0, .int 0, .int 0, .int 0, .ref h1, .ref h2, .ref h3, .ref h4, .ref h5, .ref h6, .ref h7, .ref h8, .ref h9, .ref h10, .ref h11, .ref h12, .ref h13, .ref h14, .ref h15, .ref h16, .ref h17, .ref h18, .ref h19, .int 0, .ref h20, .ref h21, .ref h22, .ref h23, .int 0, .int 0, .ref h24, .ref h25, .int (-1), .ref h26, .ref h27]))]) (wr := []) (va_runV (As := [.int 15, .int p0, .int 0, .int 0, .int 0]) (rest := []) ⟨hx, hb, hml, hown, hts⟩ (m_X11_reason_24 l G K h0 h1 h2 h3 h4 h5 h6 h7 h8 h9 h10 h11 h12 h13 h14 h15 h16 h17 h18 h19 h20 h21 h22 h23 h24 h25 h26 h27 p0 _) (cwV 5 hts (wGV t_ (mw (.methodLink RX11 196 yX11_reason) (List.mem_of_getElem? (i := 0) rfl)) (mw (.instanceMethod yX11_reason) (List.mem_of_getElem? (i := 1) rfl)) (mw (.selects RX11 yX11_reason yX11_reason) (List.mem_of_getElem? (i := 2) rfl)) (mw (.initialized RX11) (List.mem_of_getElem? (i := 3) rfl)) j_X11_reason_24) rfl rfl rfl (by decide +kernel) ⟨Nat.le_of_ble_eq_true rfl, Nat.le_of_ble_eq_true rfl⟩) (wPV hK hE hPc hDc 8 0 rfl rfl) rfl rfl hl.1 rfl (lv_room (Nat.le_of_ble_eq_true rfl)) dX11_act_8 ⟨Nat.le_of_ble_eq_true rfl, Nat.le_of_ble_eq_true rfl⟩) hP hD hS hA [0] [] rfl rfl rfl (by decide) (fun r u H locs hw hP hD hS => ?_)
  rcases hw with ⟨rfl, rfl⟩
  have hP : va_P G vwCl [(h0, .inr (8, [.int 1, .int 0, .int (-1), .int 0, .int 0, .int (-1), .int 0, .int 0, .int 0, .int 0, .int 0, .ref h1, .ref h2, .ref h3, .ref h4, .ref h5, .ref h6, .ref h7, .ref h8, .ref h9, .ref h10, .ref h11, .ref h12, .ref h13, .ref h14, .ref h15, .ref h16, .ref h17, .ref h18, .ref h19, .int 0, .ref h20, .ref h21, .ref h22, .ref h23, .int 0, .int 0, .ref h24, .ref h25, .int (-1), .ref h26, .ref h27]))] _ := hP
  have hD : va_D A [(h0, .inr (8, [.int 1, .int 0, .int (-1), .int 0, .int 0, .int (-1), .int 0, .int 0, .int 0, .int 0, .int 0, .ref h1, .ref h2, .ref h3, .ref h4, .ref h5, .ref h6, .ref h7, .ref h8, .ref h9, .ref h10, .ref h11, .ref h12, .ref h13, .ref h14, .ref h15, .ref h16, .ref h17, .ref h18, .ref h19, .int 0, .ref h20, .ref h21, .ref h22, .ref h23, .int 0, .int 0, .ref h24, .ref h25, .int (-1), .ref h26, .ref h27]))] := hD
  refine lv_istore (lv' := [(6, .int 11), (0, .ref h0), (1, .int 15), (2, .int p0), (3, .int 0), (4, .int 0), (5, .int 0)]) hx hb dX11_act_11 hl (by decide) rfl (fun ls hl => ?_)
  refine lv_iload hx hb dX11_act_13 (lv_at hl 0 rfl) ?_
  refine lv_if_ne (tgt := 32) hx hb dX11_act_15 (by decide) (fun _ => ?_) (fun c_ => absurd c_ (by decide))
  refine lv_aload_n hx hb dX11_act_32 rfl (lv_at hl 1 rfl) ?_
  refine lv_iload hx hb dX11_act_33 (lv_at hl 0 rfl) ?_
  refine va_put (D := G) (ci := 8) (v := .int 11) (ty := .int) (C := RX11) (T := TX11) (N := 42) hx hb hts iX11 tyX11 tyX11_ok nmX11 hown hK hP hD hS 0 rfl rfl 10 (by decide) (hw (.fieldLink RX11 127 "MotionFloorModel$Hall" "why" "I") (List.mem_of_getElem? (i := 4) rfl)) (fun _ h9 => h9) rfl (by decide +kernel) rfl rfl (Nat.le_of_ble_eq_true rfl) dX11_act_35 (fun H locs hP hD hS => ?_)
  have hP : va_P G vwCl [(h0, .inr (8, [.int 1, .int 0, .int (-1), .int 0, .int 0, .int (-1), .int 0, .int 0, .int 0, .int 0, .int 11, .ref h1, .ref h2, .ref h3, .ref h4, .ref h5, .ref h6, .ref h7, .ref h8, .ref h9, .ref h10, .ref h11, .ref h12, .ref h13, .ref h14, .ref h15, .ref h16, .ref h17, .ref h18, .ref h19, .int 0, .ref h20, .ref h21, .ref h22, .ref h23, .int 0, .int 0, .ref h24, .ref h25, .int (-1), .ref h26, .ref h27]))] _ := hP
  have hD : va_D A [(h0, .inr (8, [.int 1, .int 0, .int (-1), .int 0, .int 0, .int (-1), .int 0, .int 0, .int 0, .int 0, .int 11, .ref h1, .ref h2, .ref h3, .ref h4, .ref h5, .ref h6, .ref h7, .ref h8, .ref h9, .ref h10, .ref h11, .ref h12, .ref h13, .ref h14, .ref h15, .ref h16, .ref h17, .ref h18, .ref h19, .int 0, .ref h20, .ref h21, .ref h22, .ref h23, .int 0, .int 0, .ref h24, .ref h25, .int (-1), .ref h26, .ref h27]))] := hD
  refine lv_iload hx hb dX11_act_38 (lv_at hl 0 rfl) ?_
  refine lv_if_le (tgt := 47) hx hb dX11_act_40 (by decide) (fun c_ => absurd c_ (by decide)) (fun _ => ?_)
  refine lv_iload hx hb dX11_act_43 (lv_at hl 0 rfl) ?_
  refine lv_ineg hx hb dX11_act_45 ?_
  refine wTop (v1 := .int (-11)) (congrArg Value.int (by decide)) ?_
  have hP9 : va_P G vwCl [(h0, .inr (8, [.int 1, .int 0, .int (-1), .int 0, .int 0, .int (-1), .int 0, .int 0, .int 0, .int 0, .int 11, .ref h1, .ref h2, .ref h3, .ref h4, .ref h5, .ref h6, .ref h7, .ref h8, .ref h9, .ref h10, .ref h11, .ref h12, .ref h13, .ref h14, .ref h15, .ref h16, .ref h17, .ref h18, .ref h19, .int 0, .ref h20, .ref h21, .ref h22, .ref h23, .int 0, .int 0, .ref h24, .ref h25, .int (-1), .ref h26, .ref h27]))] _ := hP
  have hD9 : va_D A [(h0, .inr (8, [.int 1, .int 0, .int (-1), .int 0, .int 0, .int (-1), .int 0, .int 0, .int 0, .int 0, .int 11, .ref h1, .ref h2, .ref h3, .ref h4, .ref h5, .ref h6, .ref h7, .ref h8, .ref h9, .ref h10, .ref h11, .ref h12, .ref h13, .ref h14, .ref h15, .ref h16, .ref h17, .ref h18, .ref h19, .int 0, .ref h20, .ref h21, .ref h22, .ref h23, .int 0, .int 0, .ref h24, .ref h25, .int (-1), .ref h26, .ref h27]))] := hD
  exact W.iret (v := (-11)) hx hb hr (fun t ht hW => ⟨⟨(-11), _, rfl, ⟨rfl, rfl⟩, by rw [ht]; exact hP9, hD9⟩, hS.F ht⟩) hS.2.2 dX11_act_46
def e_X12_move_0 : List Cond := [.fieldLink RX12 16 "MotionFloorModel" "hall" "LMotionFloorModel$Hall;", .methodLink RX12 40 yX11_act, .instanceMethod yX11_act, .selects RX11 yX11_act yX11_act, .initialized RX11]
def v_X12_move_0 : List Cond := .code yX12_move cX12_move 2 (some .int) :: (e_X12_move_0 ++ (wsX120 ++ (v_X11_act_24 ++ [])))
theorem te_X12_move_0 : GoodIn lw_tbl e_X12_move_0 := wGc z225 (wGc z368 (wGc z367 (wGc z366 (wGc z227 (wG0)))))
theorem t_X12_move_0 : GoodIn lw_tbl v_X12_move_0 := wGc z615 (wGa te_X12_move_0 (wGa zcX12 (wGa t_X11_act_24 (wG0))))
set_option maxHeartbeats 4000000 in
set_option maxRecDepth 100000 in
theorem m_X12_move_0 (l : Launch) (G : va_G) (K : Nat → ClassId) (h0 h1 h2 h3 h4 h5 h6 h7 h8 h9 h10 h11 h12 h13 h14 h15 h16 h17 h18 h19 h20 h21 h22 h23 h24 h25 h26 h27 h28 h29 h30 h31 h32 h33 : Nat) (p0 : Int32) (sz : Nat) : Met l yX12_move v_X12_move_0 ({ frames := 3, cells := 0, slots := 0, locals := 80 }) (va_Pc [.ref h0, .int p0] (wS G K sz [(h0, .inr (9, [.ref h1, .ref h2, .ref h3, .ref h4, .ref h5, .ref h6, .int 0])), (h1, .inr (8, [.int 1, .int 0, .int (-1), .int 0, .int 0, .int (-1), .int 0, .int 0, .int 0, .int 0, .int 0, .ref h7, .ref h8, .ref h9, .ref h10, .ref h11, .ref h12, .ref h13, .ref h14, .ref h15, .ref h16, .ref h17, .ref h18, .ref h19, .ref h20, .ref h21, .ref h22, .ref h23, .ref h24, .ref h25, .int 0, .ref h26, .ref h27, .ref h28, .ref h29, .int 0, .int 0, .ref h30, .ref h31, .int (-1), .ref h32, .ref h33]))])) (va_Qi (fun (r : Int32) (u : va_W) => ((-11) = r ∧ u = [(h0, .inr (9, [.ref h1, .ref h2, .ref h3, .ref h4, .ref h5, .ref h6, .int 0])), (h1, .inr (8, [.int 1, .int 0, .int (-1), .int 0, .int 0, .int (-1), .int 0, .int 0, .int 0, .int 0, .int 11, .ref h7, .ref h8, .ref h9, .ref h10, .ref h11, .ref h12, .ref h13, .ref h14, .ref h15, .ref h16, .ref h17, .ref h18, .ref h19, .ref h20, .ref h21, .ref h22, .ref h23, .ref h24, .ref h25, .int 0, .ref h26, .ref h27, .ref h28, .ref h29, .int 0, .int 0, .ref h30, .ref h31, .int (-1), .ref h32, .ref h33]))])) (wB G (va_A [(h0, .inr (9, [.ref h1, .ref h2, .ref h3, .ref h4, .ref h5, .ref h6, .int 0])), (h1, .inr (8, [.int 1, .int 0, .int (-1), .int 0, .int 0, .int (-1), .int 0, .int 0, .int 0, .int 0, .int 0, .ref h7, .ref h8, .ref h9, .ref h10, .ref h11, .ref h12, .ref h13, .ref h14, .ref h15, .ref h16, .ref h17, .ref h18, .ref h19, .ref h20, .ref h21, .ref h22, .ref h23, .ref h24, .ref h25, .int 0, .ref h26, .ref h27, .ref h28, .ref h29, .int 0, .int 0, .ref h30, .ref h31, .int (-1), .ref h32, .ref h33]))] sz)) (va_A [(h0, .inr (9, [.ref h1, .ref h2, .ref h3, .ref h4, .ref h5, .ref h6, .int 0])), (h1, .inr (8, [.int 1, .int 0, .int (-1), .int 0, .int 0, .int (-1), .int 0, .int 0, .int 0, .int 0, .int 0, .ref h7, .ref h8, .ref h9, .ref h10, .ref h11, .ref h12, .ref h13, .ref h14, .ref h15, .ref h16, .ref h17, .ref h18, .ref h19, .ref h20, .ref h21, .ref h22, .ref h23, .ref h24, .ref h25, .int 0, .ref h26, .ref h27, .ref h28, .ref h29, .int 0, .int 0, .ref h30, .ref h31, .int (-1), .ref h32, .ref h33]))] sz)) 0 0 (va_A [(h0, .inr (9, [.ref h1, .ref h2, .ref h3, .ref h4, .ref h5, .ref h6, .int 0])), (h1, .inr (8, [.int 1, .int 0, .int (-1), .int 0, .int 0, .int (-1), .int 0, .int 0, .int 0, .int 0, .int 0, .ref h7, .ref h8, .ref h9, .ref h10, .ref h11, .ref h12, .ref h13, .ref h14, .ref h15, .ref h16, .ref h17, .ref h18, .ref h19, .ref h20, .ref h21, .ref h22, .ref h23, .ref h24, .ref h25, .int 0, .ref h26, .ref h27, .ref h28, .ref h29, .int 0, .int 0, .ref h30, .ref h31, .int (-1), .ref h32, .ref h33]))] sz) := by
  refine Met.ofW (cc := cX12_move) (maxL := 2) (ret := (some .int)) (by decide) rfl ?_
  intro p e s m args below meth c s₁ B hml hv
  obtain ⟨rfl, hsz, hP, hK, hD0, hE⟩ := hv
  have hx := B.exec
  have hb := B.bytes
  have hr := B.returns
  have hts := atoms_spec (ws := v_X12_move_0) B.pre
  have t_ := t_X12_move_0
  have mw : ∀ w ∈ e_X12_move_0, w ∈ v_X12_move_0 := fun w h => List.mem_cons_of_mem _ (List.mem_append_left _ h)
  have hw := fun w (h : w ∈ e_X12_move_0) => hts w (mw w h)
  have iX12 : ∀ w ∈ wsX120, w ∈ v_X12_move_0 := fun w h => List.mem_cons_of_mem _ (List.mem_append_right _ (List.mem_append_left _ h))
  have j_X11_act_24 : ∀ w ∈ v_X11_act_24, w ∈ v_X12_move_0 := fun w h => List.mem_cons_of_mem _ (List.mem_append_right _ (List.mem_append_right _ (List.mem_append_left _ h)))
  have hown : s.vm.findClass RX12 = some m.cls := findClass_of_methodNamed B.named
  have hlocks := B.notSynchronized
  subst hsz
  have hD := hD0.self (sz := s.heap.size)
  generalize hAe : va_A [(h0, .inr (9, [.ref h1, .ref h2, .ref h3, .ref h4, .ref h5, .ref h6, .int 0])), (h1, .inr (8, [.int 1, .int 0, .int (-1), .int 0, .int 0, .int (-1), .int 0, .int 0, .int 0, .int 0, .int 0, .ref h7, .ref h8, .ref h9, .ref h10, .ref h11, .ref h12, .ref h13, .ref h14, .ref h15, .ref h16, .ref h17, .ref h18, .ref h19, .ref h20, .ref h21, .ref h22, .ref h23, .ref h24, .ref h25, .int 0, .ref h26, .ref h27, .ref h28, .ref h29, .int 0, .int 0, .ref h30, .ref h31, .int (-1), .ref h32, .ref h33]))] s.heap.size = A at hD ⊢
  have hA : ∀ q : Nat, s.heap.size ≤ q → A q := fun q h => by rw [← hAe]; exact Or.inr h
  have hS : va_S A s.heap s.heap [] := va_S.rf
  have hP : va_P G vwCl [(h0, .inr (9, [.ref h1, .ref h2, .ref h3, .ref h4, .ref h5, .ref h6, .int 0])), (h1, .inr (8, [.int 1, .int 0, .int (-1), .int 0, .int 0, .int (-1), .int 0, .int 0, .int 0, .int 0, .int 0, .ref h7, .ref h8, .ref h9, .ref h10, .ref h11, .ref h12, .ref h13, .ref h14, .ref h15, .ref h16, .ref h17, .ref h18, .ref h19, .ref h20, .ref h21, .ref h22, .ref h23, .ref h24, .ref h25, .int 0, .ref h26, .ref h27, .ref h28, .ref h29, .int 0, .int 0, .ref h30, .ref h31, .int (-1), .ref h32, .ref h33]))] s.heap := hP
  have hl := lv_entry ([.ref h0, .int p0]) (n := 2) (Nat.le_of_ble_eq_true rfl)
  rw [lg_entry_eq]
  generalize (lg_sl ([.ref h0, .int p0]) ++ List.replicate (2 - (lg_sl ([.ref h0, .int p0])).length) Slot.unset).toArray = ls at hl ⊢
  have hl : lv_has ls 2 [(0, .ref h0), (1, .int p0)] := hl
  refine lv_aload_n hx hb dX12_move_0 rfl (lv_at hl 0 rfl) ?_
  refine va_get (D := G) (ci := 9) (v := .ref h1) (C := RX12) (T := TX12) (N := 7) hx hb hts iX12 hown hK hP 0 rfl rfl 0 (by decide) (hw (.fieldLink RX12 16 "MotionFloorModel" "hall" "LMotionFloorModel$Hall;") (List.mem_of_getElem? (i := 0) rfl)) (fun _ h9 => h9) rfl dX12_move_1 ?_
  refine lv_bipush (v := 15) hx hb dX12_move_4 (by decide) ?_
  refine lv_iload_n hx hb dX12_move_6 rfl (lv_at hl 1 rfl) ?_
  refine lv_iconst (v := 0) hx hb dX12_move_7 (by decide) ?_
  refine lv_iconst (v := 0) hx hb dX12_move_8 (by decide) ?_
  refine lv_iconst (v := 0) hx hb dX12_move_9 (by decide) ?_
  have hPc := hP.sub (ws' := [(h1, .inr (8, [.int 1, .int 0, .int (-1), .int 0, .int 0, .int (-1), .int 0, .int 0, .int 0, .int 0, .int 0, .ref h7, .ref h8, .ref h9, .ref h10, .ref h11, .ref h12, .ref h13, .ref h14, .ref h15, .ref h16, .ref h17, .ref h18, .ref h19, .ref h20, .ref h21, .ref h22, .ref h23, .ref h24, .ref h25, .int 0, .ref h26, .ref h27, .ref h28, .ref h29, .int 0, .int 0, .ref h30, .ref h31, .int (-1), .ref h32, .ref h33]))]) [1] rfl
  have hDc := hD.sub (ws' := [(h1, .inr (8, [.int 1, .int 0, .int (-1), .int 0, .int 0, .int (-1), .int 0, .int 0, .int 0, .int 0, .int 0, .ref h7, .ref h8, .ref h9, .ref h10, .ref h11, .ref h12, .ref h13, .ref h14, .ref h15, .ref h16, .ref h17, .ref h18, .ref h19, .ref h20, .ref h21, .ref h22, .ref h23, .ref h24, .ref h25, .int 0, .ref h26, .ref h27, .ref h28, .ref h29, .int 0, .int 0, .ref h30, .ref h31, .int (-1), .ref h32, .ref h33]))]) [1] (by decide) rfl
  refine wGoi (wc := [(h1, .inr (8, [.int 1, .int 0, .int (-1), .int 0, .int 0, .int (-1), .int 0, .int 0, .int 0, .int 0, .int 0, .ref h7, .ref h8, .ref h9, .ref h10, .ref h11, .ref h12, .ref h13, .ref h14, .ref h15, .ref h16, .ref h17, .ref h18, .ref h19, .ref h20, .ref h21, .ref h22, .ref h23, .ref h24, .ref h25, .int 0, .ref h26, .ref h27, .ref h28, .ref h29, .int 0, .int 0, .ref h30, .ref h31, .int (-1), .ref h32, .ref h33]))]) (wr := [(h0, .inr (9, [.ref h1, .ref h2, .ref h3, .ref h4, .ref h5, .ref h6, .int 0]))]) (va_runV (As := [.int 15, .int p0, .int 0, .int 0, .int 0]) (rest := []) ⟨hx, hb, hml, hown, hts⟩ (m_X11_act_24 l G K h1 h7 h8 h9 h10 h11 h12 h13 h14 h15 h16 h17 h18 h19 h20 h21 h22 h23 h24 h25 h26 h27 h28 h29 h30 h31 h32 h33 p0 _) (cwV 5 hts (wGV t_ (mw (.methodLink RX12 40 yX11_act) (List.mem_of_getElem? (i := 1) rfl)) (mw (.instanceMethod yX11_act) (List.mem_of_getElem? (i := 2) rfl)) (mw (.selects RX11 yX11_act yX11_act) (List.mem_of_getElem? (i := 3) rfl)) (mw (.initialized RX11) (List.mem_of_getElem? (i := 4) rfl)) j_X11_act_24) rfl rfl rfl (by decide +kernel) ⟨Nat.le_of_ble_eq_true rfl, Nat.le_of_ble_eq_true rfl⟩) (wPV hK hE hPc hDc 8 0 rfl rfl) rfl rfl hl.1 rfl (lv_room (Nat.le_of_ble_eq_true rfl)) dX12_move_10 ⟨Nat.le_of_ble_eq_true rfl, Nat.le_of_ble_eq_true rfl⟩) hP hD hS hA [1] [0] rfl rfl rfl (by decide) (fun r u H locs hw hP hD hS => ?_)
  rcases hw with ⟨rfl, rfl⟩
  have hP : va_P G vwCl [(h0, .inr (9, [.ref h1, .ref h2, .ref h3, .ref h4, .ref h5, .ref h6, .int 0])), (h1, .inr (8, [.int 1, .int 0, .int (-1), .int 0, .int 0, .int (-1), .int 0, .int 0, .int 0, .int 0, .int 11, .ref h7, .ref h8, .ref h9, .ref h10, .ref h11, .ref h12, .ref h13, .ref h14, .ref h15, .ref h16, .ref h17, .ref h18, .ref h19, .ref h20, .ref h21, .ref h22, .ref h23, .ref h24, .ref h25, .int 0, .ref h26, .ref h27, .ref h28, .ref h29, .int 0, .int 0, .ref h30, .ref h31, .int (-1), .ref h32, .ref h33]))] _ := hP
  have hD : va_D A [(h0, .inr (9, [.ref h1, .ref h2, .ref h3, .ref h4, .ref h5, .ref h6, .int 0])), (h1, .inr (8, [.int 1, .int 0, .int (-1), .int 0, .int 0, .int (-1), .int 0, .int 0, .int 0, .int 0, .int 11, .ref h7, .ref h8, .ref h9, .ref h10, .ref h11, .ref h12, .ref h13, .ref h14, .ref h15, .ref h16, .ref h17, .ref h18, .ref h19, .ref h20, .ref h21, .ref h22, .ref h23, .ref h24, .ref h25, .int 0, .ref h26, .ref h27, .ref h28, .ref h29, .int 0, .int 0, .ref h30, .ref h31, .int (-1), .ref h32, .ref h33]))] := hD
  have hP9 : va_P G vwCl [(h0, .inr (9, [.ref h1, .ref h2, .ref h3, .ref h4, .ref h5, .ref h6, .int 0])), (h1, .inr (8, [.int 1, .int 0, .int (-1), .int 0, .int 0, .int (-1), .int 0, .int 0, .int 0, .int 0, .int 11, .ref h7, .ref h8, .ref h9, .ref h10, .ref h11, .ref h12, .ref h13, .ref h14, .ref h15, .ref h16, .ref h17, .ref h18, .ref h19, .ref h20, .ref h21, .ref h22, .ref h23, .ref h24, .ref h25, .int 0, .ref h26, .ref h27, .ref h28, .ref h29, .int 0, .int 0, .ref h30, .ref h31, .int (-1), .ref h32, .ref h33]))] _ := hP
  have hD9 : va_D A [(h0, .inr (9, [.ref h1, .ref h2, .ref h3, .ref h4, .ref h5, .ref h6, .int 0])), (h1, .inr (8, [.int 1, .int 0, .int (-1), .int 0, .int 0, .int (-1), .int 0, .int 0, .int 0, .int 0, .int 11, .ref h7, .ref h8, .ref h9, .ref h10, .ref h11, .ref h12, .ref h13, .ref h14, .ref h15, .ref h16, .ref h17, .ref h18, .ref h19, .ref h20, .ref h21, .ref h22, .ref h23, .ref h24, .ref h25, .int 0, .ref h26, .ref h27, .ref h28, .ref h29, .int 0, .int 0, .ref h30, .ref h31, .int (-1), .ref h32, .ref h33]))] := hD
  exact W.iret (v := (-11)) hx hb hr (fun t ht hW => ⟨⟨(-11), _, rfl, ⟨rfl, rfl⟩, by rw [ht]; exact hP9, hD9⟩, hS.F ht⟩) hS.2.2 dX12_move_13
def e_X2_isThere_1 : List Cond := []
def v_X2_isThere_1 : List Cond := .code yX2_isThere cX2_isThere 2 (some .boolean) :: (e_X2_isThere_1 ++ [])
theorem te_X2_isThere_1 : GoodIn lw_tbl e_X2_isThere_1 := wG0
theorem t_X2_isThere_1 : GoodIn lw_tbl v_X2_isThere_1 := wGc z289 (wGa te_X2_isThere_1 (wG0))
set_option maxHeartbeats 4000000 in
set_option maxRecDepth 100000 in
theorem m_X2_isThere_1 (l : Launch) (G : va_G) (K : Nat → ClassId) (h0 h1 h2 : Nat) (sz : Nat) : Met l yX2_isThere v_X2_isThere_1 ({ frames := 0, cells := 0, slots := 0, locals := 0 }) (va_Pc [.ref h0, .int (-1)] (wS G K sz [(h0, .inr (1, [.int 1, .ref h1, .int 0, .int (-1), .int 0, .int 0, .int (-1), .ref h2]))])) (va_Qi (fun (r : Int32) (u : va_W) => (0 = r ∧ u = [(h0, .inr (1, [.int 1, .ref h1, .int 0, .int (-1), .int 0, .int 0, .int (-1), .ref h2]))])) (wB G (va_A [(h0, .inr (1, [.int 1, .ref h1, .int 0, .int (-1), .int 0, .int 0, .int (-1), .ref h2]))] sz)) (va_A [(h0, .inr (1, [.int 1, .ref h1, .int 0, .int (-1), .int 0, .int 0, .int (-1), .ref h2]))] sz)) 0 0 (va_A [(h0, .inr (1, [.int 1, .ref h1, .int 0, .int (-1), .int 0, .int 0, .int (-1), .ref h2]))] sz) := by
  refine Met.ofW (cc := cX2_isThere) (maxL := 2) (ret := (some .boolean)) (by decide) rfl ?_
  intro p e s m args below meth c s₁ B hml hv
  obtain ⟨rfl, hsz, hP, hK, hD0, hE⟩ := hv
  have hx := B.exec
  have hb := B.bytes
  have hr := B.returns
  have hts := atoms_spec (ws := v_X2_isThere_1) B.pre
  have t_ := t_X2_isThere_1
  have mw : ∀ w ∈ e_X2_isThere_1, w ∈ v_X2_isThere_1 := fun w h => List.mem_cons_of_mem _ (List.mem_append_left _ h)
  have hw := fun w (h : w ∈ e_X2_isThere_1) => hts w (mw w h)
  have hown : s.vm.findClass RX2 = some m.cls := findClass_of_methodNamed B.named
  have hlocks := B.notSynchronized
  subst hsz
  have hD := hD0.self (sz := s.heap.size)
  generalize hAe : va_A [(h0, .inr (1, [.int 1, .ref h1, .int 0, .int (-1), .int 0, .int 0, .int (-1), .ref h2]))] s.heap.size = A at hD ⊢
  have hA : ∀ q : Nat, s.heap.size ≤ q → A q := fun q h => by rw [← hAe]; exact Or.inr h
  have hS : va_S A s.heap s.heap [] := va_S.rf
  have hP : va_P G vwCl [(h0, .inr (1, [.int 1, .ref h1, .int 0, .int (-1), .int 0, .int 0, .int (-1), .ref h2]))] s.heap := hP
  have hl := lv_entry ([.ref h0, .int (-1)]) (n := 2) (Nat.le_of_ble_eq_true rfl)
  rw [lg_entry_eq]
  generalize (lg_sl ([.ref h0, .int (-1)]) ++ List.replicate (2 - (lg_sl ([.ref h0, .int (-1)])).length) Slot.unset).toArray = ls at hl ⊢
  have hl : lv_has ls 2 [(0, .ref h0), (1, .int (-1))] := hl
  refine lv_iload_n hx hb dX2_isThere_0 rfl (lv_at hl 1 rfl) ?_
  refine lv_if_lt (tgt := 34) hx hb dX2_isThere_1 (by decide) (fun _ => ?_) (fun c_ => absurd c_ (by decide))
  refine lv_iconst (v := 0) hx hb dX2_isThere_34 (by decide) ?_
  have hP9 : va_P G vwCl [(h0, .inr (1, [.int 1, .ref h1, .int 0, .int (-1), .int 0, .int 0, .int (-1), .ref h2]))] _ := hP
  have hD9 : va_D A [(h0, .inr (1, [.int 1, .ref h1, .int 0, .int (-1), .int 0, .int 0, .int (-1), .ref h2]))] := hD
  exact W.zret (v := 0) (ty := .boolean) hx hb hr rfl (fun t ht hW => ⟨⟨0, _, rfl, ⟨rfl, rfl⟩, by rw [ht]; exact hP9, hD9⟩, hS.F ht⟩) hS.2.2 dX2_isThere_35
def e_X8_againstOnMotion_1 : List Cond := [.fieldLink RX8 34 "MotionFloor$Assembly" "house" "LMotionFloor$House;", .fieldLink RX8 79 "MotionFloor$House" "chair" "I", .methodLink RX8 82 yX2_isThere, .instanceMethod yX2_isThere, .selects RX2 yX2_isThere yX2_isThere, .initialized RX2, .fieldLink RX8 86 "MotionFloor$Assembly" "pending" "LMotionFloor$Pile;", .methodLink RX8 90 yX5_top, .instanceMethod yX5_top, .selects RX5 yX5_top yX5_top, .initialized RX5]
def v_X8_againstOnMotion_1 : List Cond := .code yX8_againstOnMotion cX8_againstOnMotion 6 (some .int) :: (e_X8_againstOnMotion_1 ++ (wsX00 ++ (wsX20 ++ (v_X2_isThere_1 ++ (v_X5_top_0 ++ [])))))
theorem te_X8_againstOnMotion_1 : GoodIn lw_tbl e_X8_againstOnMotion_1 := wGc z300 (wGc z622 (wGc z292 (wGc z291 (wGc z290 (wGc z57 (wGc z389 (wGc z450 (wGc z324 (wGc z323 (wGc z26 (wG0)))))))))))
theorem t_X8_againstOnMotion_1 : GoodIn lw_tbl v_X8_againstOnMotion_1 := wGc z607 (wGa te_X8_againstOnMotion_1 (wGa zcX0 (wGa zcX2 (wGa t_X2_isThere_1 (wGa t_X5_top_0 (wG0))))))
set_option maxHeartbeats 4000000 in
set_option maxRecDepth 100000 in
theorem m_X8_againstOnMotion_1 (l : Launch) (G : va_G) (K : Nat → ClassId) (h0 h1 h2 h3 h4 h5 h6 h7 h8 h9 h10 : Nat) (p0 : Int32) (sz : Nat) : Met l yX8_againstOnMotion v_X8_againstOnMotion_1 ({ frames := 2, cells := 0, slots := 0, locals := 41 }) (va_Pc [.ref h0, .int 16, .int p0, .int 0] (wS G K sz [(h0, .inr (0, [.ref h1, .ref h2, .ref h3, .ref h4, .ref h5, .ref h6, .ref h7, .int 0, .int 0, .int 0, .null])), (h1, .inr (1, [.int 1, .ref h8, .int 0, .int (-1), .int 0, .int 0, .int (-1), .ref h9])), (h2, .inr (4, [.ref h10, .int 0]))])) (va_Qi (fun (r : Int32) (u : va_W) => (7 = r ∧ u = [(h0, .inr (0, [.ref h1, .ref h2, .ref h3, .ref h4, .ref h5, .ref h6, .ref h7, .int 0, .int 0, .int 0, .null])), (h1, .inr (1, [.int 1, .ref h8, .int 0, .int (-1), .int 0, .int 0, .int (-1), .ref h9])), (h2, .inr (4, [.ref h10, .int 0]))])) (wB G (va_A [(h0, .inr (0, [.ref h1, .ref h2, .ref h3, .ref h4, .ref h5, .ref h6, .ref h7, .int 0, .int 0, .int 0, .null])), (h1, .inr (1, [.int 1, .ref h8, .int 0, .int (-1), .int 0, .int 0, .int (-1), .ref h9])), (h2, .inr (4, [.ref h10, .int 0]))] sz)) (va_A [(h0, .inr (0, [.ref h1, .ref h2, .ref h3, .ref h4, .ref h5, .ref h6, .ref h7, .int 0, .int 0, .int 0, .null])), (h1, .inr (1, [.int 1, .ref h8, .int 0, .int (-1), .int 0, .int 0, .int (-1), .ref h9])), (h2, .inr (4, [.ref h10, .int 0]))] sz)) 0 0 (va_A [(h0, .inr (0, [.ref h1, .ref h2, .ref h3, .ref h4, .ref h5, .ref h6, .ref h7, .int 0, .int 0, .int 0, .null])), (h1, .inr (1, [.int 1, .ref h8, .int 0, .int (-1), .int 0, .int 0, .int (-1), .ref h9])), (h2, .inr (4, [.ref h10, .int 0]))] sz) := by
  refine Met.ofW (cc := cX8_againstOnMotion) (maxL := 6) (ret := (some .int)) (by decide) rfl ?_
  intro p e s m args below meth c s₁ B hml hv
  obtain ⟨rfl, hsz, hP, hK, hD0, hE⟩ := hv
  have hx := B.exec
  have hb := B.bytes
  have hr := B.returns
  have hts := atoms_spec (ws := v_X8_againstOnMotion_1) B.pre
  have t_ := t_X8_againstOnMotion_1
  have mw : ∀ w ∈ e_X8_againstOnMotion_1, w ∈ v_X8_againstOnMotion_1 := fun w h => List.mem_cons_of_mem _ (List.mem_append_left _ h)
  have hw := fun w (h : w ∈ e_X8_againstOnMotion_1) => hts w (mw w h)
  have iX0 : ∀ w ∈ wsX00, w ∈ v_X8_againstOnMotion_1 := fun w h => List.mem_cons_of_mem _ (List.mem_append_right _ (List.mem_append_left _ h))
  have iX2 : ∀ w ∈ wsX20, w ∈ v_X8_againstOnMotion_1 := fun w h => List.mem_cons_of_mem _ (List.mem_append_right _ (List.mem_append_right _ (List.mem_append_left _ h)))
  have j_X2_isThere_1 : ∀ w ∈ v_X2_isThere_1, w ∈ v_X8_againstOnMotion_1 := fun w h => List.mem_cons_of_mem _ (List.mem_append_right _ (List.mem_append_right _ (List.mem_append_right _ (List.mem_append_left _ h))))
  have j_X5_top_0 : ∀ w ∈ v_X5_top_0, w ∈ v_X8_againstOnMotion_1 := fun w h => List.mem_cons_of_mem _ (List.mem_append_right _ (List.mem_append_right _ (List.mem_append_right _ (List.mem_append_right _ (List.mem_append_left _ h)))))
  have hown : s.vm.findClass RX8 = some m.cls := findClass_of_methodNamed B.named
  have hlocks := B.notSynchronized
  subst hsz
  have hD := hD0.self (sz := s.heap.size)
  generalize hAe : va_A [(h0, .inr (0, [.ref h1, .ref h2, .ref h3, .ref h4, .ref h5, .ref h6, .ref h7, .int 0, .int 0, .int 0, .null])), (h1, .inr (1, [.int 1, .ref h8, .int 0, .int (-1), .int 0, .int 0, .int (-1), .ref h9])), (h2, .inr (4, [.ref h10, .int 0]))] s.heap.size = A at hD ⊢
  have hA : ∀ q : Nat, s.heap.size ≤ q → A q := fun q h => by rw [← hAe]; exact Or.inr h
  have hS : va_S A s.heap s.heap [] := va_S.rf
  have hP : va_P G vwCl [(h0, .inr (0, [.ref h1, .ref h2, .ref h3, .ref h4, .ref h5, .ref h6, .ref h7, .int 0, .int 0, .int 0, .null])), (h1, .inr (1, [.int 1, .ref h8, .int 0, .int (-1), .int 0, .int 0, .int (-1), .ref h9])), (h2, .inr (4, [.ref h10, .int 0]))] s.heap := hP
  have hl := lv_entry ([.ref h0, .int 16, .int p0, .int 0]) (n := 6) (Nat.le_of_ble_eq_true rfl)
  rw [lg_entry_eq]
  generalize (lg_sl ([.ref h0, .int 16, .int p0, .int 0]) ++ List.replicate (6 - (lg_sl ([.ref h0, .int 16, .int p0, .int 0])).length) Slot.unset).toArray = ls at hl ⊢
  have hl : lv_has ls 6 [(0, .ref h0), (1, .int 16), (2, .int p0), (3, .int 0)] := hl
  refine lv_iload_n hx hb dX8_againstOnMotion_0 rfl (lv_at hl 1 rfl) ?_
  refine lv_bipush (v := 15) hx hb dX8_againstOnMotion_1 (by decide) ?_
  refine lv_icmp_ne (tgt := 12) hx hb dX8_againstOnMotion_3 (by decide) (fun _ => ?_) (fun c_ => absurd c_ (by decide))
  refine lv_aload_n hx hb dX8_againstOnMotion_12 rfl (lv_at hl 0 rfl) ?_
  refine va_get (D := G) (ci := 0) (v := .ref h1) (C := RX0) (T := TX0) (N := 11) hx hb hts iX0 hown hK hP 0 rfl rfl 0 (by decide) (hw (.fieldLink RX8 34 "MotionFloor$Assembly" "house" "LMotionFloor$House;") (List.mem_of_getElem? (i := 0) rfl)) (fun _ h9 => h9) rfl dX8_againstOnMotion_13 ?_
  refine lv_aload_n hx hb dX8_againstOnMotion_16 rfl (lv_at hl 0 rfl) ?_
  refine va_get (D := G) (ci := 0) (v := .ref h1) (C := RX0) (T := TX0) (N := 11) hx hb hts iX0 hown hK hP 0 rfl rfl 0 (by decide) (hw (.fieldLink RX8 34 "MotionFloor$Assembly" "house" "LMotionFloor$House;") (List.mem_of_getElem? (i := 0) rfl)) (fun _ h9 => h9) rfl dX8_againstOnMotion_17 ?_
  refine va_get (D := G) (ci := 1) (v := .int (-1)) (C := RX2) (T := TX2) (N := 8) hx hb hts iX2 hown hK hP 1 rfl rfl 3 (by decide) (hw (.fieldLink RX8 79 "MotionFloor$House" "chair" "I") (List.mem_of_getElem? (i := 1) rfl)) (fun _ h9 => h9) rfl dX8_againstOnMotion_20 ?_
  have hPc := hP.sub (ws' := [(h1, .inr (1, [.int 1, .ref h8, .int 0, .int (-1), .int 0, .int 0, .int (-1), .ref h9]))]) [1] rfl
  have hDc := hD.sub (ws' := [(h1, .inr (1, [.int 1, .ref h8, .int 0, .int (-1), .int 0, .int 0, .int (-1), .ref h9]))]) [1] (by decide) rfl
  refine wGoi (wc := [(h1, .inr (1, [.int 1, .ref h8, .int 0, .int (-1), .int 0, .int 0, .int (-1), .ref h9]))]) (wr := [(h0, .inr (0, [.ref h1, .ref h2, .ref h3, .ref h4, .ref h5, .ref h6, .ref h7, .int 0, .int 0, .int 0, .null])), (h2, .inr (4, [.ref h10, .int 0]))]) (va_runV (As := [.int (-1)]) (rest := []) ⟨hx, hb, hml, hown, hts⟩ (m_X2_isThere_1 l G K h1 h8 h9 _) (cwV 1 hts (wGV t_ (mw (.methodLink RX8 82 yX2_isThere) (List.mem_of_getElem? (i := 2) rfl)) (mw (.instanceMethod yX2_isThere) (List.mem_of_getElem? (i := 3) rfl)) (mw (.selects RX2 yX2_isThere yX2_isThere) (List.mem_of_getElem? (i := 4) rfl)) (mw (.initialized RX2) (List.mem_of_getElem? (i := 5) rfl)) j_X2_isThere_1) rfl rfl rfl (by decide +kernel) ⟨Nat.le_of_ble_eq_true rfl, Nat.le_of_ble_eq_true rfl⟩) (wPV hK hE hPc hDc 1 0 rfl rfl) rfl rfl hl.1 rfl (lv_room (Nat.le_of_ble_eq_true rfl)) dX8_againstOnMotion_23 ⟨Nat.le_of_ble_eq_true rfl, Nat.le_of_ble_eq_true rfl⟩) hP hD hS hA [1] [0, 2] rfl rfl rfl (by decide) (fun r u H locs hw hP hD hS => ?_)
  rcases hw with ⟨rfl, rfl⟩
  have hP : va_P G vwCl [(h0, .inr (0, [.ref h1, .ref h2, .ref h3, .ref h4, .ref h5, .ref h6, .ref h7, .int 0, .int 0, .int 0, .null])), (h2, .inr (4, [.ref h10, .int 0])), (h1, .inr (1, [.int 1, .ref h8, .int 0, .int (-1), .int 0, .int 0, .int (-1), .ref h9]))] _ := hP
  have hD : va_D A [(h0, .inr (0, [.ref h1, .ref h2, .ref h3, .ref h4, .ref h5, .ref h6, .ref h7, .int 0, .int 0, .int 0, .null])), (h2, .inr (4, [.ref h10, .int 0])), (h1, .inr (1, [.int 1, .ref h8, .int 0, .int (-1), .int 0, .int 0, .int (-1), .ref h9]))] := hD
  refine lv_istore (lv' := [(4, .int 0), (0, .ref h0), (1, .int 16), (2, .int p0), (3, .int 0)]) hx hb dX8_againstOnMotion_26 hl (by decide) rfl (fun ls hl => ?_)
  refine lv_iload_n hx hb dX8_againstOnMotion_28 rfl (lv_at hl 2 rfl) ?_
  refine lv_bipush (v := 22) hx hb dX8_againstOnMotion_29 (by decide) ?_
  refine lv_icmp_ne (tgt := 46) hx hb dX8_againstOnMotion_31 (by decide) (fun _ => ?_) (fun c_ => absurd c_ (by decide))
  refine lv_iload_n hx hb dX8_againstOnMotion_46 rfl (lv_at hl 2 rfl) ?_
  refine lv_bipush (v := 19) hx hb dX8_againstOnMotion_47 (by decide) ?_
  refine lv_icmp_eq (tgt := 58) hx hb dX8_againstOnMotion_49 (by decide) (fun c_ => absurd c_ (by decide)) (fun _ => ?_)
  refine lv_iload_n hx hb dX8_againstOnMotion_52 rfl (lv_at hl 2 rfl) ?_
  refine lv_bipush (v := 21) hx hb dX8_againstOnMotion_53 (by decide) ?_
  refine lv_icmp_ne (tgt := 66) hx hb dX8_againstOnMotion_55 (by decide) (fun _ => ?_) (fun c_ => absurd c_ (by decide))
  refine lv_aload_n hx hb dX8_againstOnMotion_66 rfl (lv_at hl 1 rfl) ?_
  refine va_get (D := G) (ci := 0) (v := .ref h2) (C := RX0) (T := TX0) (N := 11) hx hb hts iX0 hown hK hP 0 rfl rfl 1 (by decide) (hw (.fieldLink RX8 86 "MotionFloor$Assembly" "pending" "LMotionFloor$Pile;") (List.mem_of_getElem? (i := 6) rfl)) (fun _ h9 => h9) rfl dX8_againstOnMotion_67 ?_
  have hPc := hP.sub (ws' := [(h2, .inr (4, [.ref h10, .int 0]))]) [1] rfl
  have hDc := hD.sub (ws' := [(h2, .inr (4, [.ref h10, .int 0]))]) [1] (by decide) rfl
  refine wGoq (wc := [(h2, .inr (4, [.ref h10, .int 0]))]) (wr := [(h0, .inr (0, [.ref h1, .ref h2, .ref h3, .ref h4, .ref h5, .ref h6, .ref h7, .int 0, .int 0, .int 0, .null])), (h1, .inr (1, [.int 1, .ref h8, .int 0, .int (-1), .int 0, .int 0, .int (-1), .ref h9]))]) (va_runV (As := []) (rest := []) ⟨hx, hb, hml, hown, hts⟩ (m_X5_top_0 l G K h2 h10 _) (cwV 0 hts (wGV t_ (mw (.methodLink RX8 90 yX5_top) (List.mem_of_getElem? (i := 7) rfl)) (mw (.instanceMethod yX5_top) (List.mem_of_getElem? (i := 8) rfl)) (mw (.selects RX5 yX5_top yX5_top) (List.mem_of_getElem? (i := 9) rfl)) (mw (.initialized RX5) (List.mem_of_getElem? (i := 10) rfl)) j_X5_top_0) rfl rfl rfl (by decide +kernel) ⟨Nat.le_of_ble_eq_true rfl, Nat.le_of_ble_eq_true rfl⟩) (wPV hK hE hPc hDc 4 0 rfl rfl) rfl rfl hl.1 rfl (lv_room (Nat.le_of_ble_eq_true rfl)) dX8_againstOnMotion_70 ⟨Nat.le_of_ble_eq_true rfl, Nat.le_of_ble_eq_true rfl⟩) hP hD hS hA [1] [0, 2] rfl rfl rfl (by decide) (fun r u H locs hw hP hD hS => ?_)
  rcases hw with ⟨rfl, rfl⟩
  have hP : va_P G vwCl [(h0, .inr (0, [.ref h1, .ref h2, .ref h3, .ref h4, .ref h5, .ref h6, .ref h7, .int 0, .int 0, .int 0, .null])), (h1, .inr (1, [.int 1, .ref h8, .int 0, .int (-1), .int 0, .int 0, .int (-1), .ref h9])), (h2, .inr (4, [.ref h10, .int 0]))] _ := hP
  have hD : va_D A [(h0, .inr (0, [.ref h1, .ref h2, .ref h3, .ref h4, .ref h5, .ref h6, .ref h7, .int 0, .int 0, .int 0, .null])), (h1, .inr (1, [.int 1, .ref h8, .int 0, .int (-1), .int 0, .int 0, .int (-1), .ref h9])), (h2, .inr (4, [.ref h10, .int 0]))] := hD
  refine wTop (v1 := .null) rfl ?_
  refine lv_astoreN (lv' := [(5, .null), (4, .int 0), (0, .ref h0), (1, .int 16), (2, .int p0), (3, .int 0)]) hx hb dX8_againstOnMotion_73 hl (by decide) rfl (fun ls hl => ?_)
  refine lv_aloadN hx hb dX8_againstOnMotion_75 (lv_at hl 0 rfl) ?_
  refine lv_ifnonnullN hx hb dX8_againstOnMotion_77 ?_
  refine lv_bipush (v := 7) hx hb dX8_againstOnMotion_80 (by decide) ?_
  have hP9 : va_P G vwCl [(h0, .inr (0, [.ref h1, .ref h2, .ref h3, .ref h4, .ref h5, .ref h6, .ref h7, .int 0, .int 0, .int 0, .null])), (h1, .inr (1, [.int 1, .ref h8, .int 0, .int (-1), .int 0, .int 0, .int (-1), .ref h9])), (h2, .inr (4, [.ref h10, .int 0]))] _ := hP
  have hD9 : va_D A [(h0, .inr (0, [.ref h1, .ref h2, .ref h3, .ref h4, .ref h5, .ref h6, .ref h7, .int 0, .int 0, .int 0, .null])), (h1, .inr (1, [.int 1, .ref h8, .int 0, .int (-1), .int 0, .int 0, .int (-1), .ref h9])), (h2, .inr (4, [.ref h10, .int 0]))] := hD
  exact W.iret (v := 7) hx hb hr (fun t ht hW => ⟨⟨7, _, rfl, ⟨rfl, rfl⟩, by rw [ht]; exact hP9, hD9⟩, hS.F ht⟩) hS.2.2 dX8_againstOnMotion_82
def e_X8_against_15 : List Cond := [.methodLink RX8 19 yX8_againstOnMotion, .static yX8_againstOnMotion, .initialized RX8]
def v_X8_against_15 : List Cond := .code yX8_against cX8_against 7 (some .int) :: (e_X8_against_15 ++ (v_X8_againstOnMotion_1 ++ []))
theorem te_X8_against_15 : GoodIn lw_tbl e_X8_against_15 := wGc z609 (wGc z608 (wGc z297 (wG0)))
theorem t_X8_against_15 : GoodIn lw_tbl v_X8_against_15 := wGc z310 (wGa te_X8_against_15 (wGa t_X8_againstOnMotion_1 (wG0)))
set_option maxHeartbeats 4000000 in
set_option maxRecDepth 100000 in
theorem m_X8_against_15 (l : Launch) (G : va_G) (K : Nat → ClassId) (h0 h1 h2 h3 h4 h5 h6 h7 h8 h9 h10 : Nat) (p0 : Int32) (sz : Nat) : Met l yX8_against v_X8_against_15 ({ frames := 3, cells := 0, slots := 0, locals := 66 }) (va_Pc [.ref h0, .int 16, .int p0, .int 0, .int 0, .int 0] (wS G K sz [(h0, .inr (0, [.ref h1, .ref h2, .ref h3, .ref h4, .ref h5, .ref h6, .ref h7, .int 0, .int 0, .int 0, .null])), (h1, .inr (1, [.int 1, .ref h8, .int 0, .int (-1), .int 0, .int 0, .int (-1), .ref h9])), (h2, .inr (4, [.ref h10, .int 0]))])) (va_Qi (fun (r : Int32) (u : va_W) => (7 = r ∧ u = [(h0, .inr (0, [.ref h1, .ref h2, .ref h3, .ref h4, .ref h5, .ref h6, .ref h7, .int 0, .int 0, .int 0, .null])), (h1, .inr (1, [.int 1, .ref h8, .int 0, .int (-1), .int 0, .int 0, .int (-1), .ref h9])), (h2, .inr (4, [.ref h10, .int 0]))])) (wB G (va_A [(h0, .inr (0, [.ref h1, .ref h2, .ref h3, .ref h4, .ref h5, .ref h6, .ref h7, .int 0, .int 0, .int 0, .null])), (h1, .inr (1, [.int 1, .ref h8, .int 0, .int (-1), .int 0, .int 0, .int (-1), .ref h9])), (h2, .inr (4, [.ref h10, .int 0]))] sz)) (va_A [(h0, .inr (0, [.ref h1, .ref h2, .ref h3, .ref h4, .ref h5, .ref h6, .ref h7, .int 0, .int 0, .int 0, .null])), (h1, .inr (1, [.int 1, .ref h8, .int 0, .int (-1), .int 0, .int 0, .int (-1), .ref h9])), (h2, .inr (4, [.ref h10, .int 0]))] sz)) 0 0 (va_A [(h0, .inr (0, [.ref h1, .ref h2, .ref h3, .ref h4, .ref h5, .ref h6, .ref h7, .int 0, .int 0, .int 0, .null])), (h1, .inr (1, [.int 1, .ref h8, .int 0, .int (-1), .int 0, .int 0, .int (-1), .ref h9])), (h2, .inr (4, [.ref h10, .int 0]))] sz) := by
  refine Met.ofW (cc := cX8_against) (maxL := 7) (ret := (some .int)) (by decide) rfl ?_
  intro p e s m args below meth c s₁ B hml hv
  obtain ⟨rfl, hsz, hP, hK, hD0, hE⟩ := hv
  have hx := B.exec
  have hb := B.bytes
  have hr := B.returns
  have hts := atoms_spec (ws := v_X8_against_15) B.pre
  have t_ := t_X8_against_15
  have mw : ∀ w ∈ e_X8_against_15, w ∈ v_X8_against_15 := fun w h => List.mem_cons_of_mem _ (List.mem_append_left _ h)
  have hw := fun w (h : w ∈ e_X8_against_15) => hts w (mw w h)
  have j_X8_againstOnMotion_1 : ∀ w ∈ v_X8_againstOnMotion_1, w ∈ v_X8_against_15 := fun w h => List.mem_cons_of_mem _ (List.mem_append_right _ (List.mem_append_left _ h))
  have hown : s.vm.findClass RX8 = some m.cls := findClass_of_methodNamed B.named
  have hlocks := B.notSynchronized
  subst hsz
  have hD := hD0.self (sz := s.heap.size)
  generalize hAe : va_A [(h0, .inr (0, [.ref h1, .ref h2, .ref h3, .ref h4, .ref h5, .ref h6, .ref h7, .int 0, .int 0, .int 0, .null])), (h1, .inr (1, [.int 1, .ref h8, .int 0, .int (-1), .int 0, .int 0, .int (-1), .ref h9])), (h2, .inr (4, [.ref h10, .int 0]))] s.heap.size = A at hD ⊢
  have hA : ∀ q : Nat, s.heap.size ≤ q → A q := fun q h => by rw [← hAe]; exact Or.inr h
  have hS : va_S A s.heap s.heap [] := va_S.rf
  have hP : va_P G vwCl [(h0, .inr (0, [.ref h1, .ref h2, .ref h3, .ref h4, .ref h5, .ref h6, .ref h7, .int 0, .int 0, .int 0, .null])), (h1, .inr (1, [.int 1, .ref h8, .int 0, .int (-1), .int 0, .int 0, .int (-1), .ref h9])), (h2, .inr (4, [.ref h10, .int 0]))] s.heap := hP
  have hl := lv_entry ([.ref h0, .int 16, .int p0, .int 0, .int 0, .int 0]) (n := 7) (Nat.le_of_ble_eq_true rfl)
  rw [lg_entry_eq]
  generalize (lg_sl ([.ref h0, .int 16, .int p0, .int 0, .int 0, .int 0]) ++ List.replicate (7 - (lg_sl ([.ref h0, .int 16, .int p0, .int 0, .int 0, .int 0])).length) Slot.unset).toArray = ls at hl ⊢
  have hl : lv_has ls 7 [(0, .ref h0), (1, .int 16), (2, .int p0), (3, .int 0), (4, .int 0), (5, .int 0)] := hl
  refine lv_iload_n hx hb dX8_against_0 rfl (lv_at hl 1 rfl) ?_
  refine lv_bipush (v := 9) hx hb dX8_against_1 (by decide) ?_
  refine lv_icmp_gt (tgt := 18) hx hb dX8_against_3 (by decide) (fun _ => ?_) (fun c_ => absurd c_ (by decide))
  refine lv_iload_n hx hb dX8_against_18 rfl (lv_at hl 1 rfl) ?_
  refine lv_bipush (v := 14) hx hb dX8_against_19 (by decide) ?_
  refine lv_icmp_gt (tgt := 40) hx hb dX8_against_21 (by decide) (fun _ => ?_) (fun c_ => absurd c_ (by decide))
  refine lv_aload_n hx hb dX8_against_40 rfl (lv_at hl 0 rfl) ?_
  refine lv_iload_n hx hb dX8_against_41 rfl (lv_at hl 1 rfl) ?_
  refine lv_iload_n hx hb dX8_against_42 rfl (lv_at hl 2 rfl) ?_
  refine lv_iload_n hx hb dX8_against_43 rfl (lv_at hl 3 rfl) ?_
  have hPc := hP.sub (ws' := [(h0, .inr (0, [.ref h1, .ref h2, .ref h3, .ref h4, .ref h5, .ref h6, .ref h7, .int 0, .int 0, .int 0, .null])), (h1, .inr (1, [.int 1, .ref h8, .int 0, .int (-1), .int 0, .int 0, .int (-1), .ref h9])), (h2, .inr (4, [.ref h10, .int 0]))]) [0, 1, 2] rfl
  have hDc := hD.sub (ws' := [(h0, .inr (0, [.ref h1, .ref h2, .ref h3, .ref h4, .ref h5, .ref h6, .ref h7, .int 0, .int 0, .int 0, .null])), (h1, .inr (1, [.int 1, .ref h8, .int 0, .int (-1), .int 0, .int 0, .int (-1), .ref h9])), (h2, .inr (4, [.ref h10, .int 0]))]) [0, 1, 2] (by decide) rfl
  refine wGoi (wc := [(h0, .inr (0, [.ref h1, .ref h2, .ref h3, .ref h4, .ref h5, .ref h6, .ref h7, .int 0, .int 0, .int 0, .null])), (h1, .inr (1, [.int 1, .ref h8, .int 0, .int (-1), .int 0, .int 0, .int (-1), .ref h9])), (h2, .inr (4, [.ref h10, .int 0]))]) (wr := []) (va_runS (As := [.ref h0, .int 16, .int p0, .int 0]) (rest := []) ⟨hx, hb, hml, hown, hts⟩ (m_X8_againstOnMotion_1 l G K h0 h1 h2 h3 h4 h5 h6 h7 h8 h9 h10 p0 _) (va_cwS 4 hts (wGS t_ (mw (.methodLink RX8 19 yX8_againstOnMotion) (List.mem_of_getElem? (i := 0) rfl)) (mw (.static yX8_againstOnMotion) (List.mem_of_getElem? (i := 1) rfl)) (mw (.initialized RX8) (List.mem_of_getElem? (i := 2) rfl)) j_X8_againstOnMotion_1) rfl rfl rfl (by decide +kernel) ⟨Nat.le_of_ble_eq_true rfl, Nat.le_of_ble_eq_true rfl⟩) (wPS hK hE hPc hDc) rfl rfl hl.1 rfl (lv_room (Nat.le_of_ble_eq_true rfl)) dX8_against_44 ⟨Nat.le_of_ble_eq_true rfl, Nat.le_of_ble_eq_true rfl⟩) hP hD hS hA [0, 1, 2] [] rfl rfl rfl (by decide) (fun r u H locs hw hP hD hS => ?_)
  rcases hw with ⟨rfl, rfl⟩
  have hP : va_P G vwCl [(h0, .inr (0, [.ref h1, .ref h2, .ref h3, .ref h4, .ref h5, .ref h6, .ref h7, .int 0, .int 0, .int 0, .null])), (h1, .inr (1, [.int 1, .ref h8, .int 0, .int (-1), .int 0, .int 0, .int (-1), .ref h9])), (h2, .inr (4, [.ref h10, .int 0]))] _ := hP
  have hD : va_D A [(h0, .inr (0, [.ref h1, .ref h2, .ref h3, .ref h4, .ref h5, .ref h6, .ref h7, .int 0, .int 0, .int 0, .null])), (h1, .inr (1, [.int 1, .ref h8, .int 0, .int (-1), .int 0, .int 0, .int (-1), .ref h9])), (h2, .inr (4, [.ref h10, .int 0]))] := hD
  refine lv_istore (lv' := [(6, .int 7), (0, .ref h0), (1, .int 16), (2, .int p0), (3, .int 0), (4, .int 0), (5, .int 0)]) hx hb dX8_against_47 hl (by decide) rfl (fun ls hl => ?_)
  refine lv_iload hx hb dX8_against_49 (lv_at hl 0 rfl) ?_
  refine lv_if_ne (tgt := 69) hx hb dX8_against_51 (by decide) (fun _ => ?_) (fun c_ => absurd c_ (by decide))
  refine lv_iload hx hb dX8_against_69 (lv_at hl 0 rfl) ?_
  have hP9 : va_P G vwCl [(h0, .inr (0, [.ref h1, .ref h2, .ref h3, .ref h4, .ref h5, .ref h6, .ref h7, .int 0, .int 0, .int 0, .null])), (h1, .inr (1, [.int 1, .ref h8, .int 0, .int (-1), .int 0, .int 0, .int (-1), .ref h9])), (h2, .inr (4, [.ref h10, .int 0]))] _ := hP
  have hD9 : va_D A [(h0, .inr (0, [.ref h1, .ref h2, .ref h3, .ref h4, .ref h5, .ref h6, .ref h7, .int 0, .int 0, .int 0, .null])), (h1, .inr (1, [.int 1, .ref h8, .int 0, .int (-1), .int 0, .int 0, .int (-1), .ref h9])), (h2, .inr (4, [.ref h10, .int 0]))] := hD
  exact W.iret (v := 7) hx hb hr (fun t ht hW => ⟨⟨7, _, rfl, ⟨rfl, rfl⟩, by rw [ht]; exact hP9, hD9⟩, hS.F ht⟩) hS.2.2 dX8_against_71
def e_X0_enact_15 : List Cond := [.methodLink RX0 155 yX8_against, .static yX8_against, .initialized RX8, .fieldLink RX0 73 "MotionFloor$Assembly" "reason" "I"]
def v_X0_enact_15 : List Cond := .code yX0_enact cX0_enact 7 (some .int) :: (e_X0_enact_15 ++ (wsX00 ++ (v_X8_against_15 ++ [])))
theorem te_X0_enact_15 : GoodIn lw_tbl e_X0_enact_15 := wGc z345 (wGc z344 (wGc z297 (wGc z263 (wG0))))
theorem t_X0_enact_15 : GoodIn lw_tbl v_X0_enact_15 := wGc z346 (wGa te_X0_enact_15 (wGa zcX0 (wGa t_X8_against_15 (wG0))))
set_option maxHeartbeats 4000000 in
set_option maxRecDepth 100000 in
theorem m_X0_enact_15 (l : Launch) (G : va_G) (K : Nat → ClassId) (h0 h1 h2 h3 h4 h5 h6 h7 h8 h9 h10 : Nat) (p0 : Int32) (sz : Nat) : Met l yX0_enact v_X0_enact_15 ({ frames := 4, cells := 0, slots := 0, locals := 92 }) (va_Pc [.ref h0, .int 16, .int p0, .int 0, .int 0, .int 0] (wS G K sz [(h0, .inr (0, [.ref h1, .ref h2, .ref h3, .ref h4, .ref h5, .ref h6, .ref h7, .int 0, .int 0, .int 0, .null])), (h1, .inr (1, [.int 1, .ref h8, .int 0, .int (-1), .int 0, .int 0, .int (-1), .ref h9])), (h2, .inr (4, [.ref h10, .int 0]))])) (va_Qi (fun (r : Int32) (u : va_W) => ((-7) = r ∧ u = [(h0, .inr (0, [.ref h1, .ref h2, .ref h3, .ref h4, .ref h5, .ref h6, .ref h7, .int 0, .int 0, .int 7, .null])), (h1, .inr (1, [.int 1, .ref h8, .int 0, .int (-1), .int 0, .int 0, .int (-1), .ref h9])), (h2, .inr (4, [.ref h10, .int 0]))])) (wB G (va_A [(h0, .inr (0, [.ref h1, .ref h2, .ref h3, .ref h4, .ref h5, .ref h6, .ref h7, .int 0, .int 0, .int 0, .null])), (h1, .inr (1, [.int 1, .ref h8, .int 0, .int (-1), .int 0, .int 0, .int (-1), .ref h9])), (h2, .inr (4, [.ref h10, .int 0]))] sz)) (va_A [(h0, .inr (0, [.ref h1, .ref h2, .ref h3, .ref h4, .ref h5, .ref h6, .ref h7, .int 0, .int 0, .int 0, .null])), (h1, .inr (1, [.int 1, .ref h8, .int 0, .int (-1), .int 0, .int 0, .int (-1), .ref h9])), (h2, .inr (4, [.ref h10, .int 0]))] sz)) 0 0 (va_A [(h0, .inr (0, [.ref h1, .ref h2, .ref h3, .ref h4, .ref h5, .ref h6, .ref h7, .int 0, .int 0, .int 0, .null])), (h1, .inr (1, [.int 1, .ref h8, .int 0, .int (-1), .int 0, .int 0, .int (-1), .ref h9])), (h2, .inr (4, [.ref h10, .int 0]))] sz) := by
  refine Met.ofW (cc := cX0_enact) (maxL := 7) (ret := (some .int)) (by decide) rfl ?_
  intro p e s m args below meth c s₁ B hml hv
  obtain ⟨rfl, hsz, hP, hK, hD0, hE⟩ := hv
  have hx := B.exec
  have hb := B.bytes
  have hr := B.returns
  have hts := atoms_spec (ws := v_X0_enact_15) B.pre
  have t_ := t_X0_enact_15
  have mw : ∀ w ∈ e_X0_enact_15, w ∈ v_X0_enact_15 := fun w h => List.mem_cons_of_mem _ (List.mem_append_left _ h)
  have hw := fun w (h : w ∈ e_X0_enact_15) => hts w (mw w h)
  have iX0 : ∀ w ∈ wsX00, w ∈ v_X0_enact_15 := fun w h => List.mem_cons_of_mem _ (List.mem_append_right _ (List.mem_append_left _ h))
  have j_X8_against_15 : ∀ w ∈ v_X8_against_15, w ∈ v_X0_enact_15 := fun w h => List.mem_cons_of_mem _ (List.mem_append_right _ (List.mem_append_right _ (List.mem_append_left _ h)))
  have hown : s.vm.findClass RX0 = some m.cls := findClass_of_methodNamed B.named
  have hlocks := B.notSynchronized
  subst hsz
  have hD := hD0.self (sz := s.heap.size)
  generalize hAe : va_A [(h0, .inr (0, [.ref h1, .ref h2, .ref h3, .ref h4, .ref h5, .ref h6, .ref h7, .int 0, .int 0, .int 0, .null])), (h1, .inr (1, [.int 1, .ref h8, .int 0, .int (-1), .int 0, .int 0, .int (-1), .ref h9])), (h2, .inr (4, [.ref h10, .int 0]))] s.heap.size = A at hD ⊢
  have hA : ∀ q : Nat, s.heap.size ≤ q → A q := fun q h => by rw [← hAe]; exact Or.inr h
  have hS : va_S A s.heap s.heap [] := va_S.rf
  have hP : va_P G vwCl [(h0, .inr (0, [.ref h1, .ref h2, .ref h3, .ref h4, .ref h5, .ref h6, .ref h7, .int 0, .int 0, .int 0, .null])), (h1, .inr (1, [.int 1, .ref h8, .int 0, .int (-1), .int 0, .int 0, .int (-1), .ref h9])), (h2, .inr (4, [.ref h10, .int 0]))] s.heap := hP
  have hl := lv_entry ([.ref h0, .int 16, .int p0, .int 0, .int 0, .int 0]) (n := 7) (Nat.le_of_ble_eq_true rfl)
  rw [lg_entry_eq]
  generalize (lg_sl ([.ref h0, .int 16, .int p0, .int 0, .int 0, .int 0]) ++ List.replicate (7 - (lg_sl ([.ref h0, .int 16, .int p0, .int 0, .int 0, .int 0])).length) Slot.unset).toArray = ls at hl ⊢
  have hl : lv_has ls 7 [(0, .ref h0), (1, .int 16), (2, .int p0), (3, .int 0), (4, .int 0), (5, .int 0)] := hl
  refine lv_aload_n hx hb dX0_enact_0 rfl (lv_at hl 0 rfl) ?_
  refine lv_aload_n hx hb dX0_enact_1 rfl (lv_at hl 0 rfl) ?_
  refine lv_iload_n hx hb dX0_enact_2 rfl (lv_at hl 1 rfl) ?_
  refine lv_iload_n hx hb dX0_enact_3 rfl (lv_at hl 2 rfl) ?_
  refine lv_iload_n hx hb dX0_enact_4 rfl (lv_at hl 3 rfl) ?_
  refine lv_iload hx hb dX0_enact_5 (lv_at hl 4 rfl) ?_
  refine lv_iload hx hb dX0_enact_7 (lv_at hl 5 rfl) ?_
  have hPc := hP.sub (ws' := [(h0, .inr (0, [.ref h1, .ref h2, .ref h3, .ref h4, .ref h5, .ref h6, .ref h7, .int 0, .int 0, .int 0, .null])), (h1, .inr (1, [.int 1, .ref h8, .int 0, .int (-1), .int 0, .int 0, .int (-1), .ref h9])), (h2, .inr (4, [.ref h10, .int 0]))]) [0, 1, 2] rfl
  have hDc := hD.sub (ws' := [(h0, .inr (0, [.ref h1, .ref h2, .ref h3, .ref h4, .ref h5, .ref h6, .ref h7, .int 0, .int 0, .int 0, .null])), (h1, .inr (1, [.int 1, .ref h8, .int 0, .int (-1), .int 0, .int 0, .int (-1), .ref h9])), (h2, .inr (4, [.ref h10, .int 0]))]) [0, 1, 2] (by decide) rfl
  refine wGoi (wc := [(h0, .inr (0, [.ref h1, .ref h2, .ref h3, .ref h4, .ref h5, .ref h6, .ref h7, .int 0, .int 0, .int 0, .null])), (h1, .inr (1, [.int 1, .ref h8, .int 0, .int (-1), .int 0, .int 0, .int (-1), .ref h9])), (h2, .inr (4, [.ref h10, .int 0]))]) (wr := []) (va_runS (As := [.ref h0, .int 16, .int p0, .int 0, .int 0, .int 0]) (rest := [.ref h0]) ⟨hx, hb, hml, hown, hts⟩ (m_X8_against_15 l G K h0 h1 h2 h3 h4 h5 h6 h7 h8 h9 h10 p0 _) (va_cwS 6 hts (wGS t_ (mw (.methodLink RX0 155 yX8_against) (List.mem_of_getElem? (i := 0) rfl)) (mw (.static yX8_against) (List.mem_of_getElem? (i := 1) rfl)) (mw (.initialized RX8) (List.mem_of_getElem? (i := 2) rfl)) j_X8_against_15) rfl rfl rfl (by decide +kernel) ⟨Nat.le_of_ble_eq_true rfl, Nat.le_of_ble_eq_true rfl⟩) (wPS hK hE hPc hDc) rfl rfl hl.1 rfl (lv_room (Nat.le_of_ble_eq_true rfl)) dX0_enact_9 ⟨Nat.le_of_ble_eq_true rfl, Nat.le_of_ble_eq_true rfl⟩) hP hD hS hA [0, 1, 2] [] rfl rfl rfl (by decide) (fun r u H locs hw hP hD hS => ?_)
  rcases hw with ⟨rfl, rfl⟩
  have hP : va_P G vwCl [(h0, .inr (0, [.ref h1, .ref h2, .ref h3, .ref h4, .ref h5, .ref h6, .ref h7, .int 0, .int 0, .int 0, .null])), (h1, .inr (1, [.int 1, .ref h8, .int 0, .int (-1), .int 0, .int 0, .int (-1), .ref h9])), (h2, .inr (4, [.ref h10, .int 0]))] _ := hP
  have hD : va_D A [(h0, .inr (0, [.ref h1, .ref h2, .ref h3, .ref h4, .ref h5, .ref h6, .ref h7, .int 0, .int 0, .int 0, .null])), (h1, .inr (1, [.int 1, .ref h8, .int 0, .int (-1), .int 0, .int 0, .int (-1), .ref h9])), (h2, .inr (4, [.ref h10, .int 0]))] := hD
  refine va_put (D := G) (ci := 0) (v := .int 7) (ty := .int) (C := RX0) (T := TX0) (N := 11) hx hb hts iX0 tyX0 tyX0_ok nmX0 hown hK hP hD hS 0 rfl rfl 9 (by decide) (hw (.fieldLink RX0 73 "MotionFloor$Assembly" "reason" "I") (List.mem_of_getElem? (i := 3) rfl)) (fun _ h9 => h9) rfl (by decide +kernel) rfl rfl (Nat.le_of_ble_eq_true rfl) dX0_enact_12 (fun H locs hP hD hS => ?_)
  have hP : va_P G vwCl [(h0, .inr (0, [.ref h1, .ref h2, .ref h3, .ref h4, .ref h5, .ref h6, .ref h7, .int 0, .int 0, .int 7, .null])), (h1, .inr (1, [.int 1, .ref h8, .int 0, .int (-1), .int 0, .int 0, .int (-1), .ref h9])), (h2, .inr (4, [.ref h10, .int 0]))] _ := hP
  have hD : va_D A [(h0, .inr (0, [.ref h1, .ref h2, .ref h3, .ref h4, .ref h5, .ref h6, .ref h7, .int 0, .int 0, .int 7, .null])), (h1, .inr (1, [.int 1, .ref h8, .int 0, .int (-1), .int 0, .int 0, .int (-1), .ref h9])), (h2, .inr (4, [.ref h10, .int 0]))] := hD
  refine lv_aload_n hx hb dX0_enact_15 rfl (lv_at hl 0 rfl) ?_
  refine va_get (D := G) (ci := 0) (v := .int 7) (C := RX0) (T := TX0) (N := 11) hx hb hts iX0 hown hK hP 0 rfl rfl 9 (by decide) (hw (.fieldLink RX0 73 "MotionFloor$Assembly" "reason" "I") (List.mem_of_getElem? (i := 3) rfl)) (fun _ h9 => h9) rfl dX0_enact_16 ?_
  refine lv_if_eq (tgt := 28) hx hb dX0_enact_19 (by decide) (fun c_ => absurd c_ (by decide)) (fun _ => ?_)
  refine lv_aload_n hx hb dX0_enact_22 rfl (lv_at hl 0 rfl) ?_
  refine va_get (D := G) (ci := 0) (v := .int 7) (C := RX0) (T := TX0) (N := 11) hx hb hts iX0 hown hK hP 0 rfl rfl 9 (by decide) (hw (.fieldLink RX0 73 "MotionFloor$Assembly" "reason" "I") (List.mem_of_getElem? (i := 3) rfl)) (fun _ h9 => h9) rfl dX0_enact_23 ?_
  refine lv_ineg hx hb dX0_enact_26 ?_
  refine wTop (v1 := .int (-7)) (congrArg Value.int (by decide)) ?_
  have hP9 : va_P G vwCl [(h0, .inr (0, [.ref h1, .ref h2, .ref h3, .ref h4, .ref h5, .ref h6, .ref h7, .int 0, .int 0, .int 7, .null])), (h1, .inr (1, [.int 1, .ref h8, .int 0, .int (-1), .int 0, .int 0, .int (-1), .ref h9])), (h2, .inr (4, [.ref h10, .int 0]))] _ := hP
  have hD9 : va_D A [(h0, .inr (0, [.ref h1, .ref h2, .ref h3, .ref h4, .ref h5, .ref h6, .ref h7, .int 0, .int 0, .int 7, .null])), (h1, .inr (1, [.int 1, .ref h8, .int 0, .int (-1), .int 0, .int 0, .int (-1), .ref h9])), (h2, .inr (4, [.ref h10, .int 0]))] := hD
  exact W.iret (v := (-7)) hx hb hr (fun t ht hW => ⟨⟨(-7), _, rfl, ⟨rfl, rfl⟩, by rw [ht]; exact hP9, hD9⟩, hS.F ht⟩) hS.2.2 dX0_enact_27
def e_X10_second_0 : List Cond := [.fieldLink RX10 10 "MotionFloor" "now" "LMotionFloor$Assembly;", .methodLink RX10 32 yX0_enact, .instanceMethod yX0_enact, .selects RX0 yX0_enact yX0_enact, .initialized RX0]
def v_X10_second_0 : List Cond := .code yX10_second cX10_second 2 (some .int) :: (e_X10_second_0 ++ (wsX100 ++ (v_X0_enact_15 ++ [])))
theorem te_X10_second_0 : GoodIn lw_tbl e_X10_second_0 := wGc z115 (wGc z349 (wGc z348 (wGc z347 (wGc z118 (wG0)))))
theorem t_X10_second_0 : GoodIn lw_tbl v_X10_second_0 := wGc z623 (wGa te_X10_second_0 (wGa zcX10 (wGa t_X0_enact_15 (wG0))))
set_option maxHeartbeats 4000000 in
set_option maxRecDepth 100000 in
theorem m_X10_second_0 (l : Launch) (G : va_G) (K : Nat → ClassId) (h0 h1 h2 h3 h4 h5 h6 h7 h8 h9 h10 h11 h12 h13 : Nat) (p0 : Int32) (sz : Nat) : Met l yX10_second v_X10_second_0 ({ frames := 5, cells := 0, slots := 0, locals := 118 }) (va_Pc [.ref h0, .int p0] (wS G K sz [(h0, .inr (7, [.ref h1, .ref h4, .null, .null, .ref h5])), (h1, .inr (0, [.ref h2, .ref h3, .ref h6, .ref h7, .ref h8, .ref h9, .ref h10, .int 0, .int 0, .int 0, .null])), (h2, .inr (1, [.int 1, .ref h11, .int 0, .int (-1), .int 0, .int 0, .int (-1), .ref h12])), (h3, .inr (4, [.ref h13, .int 0]))])) (va_Qi (fun (r : Int32) (u : va_W) => ((-7) = r ∧ u = [(h0, .inr (7, [.ref h1, .ref h4, .null, .null, .ref h5])), (h1, .inr (0, [.ref h2, .ref h3, .ref h6, .ref h7, .ref h8, .ref h9, .ref h10, .int 0, .int 0, .int 7, .null])), (h2, .inr (1, [.int 1, .ref h11, .int 0, .int (-1), .int 0, .int 0, .int (-1), .ref h12])), (h3, .inr (4, [.ref h13, .int 0]))])) (wB G (va_A [(h0, .inr (7, [.ref h1, .ref h4, .null, .null, .ref h5])), (h1, .inr (0, [.ref h2, .ref h3, .ref h6, .ref h7, .ref h8, .ref h9, .ref h10, .int 0, .int 0, .int 0, .null])), (h2, .inr (1, [.int 1, .ref h11, .int 0, .int (-1), .int 0, .int 0, .int (-1), .ref h12])), (h3, .inr (4, [.ref h13, .int 0]))] sz)) (va_A [(h0, .inr (7, [.ref h1, .ref h4, .null, .null, .ref h5])), (h1, .inr (0, [.ref h2, .ref h3, .ref h6, .ref h7, .ref h8, .ref h9, .ref h10, .int 0, .int 0, .int 0, .null])), (h2, .inr (1, [.int 1, .ref h11, .int 0, .int (-1), .int 0, .int 0, .int (-1), .ref h12])), (h3, .inr (4, [.ref h13, .int 0]))] sz)) 0 0 (va_A [(h0, .inr (7, [.ref h1, .ref h4, .null, .null, .ref h5])), (h1, .inr (0, [.ref h2, .ref h3, .ref h6, .ref h7, .ref h8, .ref h9, .ref h10, .int 0, .int 0, .int 0, .null])), (h2, .inr (1, [.int 1, .ref h11, .int 0, .int (-1), .int 0, .int 0, .int (-1), .ref h12])), (h3, .inr (4, [.ref h13, .int 0]))] sz) := by
  refine Met.ofW (cc := cX10_second) (maxL := 2) (ret := (some .int)) (by decide) rfl ?_
  intro p e s m args below meth c s₁ B hml hv
  obtain ⟨rfl, hsz, hP, hK, hD0, hE⟩ := hv
  have hx := B.exec
  have hb := B.bytes
  have hr := B.returns
  have hts := atoms_spec (ws := v_X10_second_0) B.pre
  have t_ := t_X10_second_0
  have mw : ∀ w ∈ e_X10_second_0, w ∈ v_X10_second_0 := fun w h => List.mem_cons_of_mem _ (List.mem_append_left _ h)
  have hw := fun w (h : w ∈ e_X10_second_0) => hts w (mw w h)
  have iX10 : ∀ w ∈ wsX100, w ∈ v_X10_second_0 := fun w h => List.mem_cons_of_mem _ (List.mem_append_right _ (List.mem_append_left _ h))
  have j_X0_enact_15 : ∀ w ∈ v_X0_enact_15, w ∈ v_X10_second_0 := fun w h => List.mem_cons_of_mem _ (List.mem_append_right _ (List.mem_append_right _ (List.mem_append_left _ h)))
  have hown : s.vm.findClass RX10 = some m.cls := findClass_of_methodNamed B.named
  have hlocks := B.notSynchronized
  subst hsz
  have hD := hD0.self (sz := s.heap.size)
  generalize hAe : va_A [(h0, .inr (7, [.ref h1, .ref h4, .null, .null, .ref h5])), (h1, .inr (0, [.ref h2, .ref h3, .ref h6, .ref h7, .ref h8, .ref h9, .ref h10, .int 0, .int 0, .int 0, .null])), (h2, .inr (1, [.int 1, .ref h11, .int 0, .int (-1), .int 0, .int 0, .int (-1), .ref h12])), (h3, .inr (4, [.ref h13, .int 0]))] s.heap.size = A at hD ⊢
  have hA : ∀ q : Nat, s.heap.size ≤ q → A q := fun q h => by rw [← hAe]; exact Or.inr h
  have hS : va_S A s.heap s.heap [] := va_S.rf
  have hP : va_P G vwCl [(h0, .inr (7, [.ref h1, .ref h4, .null, .null, .ref h5])), (h1, .inr (0, [.ref h2, .ref h3, .ref h6, .ref h7, .ref h8, .ref h9, .ref h10, .int 0, .int 0, .int 0, .null])), (h2, .inr (1, [.int 1, .ref h11, .int 0, .int (-1), .int 0, .int 0, .int (-1), .ref h12])), (h3, .inr (4, [.ref h13, .int 0]))] s.heap := hP
  have hl := lv_entry ([.ref h0, .int p0]) (n := 2) (Nat.le_of_ble_eq_true rfl)
  rw [lg_entry_eq]
  generalize (lg_sl ([.ref h0, .int p0]) ++ List.replicate (2 - (lg_sl ([.ref h0, .int p0])).length) Slot.unset).toArray = ls at hl ⊢
  have hl : lv_has ls 2 [(0, .ref h0), (1, .int p0)] := hl
  refine lv_aload_n hx hb dX10_second_0 rfl (lv_at hl 0 rfl) ?_
  refine va_get (D := G) (ci := 7) (v := .ref h1) (C := RX10) (T := TX10) (N := 5) hx hb hts iX10 hown hK hP 0 rfl rfl 0 (by decide) (hw (.fieldLink RX10 10 "MotionFloor" "now" "LMotionFloor$Assembly;") (List.mem_of_getElem? (i := 0) rfl)) (fun _ h9 => h9) rfl dX10_second_1 ?_
  refine lv_bipush (v := 16) hx hb dX10_second_4 (by decide) ?_
  refine lv_iload_n hx hb dX10_second_6 rfl (lv_at hl 1 rfl) ?_
  refine lv_iconst (v := 0) hx hb dX10_second_7 (by decide) ?_
  refine lv_iconst (v := 0) hx hb dX10_second_8 (by decide) ?_
  refine lv_iconst (v := 0) hx hb dX10_second_9 (by decide) ?_
  have hPc := hP.sub (ws' := [(h1, .inr (0, [.ref h2, .ref h3, .ref h6, .ref h7, .ref h8, .ref h9, .ref h10, .int 0, .int 0, .int 0, .null])), (h2, .inr (1, [.int 1, .ref h11, .int 0, .int (-1), .int 0, .int 0, .int (-1), .ref h12])), (h3, .inr (4, [.ref h13, .int 0]))]) [1, 2, 3] rfl
  have hDc := hD.sub (ws' := [(h1, .inr (0, [.ref h2, .ref h3, .ref h6, .ref h7, .ref h8, .ref h9, .ref h10, .int 0, .int 0, .int 0, .null])), (h2, .inr (1, [.int 1, .ref h11, .int 0, .int (-1), .int 0, .int 0, .int (-1), .ref h12])), (h3, .inr (4, [.ref h13, .int 0]))]) [1, 2, 3] (by decide) rfl
  refine wGoi (wc := [(h1, .inr (0, [.ref h2, .ref h3, .ref h6, .ref h7, .ref h8, .ref h9, .ref h10, .int 0, .int 0, .int 0, .null])), (h2, .inr (1, [.int 1, .ref h11, .int 0, .int (-1), .int 0, .int 0, .int (-1), .ref h12])), (h3, .inr (4, [.ref h13, .int 0]))]) (wr := [(h0, .inr (7, [.ref h1, .ref h4, .null, .null, .ref h5]))]) (va_runV (As := [.int 16, .int p0, .int 0, .int 0, .int 0]) (rest := []) ⟨hx, hb, hml, hown, hts⟩ (m_X0_enact_15 l G K h1 h2 h3 h6 h7 h8 h9 h10 h11 h12 h13 p0 _) (cwV 5 hts (wGV t_ (mw (.methodLink RX10 32 yX0_enact) (List.mem_of_getElem? (i := 1) rfl)) (mw (.instanceMethod yX0_enact) (List.mem_of_getElem? (i := 2) rfl)) (mw (.selects RX0 yX0_enact yX0_enact) (List.mem_of_getElem? (i := 3) rfl)) (mw (.initialized RX0) (List.mem_of_getElem? (i := 4) rfl)) j_X0_enact_15) rfl rfl rfl (by decide +kernel) ⟨Nat.le_of_ble_eq_true rfl, Nat.le_of_ble_eq_true rfl⟩) (wPV hK hE hPc hDc 0 0 rfl rfl) rfl rfl hl.1 rfl (lv_room (Nat.le_of_ble_eq_true rfl)) dX10_second_10 ⟨Nat.le_of_ble_eq_true rfl, Nat.le_of_ble_eq_true rfl⟩) hP hD hS hA [1, 2, 3] [0] rfl rfl rfl (by decide) (fun r u H locs hw hP hD hS => ?_)
  rcases hw with ⟨rfl, rfl⟩
  have hP : va_P G vwCl [(h0, .inr (7, [.ref h1, .ref h4, .null, .null, .ref h5])), (h1, .inr (0, [.ref h2, .ref h3, .ref h6, .ref h7, .ref h8, .ref h9, .ref h10, .int 0, .int 0, .int 7, .null])), (h2, .inr (1, [.int 1, .ref h11, .int 0, .int (-1), .int 0, .int 0, .int (-1), .ref h12])), (h3, .inr (4, [.ref h13, .int 0]))] _ := hP
  have hD : va_D A [(h0, .inr (7, [.ref h1, .ref h4, .null, .null, .ref h5])), (h1, .inr (0, [.ref h2, .ref h3, .ref h6, .ref h7, .ref h8, .ref h9, .ref h10, .int 0, .int 0, .int 7, .null])), (h2, .inr (1, [.int 1, .ref h11, .int 0, .int (-1), .int 0, .int 0, .int (-1), .ref h12])), (h3, .inr (4, [.ref h13, .int 0]))] := hD
  have hP9 : va_P G vwCl [(h0, .inr (7, [.ref h1, .ref h4, .null, .null, .ref h5])), (h1, .inr (0, [.ref h2, .ref h3, .ref h6, .ref h7, .ref h8, .ref h9, .ref h10, .int 0, .int 0, .int 7, .null])), (h2, .inr (1, [.int 1, .ref h11, .int 0, .int (-1), .int 0, .int 0, .int (-1), .ref h12])), (h3, .inr (4, [.ref h13, .int 0]))] _ := hP
  have hD9 : va_D A [(h0, .inr (7, [.ref h1, .ref h4, .null, .null, .ref h5])), (h1, .inr (0, [.ref h2, .ref h3, .ref h6, .ref h7, .ref h8, .ref h9, .ref h10, .int 0, .int 0, .int 7, .null])), (h2, .inr (1, [.int 1, .ref h11, .int 0, .int (-1), .int 0, .int 0, .int (-1), .ref h12])), (h3, .inr (4, [.ref h13, .int 0]))] := hD
  exact W.iret (v := (-7)) hx hb hr (fun t ht hW => ⟨⟨(-7), _, rfl, ⟨rfl, rfl⟩, by rw [ht]; exact hP9, hD9⟩, hS.F ht⟩) hS.2.2 dX10_second_13
def e_X11_reason_25 : List Cond := [.fieldLink RX11 115 "MotionFloorModel$Hall" "pending" "I"]
def v_X11_reason_25 : List Cond := .code yX11_reason cX11_reason 6 (some .int) :: (e_X11_reason_25 ++ (wsX110 ++ []))
theorem te_X11_reason_25 : GoodIn lw_tbl e_X11_reason_25 := wGc z202 (wG0)
theorem t_X11_reason_25 : GoodIn lw_tbl v_X11_reason_25 := wGc z355 (wGa te_X11_reason_25 (wGa zcX11 (wG0)))
set_option maxHeartbeats 4000000 in
set_option maxRecDepth 100000 in
theorem m_X11_reason_25 (l : Launch) (G : va_G) (K : Nat → ClassId) (h0 h1 h2 h3 h4 h5 h6 h7 h8 h9 h10 h11 h12 h13 h14 h15 h16 h17 h18 h19 h20 h21 h22 h23 h24 h25 h26 h27 : Nat) (p0 : Int32) (sz : Nat) : Met l yX11_reason v_X11_reason_25 ({ frames := 0, cells := 0, slots := 0, locals := 0 }) (va_Pc [.ref h0, .int 16, .int p0, .int 0, .int 0, .int 0] (wS G K sz [(h0, .inr (8, [.int 1, .int 0, .int (-1), .int 0, .int 0, .int (-1), .int 0, .int 0, .int 0, .int 0, .int 0, .ref h1, .ref h2, .ref h3, .ref h4, .ref h5, .ref h6, .ref h7, .ref h8, .ref h9, .ref h10, .ref h11, .ref h12, .ref h13, .ref h14, .ref h15, .ref h16, .ref h17, .ref h18, .ref h19, .int 0, .ref h20, .ref h21, .ref h22, .ref h23, .int 0, .int 0, .ref h24, .ref h25, .int (-1), .ref h26, .ref h27]))])) (va_Qi (fun (r : Int32) (u : va_W) => (7 = r ∧ u = [(h0, .inr (8, [.int 1, .int 0, .int (-1), .int 0, .int 0, .int (-1), .int 0, .int 0, .int 0, .int 0, .int 0, .ref h1, .ref h2, .ref h3, .ref h4, .ref h5, .ref h6, .ref h7, .ref h8, .ref h9, .ref h10, .ref h11, .ref h12, .ref h13, .ref h14, .ref h15, .ref h16, .ref h17, .ref h18, .ref h19, .int 0, .ref h20, .ref h21, .ref h22, .ref h23, .int 0, .int 0, .ref h24, .ref h25, .int (-1), .ref h26, .ref h27]))])) (wB G (va_A [(h0, .inr (8, [.int 1, .int 0, .int (-1), .int 0, .int 0, .int (-1), .int 0, .int 0, .int 0, .int 0, .int 0, .ref h1, .ref h2, .ref h3, .ref h4, .ref h5, .ref h6, .ref h7, .ref h8, .ref h9, .ref h10, .ref h11, .ref h12, .ref h13, .ref h14, .ref h15, .ref h16, .ref h17, .ref h18, .ref h19, .int 0, .ref h20, .ref h21, .ref h22, .ref h23, .int 0, .int 0, .ref h24, .ref h25, .int (-1), .ref h26, .ref h27]))] sz)) (va_A [(h0, .inr (8, [.int 1, .int 0, .int (-1), .int 0, .int 0, .int (-1), .int 0, .int 0, .int 0, .int 0, .int 0, .ref h1, .ref h2, .ref h3, .ref h4, .ref h5, .ref h6, .ref h7, .ref h8, .ref h9, .ref h10, .ref h11, .ref h12, .ref h13, .ref h14, .ref h15, .ref h16, .ref h17, .ref h18, .ref h19, .int 0, .ref h20, .ref h21, .ref h22, .ref h23, .int 0, .int 0, .ref h24, .ref h25, .int (-1), .ref h26, .ref h27]))] sz)) 0 0 (va_A [(h0, .inr (8, [.int 1, .int 0, .int (-1), .int 0, .int 0, .int (-1), .int 0, .int 0, .int 0, .int 0, .int 0, .ref h1, .ref h2, .ref h3, .ref h4, .ref h5, .ref h6, .ref h7, .ref h8, .ref h9, .ref h10, .ref h11, .ref h12, .ref h13, .ref h14, .ref h15, .ref h16, .ref h17, .ref h18, .ref h19, .int 0, .ref h20, .ref h21, .ref h22, .ref h23, .int 0, .int 0, .ref h24, .ref h25, .int (-1), .ref h26, .ref h27]))] sz) := by
  refine Met.ofW (cc := cX11_reason) (maxL := 6) (ret := (some .int)) (by decide) rfl ?_
  intro p e s m args below meth c s₁ B hml hv
  obtain ⟨rfl, hsz, hP, hK, hD0, hE⟩ := hv
  have hx := B.exec
  have hb := B.bytes
  have hr := B.returns
  have hts := atoms_spec (ws := v_X11_reason_25) B.pre
  have t_ := t_X11_reason_25
  have mw : ∀ w ∈ e_X11_reason_25, w ∈ v_X11_reason_25 := fun w h => List.mem_cons_of_mem _ (List.mem_append_left _ h)
  have hw := fun w (h : w ∈ e_X11_reason_25) => hts w (mw w h)
  have iX11 : ∀ w ∈ wsX110, w ∈ v_X11_reason_25 := fun w h => List.mem_cons_of_mem _ (List.mem_append_right _ (List.mem_append_left _ h))
  have hown : s.vm.findClass RX11 = some m.cls := findClass_of_methodNamed B.named
  have hlocks := B.notSynchronized
  subst hsz
  have hD := hD0.self (sz := s.heap.size)
  generalize hAe : va_A [(h0, .inr (8, [.int 1, .int 0, .int (-1), .int 0, .int 0, .int (-1), .int 0, .int 0, .int 0, .int 0, .int 0, .ref h1, .ref h2, .ref h3, .ref h4, .ref h5, .ref h6, .ref h7, .ref h8, .ref h9, .ref h10, .ref h11, .ref h12, .ref h13, .ref h14, .ref h15, .ref h16, .ref h17, .ref h18, .ref h19, .int 0, .ref h20, .ref h21, .ref h22, .ref h23, .int 0, .int 0, .ref h24, .ref h25, .int (-1), .ref h26, .ref h27]))] s.heap.size = A at hD ⊢
  have hA : ∀ q : Nat, s.heap.size ≤ q → A q := fun q h => by rw [← hAe]; exact Or.inr h
  have hS : va_S A s.heap s.heap [] := va_S.rf
  have hP : va_P G vwCl [(h0, .inr (8, [.int 1, .int 0, .int (-1), .int 0, .int 0, .int (-1), .int 0, .int 0, .int 0, .int 0, .int 0, .ref h1, .ref h2, .ref h3, .ref h4, .ref h5, .ref h6, .ref h7, .ref h8, .ref h9, .ref h10, .ref h11, .ref h12, .ref h13, .ref h14, .ref h15, .ref h16, .ref h17, .ref h18, .ref h19, .int 0, .ref h20, .ref h21, .ref h22, .ref h23, .int 0, .int 0, .ref h24, .ref h25, .int (-1), .ref h26, .ref h27]))] s.heap := hP
  have hl := lv_entry ([.ref h0, .int 16, .int p0, .int 0, .int 0, .int 0]) (n := 6) (Nat.le_of_ble_eq_true rfl)
  rw [lg_entry_eq]
  generalize (lg_sl ([.ref h0, .int 16, .int p0, .int 0, .int 0, .int 0]) ++ List.replicate (6 - (lg_sl ([.ref h0, .int 16, .int p0, .int 0, .int 0, .int 0])).length) Slot.unset).toArray = ls at hl ⊢
  have hl : lv_has ls 6 [(0, .ref h0), (1, .int 16), (2, .int p0), (3, .int 0), (4, .int 0), (5, .int 0)] := hl
  refine lv_iload_n hx hb dX11_reason_0 rfl (lv_at hl 1 rfl) ?_
  refine lv_tableIn (off := 577) (tgt := 578) hx hb dX11_reason_1 (by decide) (by decide) (by decide) (by decide) ?_
  refine lv_aload_n hx hb dX11_reason_578 rfl (lv_at hl 0 rfl) ?_
  refine va_get (D := G) (ci := 8) (v := .int 0) (C := RX11) (T := TX11) (N := 42) hx hb hts iX11 hown hK hP 0 rfl rfl 6 (by decide) (hw (.fieldLink RX11 115 "MotionFloorModel$Hall" "pending" "I") (List.mem_of_getElem? (i := 0) rfl)) (fun _ h9 => h9) rfl dX11_reason_579 ?_
  refine lv_if_ne (tgt := 588) hx hb dX11_reason_582 (by decide) (fun c_ => absurd c_ (by decide)) (fun _ => ?_)
  refine lv_bipush (v := 7) hx hb dX11_reason_585 (by decide) ?_
  have hP9 : va_P G vwCl [(h0, .inr (8, [.int 1, .int 0, .int (-1), .int 0, .int 0, .int (-1), .int 0, .int 0, .int 0, .int 0, .int 0, .ref h1, .ref h2, .ref h3, .ref h4, .ref h5, .ref h6, .ref h7, .ref h8, .ref h9, .ref h10, .ref h11, .ref h12, .ref h13, .ref h14, .ref h15, .ref h16, .ref h17, .ref h18, .ref h19, .int 0, .ref h20, .ref h21, .ref h22, .ref h23, .int 0, .int 0, .ref h24, .ref h25, .int (-1), .ref h26, .ref h27]))] _ := hP
  have hD9 : va_D A [(h0, .inr (8, [.int 1, .int 0, .int (-1), .int 0, .int 0, .int (-1), .int 0, .int 0, .int 0, .int 0, .int 0, .ref h1, .ref h2, .ref h3, .ref h4, .ref h5, .ref h6, .ref h7, .ref h8, .ref h9, .ref h10, .ref h11, .ref h12, .ref h13, .ref h14, .ref h15, .ref h16, .ref h17, .ref h18, .ref h19, .int 0, .ref h20, .ref h21, .ref h22, .ref h23, .int 0, .int 0, .ref h24, .ref h25, .int (-1), .ref h26, .ref h27]))] := hD
  exact W.iret (v := 7) hx hb hr (fun t ht hW => ⟨⟨7, _, rfl, ⟨rfl, rfl⟩, by rw [ht]; exact hP9, hD9⟩, hS.F ht⟩) hS.2.2 dX11_reason_587
def e_X11_act_25 : List Cond := [.methodLink RX11 196 yX11_reason, .instanceMethod yX11_reason, .selects RX11 yX11_reason yX11_reason, .initialized RX11, .fieldLink RX11 127 "MotionFloorModel$Hall" "why" "I"]
def v_X11_act_25 : List Cond := .code yX11_act cX11_act 10 (some .int) :: (e_X11_act_25 ++ (wsX110 ++ (v_X11_reason_25 ++ [])))
theorem te_X11_act_25 : GoodIn lw_tbl e_X11_act_25 := wGc z364 (wGc z363 (wGc z362 (wGc z227 (wGc z198 (wG0)))))
theorem t_X11_act_25 : GoodIn lw_tbl v_X11_act_25 := wGc z365 (wGa te_X11_act_25 (wGa zcX11 (wGa t_X11_reason_25 (wG0))))
set_option maxHeartbeats 4000000 in
set_option maxRecDepth 100000 in
theorem m_X11_act_25 (l : Launch) (G : va_G) (K : Nat → ClassId) (h0 h1 h2 h3 h4 h5 h6 h7 h8 h9 h10 h11 h12 h13 h14 h15 h16 h17 h18 h19 h20 h21 h22 h23 h24 h25 h26 h27 : Nat) (p0 : Int32) (sz : Nat) : Met l yX11_act v_X11_act_25 ({ frames := 1, cells := 0, slots := 0, locals := 25 }) (va_Pc [.ref h0, .int 16, .int p0, .int 0, .int 0, .int 0] (wS G K sz [(h0, .inr (8, [.int 1, .int 0, .int (-1), .int 0, .int 0, .int (-1), .int 0, .int 0, .int 0, .int 0, .int 0, .ref h1, .ref h2, .ref h3, .ref h4, .ref h5, .ref h6, .ref h7, .ref h8, .ref h9, .ref h10, .ref h11, .ref h12, .ref h13, .ref h14, .ref h15, .ref h16, .ref h17, .ref h18, .ref h19, .int 0, .ref h20, .ref h21, .ref h22, .ref h23, .int 0, .int 0, .ref h24, .ref h25, .int (-1), .ref h26, .ref h27]))])) (va_Qi (fun (r : Int32) (u : va_W) => ((-7) = r ∧ u = [(h0, .inr (8, [.int 1, .int 0, .int (-1), .int 0, .int 0, .int (-1), .int 0, .int 0, .int 0, .int 0, .int 7, .ref h1, .ref h2, .ref h3, .ref h4, .ref h5, .ref h6, .ref h7, .ref h8, .ref h9, .ref h10, .ref h11, .ref h12, .ref h13, .ref h14, .ref h15, .ref h16, .ref h17, .ref h18, .ref h19, .int 0, .ref h20, .ref h21, .ref h22, .ref h23, .int 0, .int 0, .ref h24, .ref h25, .int (-1), .ref h26, .ref h27]))])) (wB G (va_A [(h0, .inr (8, [.int 1, .int 0, .int (-1), .int 0, .int 0, .int (-1), .int 0, .int 0, .int 0, .int 0, .int 0, .ref h1, .ref h2, .ref h3, .ref h4, .ref h5, .ref h6, .ref h7, .ref h8, .ref h9, .ref h10, .ref h11, .ref h12, .ref h13, .ref h14, .ref h15, .ref h16, .ref h17, .ref h18, .ref h19, .int 0, .ref h20, .ref h21, .ref h22, .ref h23, .int 0, .int 0, .ref h24, .ref h25, .int (-1), .ref h26, .ref h27]))] sz)) (va_A [(h0, .inr (8, [.int 1, .int 0, .int (-1), .int 0, .int 0, .int (-1), .int 0, .int 0, .int 0, .int 0, .int 0, .ref h1, .ref h2, .ref h3, .ref h4, .ref h5, .ref h6, .ref h7, .ref h8, .ref h9, .ref h10, .ref h11, .ref h12, .ref h13, .ref h14, .ref h15, .ref h16, .ref h17, .ref h18, .ref h19, .int 0, .ref h20, .ref h21, .ref h22, .ref h23, .int 0, .int 0, .ref h24, .ref h25, .int (-1), .ref h26, .ref h27]))] sz)) 0 0 (va_A [(h0, .inr (8, [.int 1, .int 0, .int (-1), .int 0, .int 0, .int (-1), .int 0, .int 0, .int 0, .int 0, .int 0, .ref h1, .ref h2, .ref h3, .ref h4, .ref h5, .ref h6, .ref h7, .ref h8, .ref h9, .ref h10, .ref h11, .ref h12, .ref h13, .ref h14, .ref h15, .ref h16, .ref h17, .ref h18, .ref h19, .int 0, .ref h20, .ref h21, .ref h22, .ref h23, .int 0, .int 0, .ref h24, .ref h25, .int (-1), .ref h26, .ref h27]))] sz) := by
  refine Met.ofW (cc := cX11_act) (maxL := 10) (ret := (some .int)) (by decide) rfl ?_
  intro p e s m args below meth c s₁ B hml hv
  obtain ⟨rfl, hsz, hP, hK, hD0, hE⟩ := hv
  have hx := B.exec
  have hb := B.bytes
  have hr := B.returns
  have hts := atoms_spec (ws := v_X11_act_25) B.pre
  have t_ := t_X11_act_25
  have mw : ∀ w ∈ e_X11_act_25, w ∈ v_X11_act_25 := fun w h => List.mem_cons_of_mem _ (List.mem_append_left _ h)
  have hw := fun w (h : w ∈ e_X11_act_25) => hts w (mw w h)
  have iX11 : ∀ w ∈ wsX110, w ∈ v_X11_act_25 := fun w h => List.mem_cons_of_mem _ (List.mem_append_right _ (List.mem_append_left _ h))
  have j_X11_reason_25 : ∀ w ∈ v_X11_reason_25, w ∈ v_X11_act_25 := fun w h => List.mem_cons_of_mem _ (List.mem_append_right _ (List.mem_append_right _ (List.mem_append_left _ h)))
  have hown : s.vm.findClass RX11 = some m.cls := findClass_of_methodNamed B.named
  have hlocks := B.notSynchronized
  subst hsz
  have hD := hD0.self (sz := s.heap.size)
  generalize hAe : va_A [(h0, .inr (8, [.int 1, .int 0, .int (-1), .int 0, .int 0, .int (-1), .int 0, .int 0, .int 0, .int 0, .int 0, .ref h1, .ref h2, .ref h3, .ref h4, .ref h5, .ref h6, .ref h7, .ref h8, .ref h9, .ref h10, .ref h11, .ref h12, .ref h13, .ref h14, .ref h15, .ref h16, .ref h17, .ref h18, .ref h19, .int 0, .ref h20, .ref h21, .ref h22, .ref h23, .int 0, .int 0, .ref h24, .ref h25, .int (-1), .ref h26, .ref h27]))] s.heap.size = A at hD ⊢
  have hA : ∀ q : Nat, s.heap.size ≤ q → A q := fun q h => by rw [← hAe]; exact Or.inr h
  have hS : va_S A s.heap s.heap [] := va_S.rf
  have hP : va_P G vwCl [(h0, .inr (8, [.int 1, .int 0, .int (-1), .int 0, .int 0, .int (-1), .int 0, .int 0, .int 0, .int 0, .int 0, .ref h1, .ref h2, .ref h3, .ref h4, .ref h5, .ref h6, .ref h7, .ref h8, .ref h9, .ref h10, .ref h11, .ref h12, .ref h13, .ref h14, .ref h15, .ref h16, .ref h17, .ref h18, .ref h19, .int 0, .ref h20, .ref h21, .ref h22, .ref h23, .int 0, .int 0, .ref h24, .ref h25, .int (-1), .ref h26, .ref h27]))] s.heap := hP
  have hl := lv_entry ([.ref h0, .int 16, .int p0, .int 0, .int 0, .int 0]) (n := 10) (Nat.le_of_ble_eq_true rfl)
  rw [lg_entry_eq]
  generalize (lg_sl ([.ref h0, .int 16, .int p0, .int 0, .int 0, .int 0]) ++ List.replicate (10 - (lg_sl ([.ref h0, .int 16, .int p0, .int 0, .int 0, .int 0])).length) Slot.unset).toArray = ls at hl ⊢
  have hl : lv_has ls 10 [(0, .ref h0), (1, .int 16), (2, .int p0), (3, .int 0), (4, .int 0), (5, .int 0)] := hl
  refine lv_aload_n hx hb dX11_act_0 rfl (lv_at hl 0 rfl) ?_
  refine lv_iload_n hx hb dX11_act_1 rfl (lv_at hl 1 rfl) ?_
  refine lv_iload_n hx hb dX11_act_2 rfl (lv_at hl 2 rfl) ?_
  refine lv_iload_n hx hb dX11_act_3 rfl (lv_at hl 3 rfl) ?_
  refine lv_iload hx hb dX11_act_4 (lv_at hl 4 rfl) ?_
  refine lv_iload hx hb dX11_act_6 (lv_at hl 5 rfl) ?_
  have hPc := hP.sub (ws' := [(h0, .inr (8, [.int 1, .int 0, .int (-1), .int 0, .int 0, .int (-1), .int 0, .int 0, .int 0, .int 0, .int 0, .ref h1, .ref h2, .ref h3, .ref h4, .ref h5, .ref h6, .ref h7, .ref h8, .ref h9, .ref h10, .ref h11, .ref h12, .ref h13, .ref h14, .ref h15, .ref h16, .ref h17, .ref h18, .ref h19, .int 0, .ref h20, .ref h21, .ref h22, .ref h23, .int 0, .int 0, .ref h24, .ref h25, .int (-1), .ref h26, .ref h27]))]) [0] rfl
  have hDc := hD.sub (ws' := [(h0, .inr (8, [.int 1, .int 0, .int (-1), .int 0, .int 0, .int (-1), .int 0, .int 0, .int 0, .int 0, .int 0, .ref h1, .ref h2, .ref h3, .ref h4, .ref h5, .ref h6, .ref h7, .ref h8, .ref h9, .ref h10, .ref h11, .ref h12, .ref h13, .ref h14, .ref h15, .ref h16, .ref h17, .ref h18, .ref h19, .int 0, .ref h20, .ref h21, .ref h22, .ref h23, .int 0, .int 0, .ref h24, .ref h25, .int (-1), .ref h26, .ref h27]))]) [0] (by decide) rfl
  refine wGoi (wc := [(h0, .inr (8, [.int 1, .int 0, .int (-1), .int 0, .int 0, .int (-1), .int 0, .int 0, .int 0, .int 0, .int 0, .ref h1, .ref h2, .ref h3, .ref h4, .ref h5, .ref h6, .ref h7, .ref h8, .ref h9, .ref h10, .ref h11, .ref h12, .ref h13, .ref h14, .ref h15, .ref h16, .ref h17, .ref h18, .ref h19, .int 0, .ref h20, .ref h21, .ref h22, .ref h23, .int 0, .int 0, .ref h24, .ref h25, .int (-1), .ref h26, .ref h27]))]) (wr := []) (va_runV (As := [.int 16, .int p0, .int 0, .int 0, .int 0]) (rest := []) ⟨hx, hb, hml, hown, hts⟩ (m_X11_reason_25 l G K h0 h1 h2 h3 h4 h5 h6 h7 h8 h9 h10 h11 h12 h13 h14 h15 h16 h17 h18 h19 h20 h21 h22 h23 h24 h25 h26 h27 p0 _) (cwV 5 hts (wGV t_ (mw (.methodLink RX11 196 yX11_reason) (List.mem_of_getElem? (i := 0) rfl)) (mw (.instanceMethod yX11_reason) (List.mem_of_getElem? (i := 1) rfl)) (mw (.selects RX11 yX11_reason yX11_reason) (List.mem_of_getElem? (i := 2) rfl)) (mw (.initialized RX11) (List.mem_of_getElem? (i := 3) rfl)) j_X11_reason_25) rfl rfl rfl (by decide +kernel) ⟨Nat.le_of_ble_eq_true rfl, Nat.le_of_ble_eq_true rfl⟩) (wPV hK hE hPc hDc 8 0 rfl rfl) rfl rfl hl.1 rfl (lv_room (Nat.le_of_ble_eq_true rfl)) dX11_act_8 ⟨Nat.le_of_ble_eq_true rfl, Nat.le_of_ble_eq_true rfl⟩) hP hD hS hA [0] [] rfl rfl rfl (by decide) (fun r u H locs hw hP hD hS => ?_)
  rcases hw with ⟨rfl, rfl⟩
  have hP : va_P G vwCl [(h0, .inr (8, [.int 1, .int 0, .int (-1), .int 0, .int 0, .int (-1), .int 0, .int 0, .int 0, .int 0, .int 0, .ref h1, .ref h2, .ref h3, .ref h4, .ref h5, .ref h6, .ref h7, .ref h8, .ref h9, .ref h10, .ref h11, .ref h12, .ref h13, .ref h14, .ref h15, .ref h16, .ref h17, .ref h18, .ref h19, .int 0, .ref h20, .ref h21, .ref h22, .ref h23, .int 0, .int 0, .ref h24, .ref h25, .int (-1), .ref h26, .ref h27]))] _ := hP
  have hD : va_D A [(h0, .inr (8, [.int 1, .int 0, .int (-1), .int 0, .int 0, .int (-1), .int 0, .int 0, .int 0, .int 0, .int 0, .ref h1, .ref h2, .ref h3, .ref h4, .ref h5, .ref h6, .ref h7, .ref h8, .ref h9, .ref h10, .ref h11, .ref h12, .ref h13, .ref h14, .ref h15, .ref h16, .ref h17, .ref h18, .ref h19, .int 0, .ref h20, .ref h21, .ref h22, .ref h23, .int 0, .int 0, .ref h24, .ref h25, .int (-1), .ref h26, .ref h27]))] := hD
  refine lv_istore (lv' := [(6, .int 7), (0, .ref h0), (1, .int 16), (2, .int p0), (3, .int 0), (4, .int 0), (5, .int 0)]) hx hb dX11_act_11 hl (by decide) rfl (fun ls hl => ?_)
  refine lv_iload hx hb dX11_act_13 (lv_at hl 0 rfl) ?_
  refine lv_if_ne (tgt := 32) hx hb dX11_act_15 (by decide) (fun _ => ?_) (fun c_ => absurd c_ (by decide))
  refine lv_aload_n hx hb dX11_act_32 rfl (lv_at hl 1 rfl) ?_
  refine lv_iload hx hb dX11_act_33 (lv_at hl 0 rfl) ?_
  refine va_put (D := G) (ci := 8) (v := .int 7) (ty := .int) (C := RX11) (T := TX11) (N := 42) hx hb hts iX11 tyX11 tyX11_ok nmX11 hown hK hP hD hS 0 rfl rfl 10 (by decide) (hw (.fieldLink RX11 127 "MotionFloorModel$Hall" "why" "I") (List.mem_of_getElem? (i := 4) rfl)) (fun _ h9 => h9) rfl (by decide +kernel) rfl rfl (Nat.le_of_ble_eq_true rfl) dX11_act_35 (fun H locs hP hD hS => ?_)
  have hP : va_P G vwCl [(h0, .inr (8, [.int 1, .int 0, .int (-1), .int 0, .int 0, .int (-1), .int 0, .int 0, .int 0, .int 0, .int 7, .ref h1, .ref h2, .ref h3, .ref h4, .ref h5, .ref h6, .ref h7, .ref h8, .ref h9, .ref h10, .ref h11, .ref h12, .ref h13, .ref h14, .ref h15, .ref h16, .ref h17, .ref h18, .ref h19, .int 0, .ref h20, .ref h21, .ref h22, .ref h23, .int 0, .int 0, .ref h24, .ref h25, .int (-1), .ref h26, .ref h27]))] _ := hP
  have hD : va_D A [(h0, .inr (8, [.int 1, .int 0, .int (-1), .int 0, .int 0, .int (-1), .int 0, .int 0, .int 0, .int 0, .int 7, .ref h1, .ref h2, .ref h3, .ref h4, .ref h5, .ref h6, .ref h7, .ref h8, .ref h9, .ref h10, .ref h11, .ref h12, .ref h13, .ref h14, .ref h15, .ref h16, .ref h17, .ref h18, .ref h19, .int 0, .ref h20, .ref h21, .ref h22, .ref h23, .int 0, .int 0, .ref h24, .ref h25, .int (-1), .ref h26, .ref h27]))] := hD
  refine lv_iload hx hb dX11_act_38 (lv_at hl 0 rfl) ?_
  refine lv_if_le (tgt := 47) hx hb dX11_act_40 (by decide) (fun c_ => absurd c_ (by decide)) (fun _ => ?_)
  refine lv_iload hx hb dX11_act_43 (lv_at hl 0 rfl) ?_
  refine lv_ineg hx hb dX11_act_45 ?_
  refine wTop (v1 := .int (-7)) (congrArg Value.int (by decide)) ?_
  have hP9 : va_P G vwCl [(h0, .inr (8, [.int 1, .int 0, .int (-1), .int 0, .int 0, .int (-1), .int 0, .int 0, .int 0, .int 0, .int 7, .ref h1, .ref h2, .ref h3, .ref h4, .ref h5, .ref h6, .ref h7, .ref h8, .ref h9, .ref h10, .ref h11, .ref h12, .ref h13, .ref h14, .ref h15, .ref h16, .ref h17, .ref h18, .ref h19, .int 0, .ref h20, .ref h21, .ref h22, .ref h23, .int 0, .int 0, .ref h24, .ref h25, .int (-1), .ref h26, .ref h27]))] _ := hP
  have hD9 : va_D A [(h0, .inr (8, [.int 1, .int 0, .int (-1), .int 0, .int 0, .int (-1), .int 0, .int 0, .int 0, .int 0, .int 7, .ref h1, .ref h2, .ref h3, .ref h4, .ref h5, .ref h6, .ref h7, .ref h8, .ref h9, .ref h10, .ref h11, .ref h12, .ref h13, .ref h14, .ref h15, .ref h16, .ref h17, .ref h18, .ref h19, .int 0, .ref h20, .ref h21, .ref h22, .ref h23, .int 0, .int 0, .ref h24, .ref h25, .int (-1), .ref h26, .ref h27]))] := hD
  exact W.iret (v := (-7)) hx hb hr (fun t ht hW => ⟨⟨(-7), _, rfl, ⟨rfl, rfl⟩, by rw [ht]; exact hP9, hD9⟩, hS.F ht⟩) hS.2.2 dX11_act_46
def e_X12_second_0 : List Cond := [.fieldLink RX12 16 "MotionFloorModel" "hall" "LMotionFloorModel$Hall;", .methodLink RX12 40 yX11_act, .instanceMethod yX11_act, .selects RX11 yX11_act yX11_act, .initialized RX11]
def v_X12_second_0 : List Cond := .code yX12_second cX12_second 2 (some .int) :: (e_X12_second_0 ++ (wsX120 ++ (v_X11_act_25 ++ [])))
theorem te_X12_second_0 : GoodIn lw_tbl e_X12_second_0 := wGc z225 (wGc z368 (wGc z367 (wGc z366 (wGc z227 (wG0)))))
theorem t_X12_second_0 : GoodIn lw_tbl v_X12_second_0 := wGc z624 (wGa te_X12_second_0 (wGa zcX12 (wGa t_X11_act_25 (wG0))))
set_option maxHeartbeats 4000000 in
set_option maxRecDepth 100000 in
theorem m_X12_second_0 (l : Launch) (G : va_G) (K : Nat → ClassId) (h0 h1 h2 h3 h4 h5 h6 h7 h8 h9 h10 h11 h12 h13 h14 h15 h16 h17 h18 h19 h20 h21 h22 h23 h24 h25 h26 h27 h28 h29 h30 h31 h32 h33 : Nat) (p0 : Int32) (sz : Nat) : Met l yX12_second v_X12_second_0 ({ frames := 2, cells := 0, slots := 0, locals := 54 }) (va_Pc [.ref h0, .int p0] (wS G K sz [(h0, .inr (9, [.ref h1, .ref h2, .ref h3, .ref h4, .ref h5, .ref h6, .int 0])), (h1, .inr (8, [.int 1, .int 0, .int (-1), .int 0, .int 0, .int (-1), .int 0, .int 0, .int 0, .int 0, .int 0, .ref h7, .ref h8, .ref h9, .ref h10, .ref h11, .ref h12, .ref h13, .ref h14, .ref h15, .ref h16, .ref h17, .ref h18, .ref h19, .ref h20, .ref h21, .ref h22, .ref h23, .ref h24, .ref h25, .int 0, .ref h26, .ref h27, .ref h28, .ref h29, .int 0, .int 0, .ref h30, .ref h31, .int (-1), .ref h32, .ref h33]))])) (va_Qi (fun (r : Int32) (u : va_W) => ((-7) = r ∧ u = [(h0, .inr (9, [.ref h1, .ref h2, .ref h3, .ref h4, .ref h5, .ref h6, .int 0])), (h1, .inr (8, [.int 1, .int 0, .int (-1), .int 0, .int 0, .int (-1), .int 0, .int 0, .int 0, .int 0, .int 7, .ref h7, .ref h8, .ref h9, .ref h10, .ref h11, .ref h12, .ref h13, .ref h14, .ref h15, .ref h16, .ref h17, .ref h18, .ref h19, .ref h20, .ref h21, .ref h22, .ref h23, .ref h24, .ref h25, .int 0, .ref h26, .ref h27, .ref h28, .ref h29, .int 0, .int 0, .ref h30, .ref h31, .int (-1), .ref h32, .ref h33]))])) (wB G (va_A [(h0, .inr (9, [.ref h1, .ref h2, .ref h3, .ref h4, .ref h5, .ref h6, .int 0])), (h1, .inr (8, [.int 1, .int 0, .int (-1), .int 0, .int 0, .int (-1), .int 0, .int 0, .int 0, .int 0, .int 0, .ref h7, .ref h8, .ref h9, .ref h10, .ref h11, .ref h12, .ref h13, .ref h14, .ref h15, .ref h16, .ref h17, .ref h18, .ref h19, .ref h20, .ref h21, .ref h22, .ref h23, .ref h24, .ref h25, .int 0, .ref h26, .ref h27, .ref h28, .ref h29, .int 0, .int 0, .ref h30, .ref h31, .int (-1), .ref h32, .ref h33]))] sz)) (va_A [(h0, .inr (9, [.ref h1, .ref h2, .ref h3, .ref h4, .ref h5, .ref h6, .int 0])), (h1, .inr (8, [.int 1, .int 0, .int (-1), .int 0, .int 0, .int (-1), .int 0, .int 0, .int 0, .int 0, .int 0, .ref h7, .ref h8, .ref h9, .ref h10, .ref h11, .ref h12, .ref h13, .ref h14, .ref h15, .ref h16, .ref h17, .ref h18, .ref h19, .ref h20, .ref h21, .ref h22, .ref h23, .ref h24, .ref h25, .int 0, .ref h26, .ref h27, .ref h28, .ref h29, .int 0, .int 0, .ref h30, .ref h31, .int (-1), .ref h32, .ref h33]))] sz)) 0 0 (va_A [(h0, .inr (9, [.ref h1, .ref h2, .ref h3, .ref h4, .ref h5, .ref h6, .int 0])), (h1, .inr (8, [.int 1, .int 0, .int (-1), .int 0, .int 0, .int (-1), .int 0, .int 0, .int 0, .int 0, .int 0, .ref h7, .ref h8, .ref h9, .ref h10, .ref h11, .ref h12, .ref h13, .ref h14, .ref h15, .ref h16, .ref h17, .ref h18, .ref h19, .ref h20, .ref h21, .ref h22, .ref h23, .ref h24, .ref h25, .int 0, .ref h26, .ref h27, .ref h28, .ref h29, .int 0, .int 0, .ref h30, .ref h31, .int (-1), .ref h32, .ref h33]))] sz) := by
  refine Met.ofW (cc := cX12_second) (maxL := 2) (ret := (some .int)) (by decide) rfl ?_
  intro p e s m args below meth c s₁ B hml hv
  obtain ⟨rfl, hsz, hP, hK, hD0, hE⟩ := hv
  have hx := B.exec
  have hb := B.bytes
  have hr := B.returns
  have hts := atoms_spec (ws := v_X12_second_0) B.pre
  have t_ := t_X12_second_0
  have mw : ∀ w ∈ e_X12_second_0, w ∈ v_X12_second_0 := fun w h => List.mem_cons_of_mem _ (List.mem_append_left _ h)
  have hw := fun w (h : w ∈ e_X12_second_0) => hts w (mw w h)
  have iX12 : ∀ w ∈ wsX120, w ∈ v_X12_second_0 := fun w h => List.mem_cons_of_mem _ (List.mem_append_right _ (List.mem_append_left _ h))
  have j_X11_act_25 : ∀ w ∈ v_X11_act_25, w ∈ v_X12_second_0 := fun w h => List.mem_cons_of_mem _ (List.mem_append_right _ (List.mem_append_right _ (List.mem_append_left _ h)))
  have hown : s.vm.findClass RX12 = some m.cls := findClass_of_methodNamed B.named
  have hlocks := B.notSynchronized
  subst hsz
  have hD := hD0.self (sz := s.heap.size)
  generalize hAe : va_A [(h0, .inr (9, [.ref h1, .ref h2, .ref h3, .ref h4, .ref h5, .ref h6, .int 0])), (h1, .inr (8, [.int 1, .int 0, .int (-1), .int 0, .int 0, .int (-1), .int 0, .int 0, .int 0, .int 0, .int 0, .ref h7, .ref h8, .ref h9, .ref h10, .ref h11, .ref h12, .ref h13, .ref h14, .ref h15, .ref h16, .ref h17, .ref h18, .ref h19, .ref h20, .ref h21, .ref h22, .ref h23, .ref h24, .ref h25, .int 0, .ref h26, .ref h27, .ref h28, .ref h29, .int 0, .int 0, .ref h30, .ref h31, .int (-1), .ref h32, .ref h33]))] s.heap.size = A at hD ⊢
  have hA : ∀ q : Nat, s.heap.size ≤ q → A q := fun q h => by rw [← hAe]; exact Or.inr h
  have hS : va_S A s.heap s.heap [] := va_S.rf
  have hP : va_P G vwCl [(h0, .inr (9, [.ref h1, .ref h2, .ref h3, .ref h4, .ref h5, .ref h6, .int 0])), (h1, .inr (8, [.int 1, .int 0, .int (-1), .int 0, .int 0, .int (-1), .int 0, .int 0, .int 0, .int 0, .int 0, .ref h7, .ref h8, .ref h9, .ref h10, .ref h11, .ref h12, .ref h13, .ref h14, .ref h15, .ref h16, .ref h17, .ref h18, .ref h19, .ref h20, .ref h21, .ref h22, .ref h23, .ref h24, .ref h25, .int 0, .ref h26, .ref h27, .ref h28, .ref h29, .int 0, .int 0, .ref h30, .ref h31, .int (-1), .ref h32, .ref h33]))] s.heap := hP
  have hl := lv_entry ([.ref h0, .int p0]) (n := 2) (Nat.le_of_ble_eq_true rfl)
  rw [lg_entry_eq]
  generalize (lg_sl ([.ref h0, .int p0]) ++ List.replicate (2 - (lg_sl ([.ref h0, .int p0])).length) Slot.unset).toArray = ls at hl ⊢
  have hl : lv_has ls 2 [(0, .ref h0), (1, .int p0)] := hl
  refine lv_aload_n hx hb dX12_second_0 rfl (lv_at hl 0 rfl) ?_
  refine va_get (D := G) (ci := 9) (v := .ref h1) (C := RX12) (T := TX12) (N := 7) hx hb hts iX12 hown hK hP 0 rfl rfl 0 (by decide) (hw (.fieldLink RX12 16 "MotionFloorModel" "hall" "LMotionFloorModel$Hall;") (List.mem_of_getElem? (i := 0) rfl)) (fun _ h9 => h9) rfl dX12_second_1 ?_
  refine lv_bipush (v := 16) hx hb dX12_second_4 (by decide) ?_
  refine lv_iload_n hx hb dX12_second_6 rfl (lv_at hl 1 rfl) ?_
  refine lv_iconst (v := 0) hx hb dX12_second_7 (by decide) ?_
  refine lv_iconst (v := 0) hx hb dX12_second_8 (by decide) ?_
  refine lv_iconst (v := 0) hx hb dX12_second_9 (by decide) ?_
  have hPc := hP.sub (ws' := [(h1, .inr (8, [.int 1, .int 0, .int (-1), .int 0, .int 0, .int (-1), .int 0, .int 0, .int 0, .int 0, .int 0, .ref h7, .ref h8, .ref h9, .ref h10, .ref h11, .ref h12, .ref h13, .ref h14, .ref h15, .ref h16, .ref h17, .ref h18, .ref h19, .ref h20, .ref h21, .ref h22, .ref h23, .ref h24, .ref h25, .int 0, .ref h26, .ref h27, .ref h28, .ref h29, .int 0, .int 0, .ref h30, .ref h31, .int (-1), .ref h32, .ref h33]))]) [1] rfl
  have hDc := hD.sub (ws' := [(h1, .inr (8, [.int 1, .int 0, .int (-1), .int 0, .int 0, .int (-1), .int 0, .int 0, .int 0, .int 0, .int 0, .ref h7, .ref h8, .ref h9, .ref h10, .ref h11, .ref h12, .ref h13, .ref h14, .ref h15, .ref h16, .ref h17, .ref h18, .ref h19, .ref h20, .ref h21, .ref h22, .ref h23, .ref h24, .ref h25, .int 0, .ref h26, .ref h27, .ref h28, .ref h29, .int 0, .int 0, .ref h30, .ref h31, .int (-1), .ref h32, .ref h33]))]) [1] (by decide) rfl
  refine wGoi (wc := [(h1, .inr (8, [.int 1, .int 0, .int (-1), .int 0, .int 0, .int (-1), .int 0, .int 0, .int 0, .int 0, .int 0, .ref h7, .ref h8, .ref h9, .ref h10, .ref h11, .ref h12, .ref h13, .ref h14, .ref h15, .ref h16, .ref h17, .ref h18, .ref h19, .ref h20, .ref h21, .ref h22, .ref h23, .ref h24, .ref h25, .int 0, .ref h26, .ref h27, .ref h28, .ref h29, .int 0, .int 0, .ref h30, .ref h31, .int (-1), .ref h32, .ref h33]))]) (wr := [(h0, .inr (9, [.ref h1, .ref h2, .ref h3, .ref h4, .ref h5, .ref h6, .int 0]))]) (va_runV (As := [.int 16, .int p0, .int 0, .int 0, .int 0]) (rest := []) ⟨hx, hb, hml, hown, hts⟩ (m_X11_act_25 l G K h1 h7 h8 h9 h10 h11 h12 h13 h14 h15 h16 h17 h18 h19 h20 h21 h22 h23 h24 h25 h26 h27 h28 h29 h30 h31 h32 h33 p0 _) (cwV 5 hts (wGV t_ (mw (.methodLink RX12 40 yX11_act) (List.mem_of_getElem? (i := 1) rfl)) (mw (.instanceMethod yX11_act) (List.mem_of_getElem? (i := 2) rfl)) (mw (.selects RX11 yX11_act yX11_act) (List.mem_of_getElem? (i := 3) rfl)) (mw (.initialized RX11) (List.mem_of_getElem? (i := 4) rfl)) j_X11_act_25) rfl rfl rfl (by decide +kernel) ⟨Nat.le_of_ble_eq_true rfl, Nat.le_of_ble_eq_true rfl⟩) (wPV hK hE hPc hDc 8 0 rfl rfl) rfl rfl hl.1 rfl (lv_room (Nat.le_of_ble_eq_true rfl)) dX12_second_10 ⟨Nat.le_of_ble_eq_true rfl, Nat.le_of_ble_eq_true rfl⟩) hP hD hS hA [1] [0] rfl rfl rfl (by decide) (fun r u H locs hw hP hD hS => ?_)
  rcases hw with ⟨rfl, rfl⟩
  have hP : va_P G vwCl [(h0, .inr (9, [.ref h1, .ref h2, .ref h3, .ref h4, .ref h5, .ref h6, .int 0])), (h1, .inr (8, [.int 1, .int 0, .int (-1), .int 0, .int 0, .int (-1), .int 0, .int 0, .int 0, .int 0, .int 7, .ref h7, .ref h8, .ref h9, .ref h10, .ref h11, .ref h12, .ref h13, .ref h14, .ref h15, .ref h16, .ref h17, .ref h18, .ref h19, .ref h20, .ref h21, .ref h22, .ref h23, .ref h24, .ref h25, .int 0, .ref h26, .ref h27, .ref h28, .ref h29, .int 0, .int 0, .ref h30, .ref h31, .int (-1), .ref h32, .ref h33]))] _ := hP
  have hD : va_D A [(h0, .inr (9, [.ref h1, .ref h2, .ref h3, .ref h4, .ref h5, .ref h6, .int 0])), (h1, .inr (8, [.int 1, .int 0, .int (-1), .int 0, .int 0, .int (-1), .int 0, .int 0, .int 0, .int 0, .int 7, .ref h7, .ref h8, .ref h9, .ref h10, .ref h11, .ref h12, .ref h13, .ref h14, .ref h15, .ref h16, .ref h17, .ref h18, .ref h19, .ref h20, .ref h21, .ref h22, .ref h23, .ref h24, .ref h25, .int 0, .ref h26, .ref h27, .ref h28, .ref h29, .int 0, .int 0, .ref h30, .ref h31, .int (-1), .ref h32, .ref h33]))] := hD
  have hP9 : va_P G vwCl [(h0, .inr (9, [.ref h1, .ref h2, .ref h3, .ref h4, .ref h5, .ref h6, .int 0])), (h1, .inr (8, [.int 1, .int 0, .int (-1), .int 0, .int 0, .int (-1), .int 0, .int 0, .int 0, .int 0, .int 7, .ref h7, .ref h8, .ref h9, .ref h10, .ref h11, .ref h12, .ref h13, .ref h14, .ref h15, .ref h16, .ref h17, .ref h18, .ref h19, .ref h20, .ref h21, .ref h22, .ref h23, .ref h24, .ref h25, .int 0, .ref h26, .ref h27, .ref h28, .ref h29, .int 0, .int 0, .ref h30, .ref h31, .int (-1), .ref h32, .ref h33]))] _ := hP
  have hD9 : va_D A [(h0, .inr (9, [.ref h1, .ref h2, .ref h3, .ref h4, .ref h5, .ref h6, .int 0])), (h1, .inr (8, [.int 1, .int 0, .int (-1), .int 0, .int 0, .int (-1), .int 0, .int 0, .int 0, .int 0, .int 7, .ref h7, .ref h8, .ref h9, .ref h10, .ref h11, .ref h12, .ref h13, .ref h14, .ref h15, .ref h16, .ref h17, .ref h18, .ref h19, .ref h20, .ref h21, .ref h22, .ref h23, .ref h24, .ref h25, .int 0, .ref h26, .ref h27, .ref h28, .ref h29, .int 0, .int 0, .ref h30, .ref h31, .int (-1), .ref h32, .ref h33]))] := hD
  exact W.iret (v := (-7)) hx hb hr (fun t ht hW => ⟨⟨(-7), _, rfl, ⟨rfl, rfl⟩, by rw [ht]; exact hP9, hD9⟩, hS.F ht⟩) hS.2.2 dX12_second_13
def e_X8_againstOnMotion_2 : List Cond := [.fieldLink RX8 34 "MotionFloor$Assembly" "house" "LMotionFloor$House;", .fieldLink RX8 79 "MotionFloor$House" "chair" "I", .methodLink RX8 82 yX2_isThere, .instanceMethod yX2_isThere, .selects RX2 yX2_isThere yX2_isThere, .initialized RX2, .fieldLink RX8 86 "MotionFloor$Assembly" "pending" "LMotionFloor$Pile;", .methodLink RX8 90 yX5_top, .instanceMethod yX5_top, .selects RX5 yX5_top yX5_top, .initialized RX5]
def v_X8_againstOnMotion_2 : List Cond := .code yX8_againstOnMotion cX8_againstOnMotion 6 (some .int) :: (e_X8_againstOnMotion_2 ++ (wsX00 ++ (wsX20 ++ (v_X2_isThere_1 ++ (v_X5_top_0 ++ [])))))
theorem te_X8_againstOnMotion_2 : GoodIn lw_tbl e_X8_againstOnMotion_2 := wGc z300 (wGc z622 (wGc z292 (wGc z291 (wGc z290 (wGc z57 (wGc z389 (wGc z450 (wGc z324 (wGc z323 (wGc z26 (wG0)))))))))))
theorem t_X8_againstOnMotion_2 : GoodIn lw_tbl v_X8_againstOnMotion_2 := wGc z607 (wGa te_X8_againstOnMotion_2 (wGa zcX0 (wGa zcX2 (wGa t_X2_isThere_1 (wGa t_X5_top_0 (wG0))))))
set_option maxHeartbeats 4000000 in
set_option maxRecDepth 100000 in
theorem m_X8_againstOnMotion_2 (l : Launch) (G : va_G) (K : Nat → ClassId) (h0 h1 h2 h3 h4 h5 h6 h7 h8 h9 h10 : Nat) (p0 p1 : Int32) (sz : Nat) : Met l yX8_againstOnMotion v_X8_againstOnMotion_2 ({ frames := 2, cells := 0, slots := 0, locals := 41 }) (va_Pc [.ref h0, .int 17, .int p0, .int p1] (wS G K sz [(h0, .inr (0, [.ref h1, .ref h2, .ref h3, .ref h4, .ref h5, .ref h6, .ref h7, .int 0, .int 0, .int 0, .null])), (h1, .inr (1, [.int 1, .ref h8, .int 0, .int (-1), .int 0, .int 0, .int (-1), .ref h9])), (h2, .inr (4, [.ref h10, .int 0]))])) (va_Qi (fun (r : Int32) (u : va_W) => (7 = r ∧ u = [(h0, .inr (0, [.ref h1, .ref h2, .ref h3, .ref h4, .ref h5, .ref h6, .ref h7, .int 0, .int 0, .int 0, .null])), (h1, .inr (1, [.int 1, .ref h8, .int 0, .int (-1), .int 0, .int 0, .int (-1), .ref h9])), (h2, .inr (4, [.ref h10, .int 0]))])) (wB G (va_A [(h0, .inr (0, [.ref h1, .ref h2, .ref h3, .ref h4, .ref h5, .ref h6, .ref h7, .int 0, .int 0, .int 0, .null])), (h1, .inr (1, [.int 1, .ref h8, .int 0, .int (-1), .int 0, .int 0, .int (-1), .ref h9])), (h2, .inr (4, [.ref h10, .int 0]))] sz)) (va_A [(h0, .inr (0, [.ref h1, .ref h2, .ref h3, .ref h4, .ref h5, .ref h6, .ref h7, .int 0, .int 0, .int 0, .null])), (h1, .inr (1, [.int 1, .ref h8, .int 0, .int (-1), .int 0, .int 0, .int (-1), .ref h9])), (h2, .inr (4, [.ref h10, .int 0]))] sz)) 0 0 (va_A [(h0, .inr (0, [.ref h1, .ref h2, .ref h3, .ref h4, .ref h5, .ref h6, .ref h7, .int 0, .int 0, .int 0, .null])), (h1, .inr (1, [.int 1, .ref h8, .int 0, .int (-1), .int 0, .int 0, .int (-1), .ref h9])), (h2, .inr (4, [.ref h10, .int 0]))] sz) := by
  refine Met.ofW (cc := cX8_againstOnMotion) (maxL := 6) (ret := (some .int)) (by decide) rfl ?_
  intro p e s m args below meth c s₁ B hml hv
  obtain ⟨rfl, hsz, hP, hK, hD0, hE⟩ := hv
  have hx := B.exec
  have hb := B.bytes
  have hr := B.returns
  have hts := atoms_spec (ws := v_X8_againstOnMotion_2) B.pre
  have t_ := t_X8_againstOnMotion_2
  have mw : ∀ w ∈ e_X8_againstOnMotion_2, w ∈ v_X8_againstOnMotion_2 := fun w h => List.mem_cons_of_mem _ (List.mem_append_left _ h)
  have hw := fun w (h : w ∈ e_X8_againstOnMotion_2) => hts w (mw w h)
  have iX0 : ∀ w ∈ wsX00, w ∈ v_X8_againstOnMotion_2 := fun w h => List.mem_cons_of_mem _ (List.mem_append_right _ (List.mem_append_left _ h))
  have iX2 : ∀ w ∈ wsX20, w ∈ v_X8_againstOnMotion_2 := fun w h => List.mem_cons_of_mem _ (List.mem_append_right _ (List.mem_append_right _ (List.mem_append_left _ h)))
  have j_X2_isThere_1 : ∀ w ∈ v_X2_isThere_1, w ∈ v_X8_againstOnMotion_2 := fun w h => List.mem_cons_of_mem _ (List.mem_append_right _ (List.mem_append_right _ (List.mem_append_right _ (List.mem_append_left _ h))))
  have j_X5_top_0 : ∀ w ∈ v_X5_top_0, w ∈ v_X8_againstOnMotion_2 := fun w h => List.mem_cons_of_mem _ (List.mem_append_right _ (List.mem_append_right _ (List.mem_append_right _ (List.mem_append_right _ (List.mem_append_left _ h)))))
  have hown : s.vm.findClass RX8 = some m.cls := findClass_of_methodNamed B.named
  have hlocks := B.notSynchronized
  subst hsz
  have hD := hD0.self (sz := s.heap.size)
  generalize hAe : va_A [(h0, .inr (0, [.ref h1, .ref h2, .ref h3, .ref h4, .ref h5, .ref h6, .ref h7, .int 0, .int 0, .int 0, .null])), (h1, .inr (1, [.int 1, .ref h8, .int 0, .int (-1), .int 0, .int 0, .int (-1), .ref h9])), (h2, .inr (4, [.ref h10, .int 0]))] s.heap.size = A at hD ⊢
  have hA : ∀ q : Nat, s.heap.size ≤ q → A q := fun q h => by rw [← hAe]; exact Or.inr h
  have hS : va_S A s.heap s.heap [] := va_S.rf
  have hP : va_P G vwCl [(h0, .inr (0, [.ref h1, .ref h2, .ref h3, .ref h4, .ref h5, .ref h6, .ref h7, .int 0, .int 0, .int 0, .null])), (h1, .inr (1, [.int 1, .ref h8, .int 0, .int (-1), .int 0, .int 0, .int (-1), .ref h9])), (h2, .inr (4, [.ref h10, .int 0]))] s.heap := hP
  have hl := lv_entry ([.ref h0, .int 17, .int p0, .int p1]) (n := 6) (Nat.le_of_ble_eq_true rfl)
  rw [lg_entry_eq]
  generalize (lg_sl ([.ref h0, .int 17, .int p0, .int p1]) ++ List.replicate (6 - (lg_sl ([.ref h0, .int 17, .int p0, .int p1])).length) Slot.unset).toArray = ls at hl ⊢
  have hl : lv_has ls 6 [(0, .ref h0), (1, .int 17), (2, .int p0), (3, .int p1)] := hl
  refine lv_iload_n hx hb dX8_againstOnMotion_0 rfl (lv_at hl 1 rfl) ?_
  refine lv_bipush (v := 15) hx hb dX8_againstOnMotion_1 (by decide) ?_
  refine lv_icmp_ne (tgt := 12) hx hb dX8_againstOnMotion_3 (by decide) (fun _ => ?_) (fun c_ => absurd c_ (by decide))
  refine lv_aload_n hx hb dX8_againstOnMotion_12 rfl (lv_at hl 0 rfl) ?_
  refine va_get (D := G) (ci := 0) (v := .ref h1) (C := RX0) (T := TX0) (N := 11) hx hb hts iX0 hown hK hP 0 rfl rfl 0 (by decide) (hw (.fieldLink RX8 34 "MotionFloor$Assembly" "house" "LMotionFloor$House;") (List.mem_of_getElem? (i := 0) rfl)) (fun _ h9 => h9) rfl dX8_againstOnMotion_13 ?_
  refine lv_aload_n hx hb dX8_againstOnMotion_16 rfl (lv_at hl 0 rfl) ?_
  refine va_get (D := G) (ci := 0) (v := .ref h1) (C := RX0) (T := TX0) (N := 11) hx hb hts iX0 hown hK hP 0 rfl rfl 0 (by decide) (hw (.fieldLink RX8 34 "MotionFloor$Assembly" "house" "LMotionFloor$House;") (List.mem_of_getElem? (i := 0) rfl)) (fun _ h9 => h9) rfl dX8_againstOnMotion_17 ?_
  refine va_get (D := G) (ci := 1) (v := .int (-1)) (C := RX2) (T := TX2) (N := 8) hx hb hts iX2 hown hK hP 1 rfl rfl 3 (by decide) (hw (.fieldLink RX8 79 "MotionFloor$House" "chair" "I") (List.mem_of_getElem? (i := 1) rfl)) (fun _ h9 => h9) rfl dX8_againstOnMotion_20 ?_
  have hPc := hP.sub (ws' := [(h1, .inr (1, [.int 1, .ref h8, .int 0, .int (-1), .int 0, .int 0, .int (-1), .ref h9]))]) [1] rfl
  have hDc := hD.sub (ws' := [(h1, .inr (1, [.int 1, .ref h8, .int 0, .int (-1), .int 0, .int 0, .int (-1), .ref h9]))]) [1] (by decide) rfl
  refine wGoi (wc := [(h1, .inr (1, [.int 1, .ref h8, .int 0, .int (-1), .int 0, .int 0, .int (-1), .ref h9]))]) (wr := [(h0, .inr (0, [.ref h1, .ref h2, .ref h3, .ref h4, .ref h5, .ref h6, .ref h7, .int 0, .int 0, .int 0, .null])), (h2, .inr (4, [.ref h10, .int 0]))]) (va_runV (As := [.int (-1)]) (rest := []) ⟨hx, hb, hml, hown, hts⟩ (m_X2_isThere_1 l G K h1 h8 h9 _) (cwV 1 hts (wGV t_ (mw (.methodLink RX8 82 yX2_isThere) (List.mem_of_getElem? (i := 2) rfl)) (mw (.instanceMethod yX2_isThere) (List.mem_of_getElem? (i := 3) rfl)) (mw (.selects RX2 yX2_isThere yX2_isThere) (List.mem_of_getElem? (i := 4) rfl)) (mw (.initialized RX2) (List.mem_of_getElem? (i := 5) rfl)) j_X2_isThere_1) rfl rfl rfl (by decide +kernel) ⟨Nat.le_of_ble_eq_true rfl, Nat.le_of_ble_eq_true rfl⟩) (wPV hK hE hPc hDc 1 0 rfl rfl) rfl rfl hl.1 rfl (lv_room (Nat.le_of_ble_eq_true rfl)) dX8_againstOnMotion_23 ⟨Nat.le_of_ble_eq_true rfl, Nat.le_of_ble_eq_true rfl⟩) hP hD hS hA [1] [0, 2] rfl rfl rfl (by decide) (fun r u H locs hw hP hD hS => ?_)
  rcases hw with ⟨rfl, rfl⟩
  have hP : va_P G vwCl [(h0, .inr (0, [.ref h1, .ref h2, .ref h3, .ref h4, .ref h5, .ref h6, .ref h7, .int 0, .int 0, .int 0, .null])), (h2, .inr (4, [.ref h10, .int 0])), (h1, .inr (1, [.int 1, .ref h8, .int 0, .int (-1), .int 0, .int 0, .int (-1), .ref h9]))] _ := hP
  have hD : va_D A [(h0, .inr (0, [.ref h1, .ref h2, .ref h3, .ref h4, .ref h5, .ref h6, .ref h7, .int 0, .int 0, .int 0, .null])), (h2, .inr (4, [.ref h10, .int 0])), (h1, .inr (1, [.int 1, .ref h8, .int 0, .int (-1), .int 0, .int 0, .int (-1), .ref h9]))] := hD
  refine lv_istore (lv' := [(4, .int 0), (0, .ref h0), (1, .int 17), (2, .int p0), (3, .int p1)]) hx hb dX8_againstOnMotion_26 hl (by decide) rfl (fun ls hl => ?_)
  refine lv_iload_n hx hb dX8_againstOnMotion_28 rfl (lv_at hl 2 rfl) ?_
  refine lv_bipush (v := 22) hx hb dX8_againstOnMotion_29 (by decide) ?_
  refine lv_icmp_ne (tgt := 46) hx hb dX8_againstOnMotion_31 (by decide) (fun _ => ?_) (fun c_ => absurd c_ (by decide))
  refine lv_iload_n hx hb dX8_againstOnMotion_46 rfl (lv_at hl 2 rfl) ?_
  refine lv_bipush (v := 19) hx hb dX8_againstOnMotion_47 (by decide) ?_
  refine lv_icmp_eq (tgt := 58) hx hb dX8_againstOnMotion_49 (by decide) (fun c_ => absurd c_ (by decide)) (fun _ => ?_)
  refine lv_iload_n hx hb dX8_againstOnMotion_52 rfl (lv_at hl 2 rfl) ?_
  refine lv_bipush (v := 21) hx hb dX8_againstOnMotion_53 (by decide) ?_
  refine lv_icmp_ne (tgt := 66) hx hb dX8_againstOnMotion_55 (by decide) (fun _ => ?_) (fun c_ => absurd c_ (by decide))
  refine lv_aload_n hx hb dX8_againstOnMotion_66 rfl (lv_at hl 1 rfl) ?_
  refine va_get (D := G) (ci := 0) (v := .ref h2) (C := RX0) (T := TX0) (N := 11) hx hb hts iX0 hown hK hP 0 rfl rfl 1 (by decide) (hw (.fieldLink RX8 86 "MotionFloor$Assembly" "pending" "LMotionFloor$Pile;") (List.mem_of_getElem? (i := 6) rfl)) (fun _ h9 => h9) rfl dX8_againstOnMotion_67 ?_
  have hPc := hP.sub (ws' := [(h2, .inr (4, [.ref h10, .int 0]))]) [1] rfl
  have hDc := hD.sub (ws' := [(h2, .inr (4, [.ref h10, .int 0]))]) [1] (by decide) rfl
  refine wGoq (wc := [(h2, .inr (4, [.ref h10, .int 0]))]) (wr := [(h0, .inr (0, [.ref h1, .ref h2, .ref h3, .ref h4, .ref h5, .ref h6, .ref h7, .int 0, .int 0, .int 0, .null])), (h1, .inr (1, [.int 1, .ref h8, .int 0, .int (-1), .int 0, .int 0, .int (-1), .ref h9]))]) (va_runV (As := []) (rest := []) ⟨hx, hb, hml, hown, hts⟩ (m_X5_top_0 l G K h2 h10 _) (cwV 0 hts (wGV t_ (mw (.methodLink RX8 90 yX5_top) (List.mem_of_getElem? (i := 7) rfl)) (mw (.instanceMethod yX5_top) (List.mem_of_getElem? (i := 8) rfl)) (mw (.selects RX5 yX5_top yX5_top) (List.mem_of_getElem? (i := 9) rfl)) (mw (.initialized RX5) (List.mem_of_getElem? (i := 10) rfl)) j_X5_top_0) rfl rfl rfl (by decide +kernel) ⟨Nat.le_of_ble_eq_true rfl, Nat.le_of_ble_eq_true rfl⟩) (wPV hK hE hPc hDc 4 0 rfl rfl) rfl rfl hl.1 rfl (lv_room (Nat.le_of_ble_eq_true rfl)) dX8_againstOnMotion_70 ⟨Nat.le_of_ble_eq_true rfl, Nat.le_of_ble_eq_true rfl⟩) hP hD hS hA [1] [0, 2] rfl rfl rfl (by decide) (fun r u H locs hw hP hD hS => ?_)
  rcases hw with ⟨rfl, rfl⟩
  have hP : va_P G vwCl [(h0, .inr (0, [.ref h1, .ref h2, .ref h3, .ref h4, .ref h5, .ref h6, .ref h7, .int 0, .int 0, .int 0, .null])), (h1, .inr (1, [.int 1, .ref h8, .int 0, .int (-1), .int 0, .int 0, .int (-1), .ref h9])), (h2, .inr (4, [.ref h10, .int 0]))] _ := hP
  have hD : va_D A [(h0, .inr (0, [.ref h1, .ref h2, .ref h3, .ref h4, .ref h5, .ref h6, .ref h7, .int 0, .int 0, .int 0, .null])), (h1, .inr (1, [.int 1, .ref h8, .int 0, .int (-1), .int 0, .int 0, .int (-1), .ref h9])), (h2, .inr (4, [.ref h10, .int 0]))] := hD
  refine wTop (v1 := .null) rfl ?_
  refine lv_astoreN (lv' := [(5, .null), (4, .int 0), (0, .ref h0), (1, .int 17), (2, .int p0), (3, .int p1)]) hx hb dX8_againstOnMotion_73 hl (by decide) rfl (fun ls hl => ?_)
  refine lv_aloadN hx hb dX8_againstOnMotion_75 (lv_at hl 0 rfl) ?_
  refine lv_ifnonnullN hx hb dX8_againstOnMotion_77 ?_
  refine lv_bipush (v := 7) hx hb dX8_againstOnMotion_80 (by decide) ?_
  have hP9 : va_P G vwCl [(h0, .inr (0, [.ref h1, .ref h2, .ref h3, .ref h4, .ref h5, .ref h6, .ref h7, .int 0, .int 0, .int 0, .null])), (h1, .inr (1, [.int 1, .ref h8, .int 0, .int (-1), .int 0, .int 0, .int (-1), .ref h9])), (h2, .inr (4, [.ref h10, .int 0]))] _ := hP
  have hD9 : va_D A [(h0, .inr (0, [.ref h1, .ref h2, .ref h3, .ref h4, .ref h5, .ref h6, .ref h7, .int 0, .int 0, .int 0, .null])), (h1, .inr (1, [.int 1, .ref h8, .int 0, .int (-1), .int 0, .int 0, .int (-1), .ref h9])), (h2, .inr (4, [.ref h10, .int 0]))] := hD
  exact W.iret (v := 7) hx hb hr (fun t ht hW => ⟨⟨7, _, rfl, ⟨rfl, rfl⟩, by rw [ht]; exact hP9, hD9⟩, hS.F ht⟩) hS.2.2 dX8_againstOnMotion_82
def e_X8_against_16 : List Cond := [.methodLink RX8 19 yX8_againstOnMotion, .static yX8_againstOnMotion, .initialized RX8]
def v_X8_against_16 : List Cond := .code yX8_against cX8_against 7 (some .int) :: (e_X8_against_16 ++ (v_X8_againstOnMotion_2 ++ []))
theorem te_X8_against_16 : GoodIn lw_tbl e_X8_against_16 := wGc z609 (wGc z608 (wGc z297 (wG0)))
theorem t_X8_against_16 : GoodIn lw_tbl v_X8_against_16 := wGc z310 (wGa te_X8_against_16 (wGa t_X8_againstOnMotion_2 (wG0)))
set_option maxHeartbeats 4000000 in
set_option maxRecDepth 100000 in
theorem m_X8_against_16 (l : Launch) (G : va_G) (K : Nat → ClassId) (h0 h1 h2 h3 h4 h5 h6 h7 h8 h9 h10 : Nat) (p0 p1 : Int32) (sz : Nat) : Met l yX8_against v_X8_against_16 ({ frames := 3, cells := 0, slots := 0, locals := 66 }) (va_Pc [.ref h0, .int 17, .int p0, .int p1, .int 0, .int 0] (wS G K sz [(h0, .inr (0, [.ref h1, .ref h2, .ref h3, .ref h4, .ref h5, .ref h6, .ref h7, .int 0, .int 0, .int 0, .null])), (h1, .inr (1, [.int 1, .ref h8, .int 0, .int (-1), .int 0, .int 0, .int (-1), .ref h9])), (h2, .inr (4, [.ref h10, .int 0]))])) (va_Qi (fun (r : Int32) (u : va_W) => (7 = r ∧ u = [(h0, .inr (0, [.ref h1, .ref h2, .ref h3, .ref h4, .ref h5, .ref h6, .ref h7, .int 0, .int 0, .int 0, .null])), (h1, .inr (1, [.int 1, .ref h8, .int 0, .int (-1), .int 0, .int 0, .int (-1), .ref h9])), (h2, .inr (4, [.ref h10, .int 0]))])) (wB G (va_A [(h0, .inr (0, [.ref h1, .ref h2, .ref h3, .ref h4, .ref h5, .ref h6, .ref h7, .int 0, .int 0, .int 0, .null])), (h1, .inr (1, [.int 1, .ref h8, .int 0, .int (-1), .int 0, .int 0, .int (-1), .ref h9])), (h2, .inr (4, [.ref h10, .int 0]))] sz)) (va_A [(h0, .inr (0, [.ref h1, .ref h2, .ref h3, .ref h4, .ref h5, .ref h6, .ref h7, .int 0, .int 0, .int 0, .null])), (h1, .inr (1, [.int 1, .ref h8, .int 0, .int (-1), .int 0, .int 0, .int (-1), .ref h9])), (h2, .inr (4, [.ref h10, .int 0]))] sz)) 0 0 (va_A [(h0, .inr (0, [.ref h1, .ref h2, .ref h3, .ref h4, .ref h5, .ref h6, .ref h7, .int 0, .int 0, .int 0, .null])), (h1, .inr (1, [.int 1, .ref h8, .int 0, .int (-1), .int 0, .int 0, .int (-1), .ref h9])), (h2, .inr (4, [.ref h10, .int 0]))] sz) := by
  refine Met.ofW (cc := cX8_against) (maxL := 7) (ret := (some .int)) (by decide) rfl ?_
  intro p e s m args below meth c s₁ B hml hv
  obtain ⟨rfl, hsz, hP, hK, hD0, hE⟩ := hv
  have hx := B.exec
  have hb := B.bytes
  have hr := B.returns
  have hts := atoms_spec (ws := v_X8_against_16) B.pre
  have t_ := t_X8_against_16
  have mw : ∀ w ∈ e_X8_against_16, w ∈ v_X8_against_16 := fun w h => List.mem_cons_of_mem _ (List.mem_append_left _ h)
  have hw := fun w (h : w ∈ e_X8_against_16) => hts w (mw w h)
  have j_X8_againstOnMotion_2 : ∀ w ∈ v_X8_againstOnMotion_2, w ∈ v_X8_against_16 := fun w h => List.mem_cons_of_mem _ (List.mem_append_right _ (List.mem_append_left _ h))
  have hown : s.vm.findClass RX8 = some m.cls := findClass_of_methodNamed B.named
  have hlocks := B.notSynchronized
  subst hsz
  have hD := hD0.self (sz := s.heap.size)
  generalize hAe : va_A [(h0, .inr (0, [.ref h1, .ref h2, .ref h3, .ref h4, .ref h5, .ref h6, .ref h7, .int 0, .int 0, .int 0, .null])), (h1, .inr (1, [.int 1, .ref h8, .int 0, .int (-1), .int 0, .int 0, .int (-1), .ref h9])), (h2, .inr (4, [.ref h10, .int 0]))] s.heap.size = A at hD ⊢
  have hA : ∀ q : Nat, s.heap.size ≤ q → A q := fun q h => by rw [← hAe]; exact Or.inr h
  have hS : va_S A s.heap s.heap [] := va_S.rf
  have hP : va_P G vwCl [(h0, .inr (0, [.ref h1, .ref h2, .ref h3, .ref h4, .ref h5, .ref h6, .ref h7, .int 0, .int 0, .int 0, .null])), (h1, .inr (1, [.int 1, .ref h8, .int 0, .int (-1), .int 0, .int 0, .int (-1), .ref h9])), (h2, .inr (4, [.ref h10, .int 0]))] s.heap := hP
  have hl := lv_entry ([.ref h0, .int 17, .int p0, .int p1, .int 0, .int 0]) (n := 7) (Nat.le_of_ble_eq_true rfl)
  rw [lg_entry_eq]
  generalize (lg_sl ([.ref h0, .int 17, .int p0, .int p1, .int 0, .int 0]) ++ List.replicate (7 - (lg_sl ([.ref h0, .int 17, .int p0, .int p1, .int 0, .int 0])).length) Slot.unset).toArray = ls at hl ⊢
  have hl : lv_has ls 7 [(0, .ref h0), (1, .int 17), (2, .int p0), (3, .int p1), (4, .int 0), (5, .int 0)] := hl
  refine lv_iload_n hx hb dX8_against_0 rfl (lv_at hl 1 rfl) ?_
  refine lv_bipush (v := 9) hx hb dX8_against_1 (by decide) ?_
  refine lv_icmp_gt (tgt := 18) hx hb dX8_against_3 (by decide) (fun _ => ?_) (fun c_ => absurd c_ (by decide))
  refine lv_iload_n hx hb dX8_against_18 rfl (lv_at hl 1 rfl) ?_
  refine lv_bipush (v := 14) hx hb dX8_against_19 (by decide) ?_
  refine lv_icmp_gt (tgt := 40) hx hb dX8_against_21 (by decide) (fun _ => ?_) (fun c_ => absurd c_ (by decide))
  refine lv_aload_n hx hb dX8_against_40 rfl (lv_at hl 0 rfl) ?_
  refine lv_iload_n hx hb dX8_against_41 rfl (lv_at hl 1 rfl) ?_
  refine lv_iload_n hx hb dX8_against_42 rfl (lv_at hl 2 rfl) ?_
  refine lv_iload_n hx hb dX8_against_43 rfl (lv_at hl 3 rfl) ?_
  have hPc := hP.sub (ws' := [(h0, .inr (0, [.ref h1, .ref h2, .ref h3, .ref h4, .ref h5, .ref h6, .ref h7, .int 0, .int 0, .int 0, .null])), (h1, .inr (1, [.int 1, .ref h8, .int 0, .int (-1), .int 0, .int 0, .int (-1), .ref h9])), (h2, .inr (4, [.ref h10, .int 0]))]) [0, 1, 2] rfl
  have hDc := hD.sub (ws' := [(h0, .inr (0, [.ref h1, .ref h2, .ref h3, .ref h4, .ref h5, .ref h6, .ref h7, .int 0, .int 0, .int 0, .null])), (h1, .inr (1, [.int 1, .ref h8, .int 0, .int (-1), .int 0, .int 0, .int (-1), .ref h9])), (h2, .inr (4, [.ref h10, .int 0]))]) [0, 1, 2] (by decide) rfl
  refine wGoi (wc := [(h0, .inr (0, [.ref h1, .ref h2, .ref h3, .ref h4, .ref h5, .ref h6, .ref h7, .int 0, .int 0, .int 0, .null])), (h1, .inr (1, [.int 1, .ref h8, .int 0, .int (-1), .int 0, .int 0, .int (-1), .ref h9])), (h2, .inr (4, [.ref h10, .int 0]))]) (wr := []) (va_runS (As := [.ref h0, .int 17, .int p0, .int p1]) (rest := []) ⟨hx, hb, hml, hown, hts⟩ (m_X8_againstOnMotion_2 l G K h0 h1 h2 h3 h4 h5 h6 h7 h8 h9 h10 p0 p1 _) (va_cwS 4 hts (wGS t_ (mw (.methodLink RX8 19 yX8_againstOnMotion) (List.mem_of_getElem? (i := 0) rfl)) (mw (.static yX8_againstOnMotion) (List.mem_of_getElem? (i := 1) rfl)) (mw (.initialized RX8) (List.mem_of_getElem? (i := 2) rfl)) j_X8_againstOnMotion_2) rfl rfl rfl (by decide +kernel) ⟨Nat.le_of_ble_eq_true rfl, Nat.le_of_ble_eq_true rfl⟩) (wPS hK hE hPc hDc) rfl rfl hl.1 rfl (lv_room (Nat.le_of_ble_eq_true rfl)) dX8_against_44 ⟨Nat.le_of_ble_eq_true rfl, Nat.le_of_ble_eq_true rfl⟩) hP hD hS hA [0, 1, 2] [] rfl rfl rfl (by decide) (fun r u H locs hw hP hD hS => ?_)
  rcases hw with ⟨rfl, rfl⟩
  have hP : va_P G vwCl [(h0, .inr (0, [.ref h1, .ref h2, .ref h3, .ref h4, .ref h5, .ref h6, .ref h7, .int 0, .int 0, .int 0, .null])), (h1, .inr (1, [.int 1, .ref h8, .int 0, .int (-1), .int 0, .int 0, .int (-1), .ref h9])), (h2, .inr (4, [.ref h10, .int 0]))] _ := hP
  have hD : va_D A [(h0, .inr (0, [.ref h1, .ref h2, .ref h3, .ref h4, .ref h5, .ref h6, .ref h7, .int 0, .int 0, .int 0, .null])), (h1, .inr (1, [.int 1, .ref h8, .int 0, .int (-1), .int 0, .int 0, .int (-1), .ref h9])), (h2, .inr (4, [.ref h10, .int 0]))] := hD
  refine lv_istore (lv' := [(6, .int 7), (0, .ref h0), (1, .int 17), (2, .int p0), (3, .int p1), (4, .int 0), (5, .int 0)]) hx hb dX8_against_47 hl (by decide) rfl (fun ls hl => ?_)
  refine lv_iload hx hb dX8_against_49 (lv_at hl 0 rfl) ?_
  refine lv_if_ne (tgt := 69) hx hb dX8_against_51 (by decide) (fun _ => ?_) (fun c_ => absurd c_ (by decide))
  refine lv_iload hx hb dX8_against_69 (lv_at hl 0 rfl) ?_
  have hP9 : va_P G vwCl [(h0, .inr (0, [.ref h1, .ref h2, .ref h3, .ref h4, .ref h5, .ref h6, .ref h7, .int 0, .int 0, .int 0, .null])), (h1, .inr (1, [.int 1, .ref h8, .int 0, .int (-1), .int 0, .int 0, .int (-1), .ref h9])), (h2, .inr (4, [.ref h10, .int 0]))] _ := hP
  have hD9 : va_D A [(h0, .inr (0, [.ref h1, .ref h2, .ref h3, .ref h4, .ref h5, .ref h6, .ref h7, .int 0, .int 0, .int 0, .null])), (h1, .inr (1, [.int 1, .ref h8, .int 0, .int (-1), .int 0, .int 0, .int (-1), .ref h9])), (h2, .inr (4, [.ref h10, .int 0]))] := hD
  exact W.iret (v := 7) hx hb hr (fun t ht hW => ⟨⟨7, _, rfl, ⟨rfl, rfl⟩, by rw [ht]; exact hP9, hD9⟩, hS.F ht⟩) hS.2.2 dX8_against_71
def e_X0_enact_16 : List Cond := [.methodLink RX0 155 yX8_against, .static yX8_against, .initialized RX8, .fieldLink RX0 73 "MotionFloor$Assembly" "reason" "I"]
def v_X0_enact_16 : List Cond := .code yX0_enact cX0_enact 7 (some .int) :: (e_X0_enact_16 ++ (wsX00 ++ (v_X8_against_16 ++ [])))
theorem te_X0_enact_16 : GoodIn lw_tbl e_X0_enact_16 := wGc z345 (wGc z344 (wGc z297 (wGc z263 (wG0))))
theorem t_X0_enact_16 : GoodIn lw_tbl v_X0_enact_16 := wGc z346 (wGa te_X0_enact_16 (wGa zcX0 (wGa t_X8_against_16 (wG0))))
set_option maxHeartbeats 4000000 in
set_option maxRecDepth 100000 in
theorem m_X0_enact_16 (l : Launch) (G : va_G) (K : Nat → ClassId) (h0 h1 h2 h3 h4 h5 h6 h7 h8 h9 h10 : Nat) (p0 p1 : Int32) (sz : Nat) : Met l yX0_enact v_X0_enact_16 ({ frames := 4, cells := 0, slots := 0, locals := 92 }) (va_Pc [.ref h0, .int 17, .int p0, .int p1, .int 0, .int 0] (wS G K sz [(h0, .inr (0, [.ref h1, .ref h2, .ref h3, .ref h4, .ref h5, .ref h6, .ref h7, .int 0, .int 0, .int 0, .null])), (h1, .inr (1, [.int 1, .ref h8, .int 0, .int (-1), .int 0, .int 0, .int (-1), .ref h9])), (h2, .inr (4, [.ref h10, .int 0]))])) (va_Qi (fun (r : Int32) (u : va_W) => ((-7) = r ∧ u = [(h0, .inr (0, [.ref h1, .ref h2, .ref h3, .ref h4, .ref h5, .ref h6, .ref h7, .int 0, .int 0, .int 7, .null])), (h1, .inr (1, [.int 1, .ref h8, .int 0, .int (-1), .int 0, .int 0, .int (-1), .ref h9])), (h2, .inr (4, [.ref h10, .int 0]))])) (wB G (va_A [(h0, .inr (0, [.ref h1, .ref h2, .ref h3, .ref h4, .ref h5, .ref h6, .ref h7, .int 0, .int 0, .int 0, .null])), (h1, .inr (1, [.int 1, .ref h8, .int 0, .int (-1), .int 0, .int 0, .int (-1), .ref h9])), (h2, .inr (4, [.ref h10, .int 0]))] sz)) (va_A [(h0, .inr (0, [.ref h1, .ref h2, .ref h3, .ref h4, .ref h5, .ref h6, .ref h7, .int 0, .int 0, .int 0, .null])), (h1, .inr (1, [.int 1, .ref h8, .int 0, .int (-1), .int 0, .int 0, .int (-1), .ref h9])), (h2, .inr (4, [.ref h10, .int 0]))] sz)) 0 0 (va_A [(h0, .inr (0, [.ref h1, .ref h2, .ref h3, .ref h4, .ref h5, .ref h6, .ref h7, .int 0, .int 0, .int 0, .null])), (h1, .inr (1, [.int 1, .ref h8, .int 0, .int (-1), .int 0, .int 0, .int (-1), .ref h9])), (h2, .inr (4, [.ref h10, .int 0]))] sz) := by
  refine Met.ofW (cc := cX0_enact) (maxL := 7) (ret := (some .int)) (by decide) rfl ?_
  intro p e s m args below meth c s₁ B hml hv
  obtain ⟨rfl, hsz, hP, hK, hD0, hE⟩ := hv
  have hx := B.exec
  have hb := B.bytes
  have hr := B.returns
  have hts := atoms_spec (ws := v_X0_enact_16) B.pre
  have t_ := t_X0_enact_16
  have mw : ∀ w ∈ e_X0_enact_16, w ∈ v_X0_enact_16 := fun w h => List.mem_cons_of_mem _ (List.mem_append_left _ h)
  have hw := fun w (h : w ∈ e_X0_enact_16) => hts w (mw w h)
  have iX0 : ∀ w ∈ wsX00, w ∈ v_X0_enact_16 := fun w h => List.mem_cons_of_mem _ (List.mem_append_right _ (List.mem_append_left _ h))
  have j_X8_against_16 : ∀ w ∈ v_X8_against_16, w ∈ v_X0_enact_16 := fun w h => List.mem_cons_of_mem _ (List.mem_append_right _ (List.mem_append_right _ (List.mem_append_left _ h)))
  have hown : s.vm.findClass RX0 = some m.cls := findClass_of_methodNamed B.named
  have hlocks := B.notSynchronized
  subst hsz
  have hD := hD0.self (sz := s.heap.size)
  generalize hAe : va_A [(h0, .inr (0, [.ref h1, .ref h2, .ref h3, .ref h4, .ref h5, .ref h6, .ref h7, .int 0, .int 0, .int 0, .null])), (h1, .inr (1, [.int 1, .ref h8, .int 0, .int (-1), .int 0, .int 0, .int (-1), .ref h9])), (h2, .inr (4, [.ref h10, .int 0]))] s.heap.size = A at hD ⊢
  have hA : ∀ q : Nat, s.heap.size ≤ q → A q := fun q h => by rw [← hAe]; exact Or.inr h
  have hS : va_S A s.heap s.heap [] := va_S.rf
  have hP : va_P G vwCl [(h0, .inr (0, [.ref h1, .ref h2, .ref h3, .ref h4, .ref h5, .ref h6, .ref h7, .int 0, .int 0, .int 0, .null])), (h1, .inr (1, [.int 1, .ref h8, .int 0, .int (-1), .int 0, .int 0, .int (-1), .ref h9])), (h2, .inr (4, [.ref h10, .int 0]))] s.heap := hP
  have hl := lv_entry ([.ref h0, .int 17, .int p0, .int p1, .int 0, .int 0]) (n := 7) (Nat.le_of_ble_eq_true rfl)
  rw [lg_entry_eq]
  generalize (lg_sl ([.ref h0, .int 17, .int p0, .int p1, .int 0, .int 0]) ++ List.replicate (7 - (lg_sl ([.ref h0, .int 17, .int p0, .int p1, .int 0, .int 0])).length) Slot.unset).toArray = ls at hl ⊢
  have hl : lv_has ls 7 [(0, .ref h0), (1, .int 17), (2, .int p0), (3, .int p1), (4, .int 0), (5, .int 0)] := hl
  refine lv_aload_n hx hb dX0_enact_0 rfl (lv_at hl 0 rfl) ?_
  refine lv_aload_n hx hb dX0_enact_1 rfl (lv_at hl 0 rfl) ?_
  refine lv_iload_n hx hb dX0_enact_2 rfl (lv_at hl 1 rfl) ?_
  refine lv_iload_n hx hb dX0_enact_3 rfl (lv_at hl 2 rfl) ?_
  refine lv_iload_n hx hb dX0_enact_4 rfl (lv_at hl 3 rfl) ?_
  refine lv_iload hx hb dX0_enact_5 (lv_at hl 4 rfl) ?_
  refine lv_iload hx hb dX0_enact_7 (lv_at hl 5 rfl) ?_
  have hPc := hP.sub (ws' := [(h0, .inr (0, [.ref h1, .ref h2, .ref h3, .ref h4, .ref h5, .ref h6, .ref h7, .int 0, .int 0, .int 0, .null])), (h1, .inr (1, [.int 1, .ref h8, .int 0, .int (-1), .int 0, .int 0, .int (-1), .ref h9])), (h2, .inr (4, [.ref h10, .int 0]))]) [0, 1, 2] rfl
  have hDc := hD.sub (ws' := [(h0, .inr (0, [.ref h1, .ref h2, .ref h3, .ref h4, .ref h5, .ref h6, .ref h7, .int 0, .int 0, .int 0, .null])), (h1, .inr (1, [.int 1, .ref h8, .int 0, .int (-1), .int 0, .int 0, .int (-1), .ref h9])), (h2, .inr (4, [.ref h10, .int 0]))]) [0, 1, 2] (by decide) rfl
  refine wGoi (wc := [(h0, .inr (0, [.ref h1, .ref h2, .ref h3, .ref h4, .ref h5, .ref h6, .ref h7, .int 0, .int 0, .int 0, .null])), (h1, .inr (1, [.int 1, .ref h8, .int 0, .int (-1), .int 0, .int 0, .int (-1), .ref h9])), (h2, .inr (4, [.ref h10, .int 0]))]) (wr := []) (va_runS (As := [.ref h0, .int 17, .int p0, .int p1, .int 0, .int 0]) (rest := [.ref h0]) ⟨hx, hb, hml, hown, hts⟩ (m_X8_against_16 l G K h0 h1 h2 h3 h4 h5 h6 h7 h8 h9 h10 p0 p1 _) (va_cwS 6 hts (wGS t_ (mw (.methodLink RX0 155 yX8_against) (List.mem_of_getElem? (i := 0) rfl)) (mw (.static yX8_against) (List.mem_of_getElem? (i := 1) rfl)) (mw (.initialized RX8) (List.mem_of_getElem? (i := 2) rfl)) j_X8_against_16) rfl rfl rfl (by decide +kernel) ⟨Nat.le_of_ble_eq_true rfl, Nat.le_of_ble_eq_true rfl⟩) (wPS hK hE hPc hDc) rfl rfl hl.1 rfl (lv_room (Nat.le_of_ble_eq_true rfl)) dX0_enact_9 ⟨Nat.le_of_ble_eq_true rfl, Nat.le_of_ble_eq_true rfl⟩) hP hD hS hA [0, 1, 2] [] rfl rfl rfl (by decide) (fun r u H locs hw hP hD hS => ?_)
  rcases hw with ⟨rfl, rfl⟩
  have hP : va_P G vwCl [(h0, .inr (0, [.ref h1, .ref h2, .ref h3, .ref h4, .ref h5, .ref h6, .ref h7, .int 0, .int 0, .int 0, .null])), (h1, .inr (1, [.int 1, .ref h8, .int 0, .int (-1), .int 0, .int 0, .int (-1), .ref h9])), (h2, .inr (4, [.ref h10, .int 0]))] _ := hP
  have hD : va_D A [(h0, .inr (0, [.ref h1, .ref h2, .ref h3, .ref h4, .ref h5, .ref h6, .ref h7, .int 0, .int 0, .int 0, .null])), (h1, .inr (1, [.int 1, .ref h8, .int 0, .int (-1), .int 0, .int 0, .int (-1), .ref h9])), (h2, .inr (4, [.ref h10, .int 0]))] := hD
  refine va_put (D := G) (ci := 0) (v := .int 7) (ty := .int) (C := RX0) (T := TX0) (N := 11) hx hb hts iX0 tyX0 tyX0_ok nmX0 hown hK hP hD hS 0 rfl rfl 9 (by decide) (hw (.fieldLink RX0 73 "MotionFloor$Assembly" "reason" "I") (List.mem_of_getElem? (i := 3) rfl)) (fun _ h9 => h9) rfl (by decide +kernel) rfl rfl (Nat.le_of_ble_eq_true rfl) dX0_enact_12 (fun H locs hP hD hS => ?_)
  have hP : va_P G vwCl [(h0, .inr (0, [.ref h1, .ref h2, .ref h3, .ref h4, .ref h5, .ref h6, .ref h7, .int 0, .int 0, .int 7, .null])), (h1, .inr (1, [.int 1, .ref h8, .int 0, .int (-1), .int 0, .int 0, .int (-1), .ref h9])), (h2, .inr (4, [.ref h10, .int 0]))] _ := hP
  have hD : va_D A [(h0, .inr (0, [.ref h1, .ref h2, .ref h3, .ref h4, .ref h5, .ref h6, .ref h7, .int 0, .int 0, .int 7, .null])), (h1, .inr (1, [.int 1, .ref h8, .int 0, .int (-1), .int 0, .int 0, .int (-1), .ref h9])), (h2, .inr (4, [.ref h10, .int 0]))] := hD
  refine lv_aload_n hx hb dX0_enact_15 rfl (lv_at hl 0 rfl) ?_
  refine va_get (D := G) (ci := 0) (v := .int 7) (C := RX0) (T := TX0) (N := 11) hx hb hts iX0 hown hK hP 0 rfl rfl 9 (by decide) (hw (.fieldLink RX0 73 "MotionFloor$Assembly" "reason" "I") (List.mem_of_getElem? (i := 3) rfl)) (fun _ h9 => h9) rfl dX0_enact_16 ?_
  refine lv_if_eq (tgt := 28) hx hb dX0_enact_19 (by decide) (fun c_ => absurd c_ (by decide)) (fun _ => ?_)
  refine lv_aload_n hx hb dX0_enact_22 rfl (lv_at hl 0 rfl) ?_
  refine va_get (D := G) (ci := 0) (v := .int 7) (C := RX0) (T := TX0) (N := 11) hx hb hts iX0 hown hK hP 0 rfl rfl 9 (by decide) (hw (.fieldLink RX0 73 "MotionFloor$Assembly" "reason" "I") (List.mem_of_getElem? (i := 3) rfl)) (fun _ h9 => h9) rfl dX0_enact_23 ?_
  refine lv_ineg hx hb dX0_enact_26 ?_
  refine wTop (v1 := .int (-7)) (congrArg Value.int (by decide)) ?_
  have hP9 : va_P G vwCl [(h0, .inr (0, [.ref h1, .ref h2, .ref h3, .ref h4, .ref h5, .ref h6, .ref h7, .int 0, .int 0, .int 7, .null])), (h1, .inr (1, [.int 1, .ref h8, .int 0, .int (-1), .int 0, .int 0, .int (-1), .ref h9])), (h2, .inr (4, [.ref h10, .int 0]))] _ := hP
  have hD9 : va_D A [(h0, .inr (0, [.ref h1, .ref h2, .ref h3, .ref h4, .ref h5, .ref h6, .ref h7, .int 0, .int 0, .int 7, .null])), (h1, .inr (1, [.int 1, .ref h8, .int 0, .int (-1), .int 0, .int 0, .int (-1), .ref h9])), (h2, .inr (4, [.ref h10, .int 0]))] := hD
  exact W.iret (v := (-7)) hx hb hr (fun t ht hW => ⟨⟨(-7), _, rfl, ⟨rfl, rfl⟩, by rw [ht]; exact hP9, hD9⟩, hS.F ht⟩) hS.2.2 dX0_enact_27
def e_X10_vote_0 : List Cond := [.fieldLink RX10 10 "MotionFloor" "now" "LMotionFloor$Assembly;", .methodLink RX10 32 yX0_enact, .instanceMethod yX0_enact, .selects RX0 yX0_enact yX0_enact, .initialized RX0]
def v_X10_vote_0 : List Cond := .code yX10_vote cX10_vote 3 (some .int) :: (e_X10_vote_0 ++ (wsX100 ++ (v_X0_enact_16 ++ [])))
theorem te_X10_vote_0 : GoodIn lw_tbl e_X10_vote_0 := wGc z115 (wGc z349 (wGc z348 (wGc z347 (wGc z118 (wG0)))))
theorem t_X10_vote_0 : GoodIn lw_tbl v_X10_vote_0 := wGc z631 (wGa te_X10_vote_0 (wGa zcX10 (wGa t_X0_enact_16 (wG0))))
set_option maxHeartbeats 4000000 in
set_option maxRecDepth 100000 in
theorem m_X10_vote_0 (l : Launch) (G : va_G) (K : Nat → ClassId) (h0 h1 h2 h3 h4 h5 h6 h7 h8 h9 h10 h11 h12 h13 : Nat) (p0 p1 : Int32) (sz : Nat) : Met l yX10_vote v_X10_vote_0 ({ frames := 5, cells := 0, slots := 0, locals := 118 }) (va_Pc [.ref h0, .int p0, .int p1] (wS G K sz [(h0, .inr (7, [.ref h1, .ref h4, .null, .null, .ref h5])), (h1, .inr (0, [.ref h2, .ref h3, .ref h6, .ref h7, .ref h8, .ref h9, .ref h10, .int 0, .int 0, .int 0, .null])), (h2, .inr (1, [.int 1, .ref h11, .int 0, .int (-1), .int 0, .int 0, .int (-1), .ref h12])), (h3, .inr (4, [.ref h13, .int 0]))])) (va_Qi (fun (r : Int32) (u : va_W) => ((-7) = r ∧ u = [(h0, .inr (7, [.ref h1, .ref h4, .null, .null, .ref h5])), (h1, .inr (0, [.ref h2, .ref h3, .ref h6, .ref h7, .ref h8, .ref h9, .ref h10, .int 0, .int 0, .int 7, .null])), (h2, .inr (1, [.int 1, .ref h11, .int 0, .int (-1), .int 0, .int 0, .int (-1), .ref h12])), (h3, .inr (4, [.ref h13, .int 0]))])) (wB G (va_A [(h0, .inr (7, [.ref h1, .ref h4, .null, .null, .ref h5])), (h1, .inr (0, [.ref h2, .ref h3, .ref h6, .ref h7, .ref h8, .ref h9, .ref h10, .int 0, .int 0, .int 0, .null])), (h2, .inr (1, [.int 1, .ref h11, .int 0, .int (-1), .int 0, .int 0, .int (-1), .ref h12])), (h3, .inr (4, [.ref h13, .int 0]))] sz)) (va_A [(h0, .inr (7, [.ref h1, .ref h4, .null, .null, .ref h5])), (h1, .inr (0, [.ref h2, .ref h3, .ref h6, .ref h7, .ref h8, .ref h9, .ref h10, .int 0, .int 0, .int 0, .null])), (h2, .inr (1, [.int 1, .ref h11, .int 0, .int (-1), .int 0, .int 0, .int (-1), .ref h12])), (h3, .inr (4, [.ref h13, .int 0]))] sz)) 0 0 (va_A [(h0, .inr (7, [.ref h1, .ref h4, .null, .null, .ref h5])), (h1, .inr (0, [.ref h2, .ref h3, .ref h6, .ref h7, .ref h8, .ref h9, .ref h10, .int 0, .int 0, .int 0, .null])), (h2, .inr (1, [.int 1, .ref h11, .int 0, .int (-1), .int 0, .int 0, .int (-1), .ref h12])), (h3, .inr (4, [.ref h13, .int 0]))] sz) := by
  refine Met.ofW (cc := cX10_vote) (maxL := 3) (ret := (some .int)) (by decide) rfl ?_
  intro p e s m args below meth c s₁ B hml hv
  obtain ⟨rfl, hsz, hP, hK, hD0, hE⟩ := hv
  have hx := B.exec
  have hb := B.bytes
  have hr := B.returns
  have hts := atoms_spec (ws := v_X10_vote_0) B.pre
  have t_ := t_X10_vote_0
  have mw : ∀ w ∈ e_X10_vote_0, w ∈ v_X10_vote_0 := fun w h => List.mem_cons_of_mem _ (List.mem_append_left _ h)
  have hw := fun w (h : w ∈ e_X10_vote_0) => hts w (mw w h)
  have iX10 : ∀ w ∈ wsX100, w ∈ v_X10_vote_0 := fun w h => List.mem_cons_of_mem _ (List.mem_append_right _ (List.mem_append_left _ h))
  have j_X0_enact_16 : ∀ w ∈ v_X0_enact_16, w ∈ v_X10_vote_0 := fun w h => List.mem_cons_of_mem _ (List.mem_append_right _ (List.mem_append_right _ (List.mem_append_left _ h)))
  have hown : s.vm.findClass RX10 = some m.cls := findClass_of_methodNamed B.named
  have hlocks := B.notSynchronized
  subst hsz
  have hD := hD0.self (sz := s.heap.size)
  generalize hAe : va_A [(h0, .inr (7, [.ref h1, .ref h4, .null, .null, .ref h5])), (h1, .inr (0, [.ref h2, .ref h3, .ref h6, .ref h7, .ref h8, .ref h9, .ref h10, .int 0, .int 0, .int 0, .null])), (h2, .inr (1, [.int 1, .ref h11, .int 0, .int (-1), .int 0, .int 0, .int (-1), .ref h12])), (h3, .inr (4, [.ref h13, .int 0]))] s.heap.size = A at hD ⊢
  have hA : ∀ q : Nat, s.heap.size ≤ q → A q := fun q h => by rw [← hAe]; exact Or.inr h
  have hS : va_S A s.heap s.heap [] := va_S.rf
  have hP : va_P G vwCl [(h0, .inr (7, [.ref h1, .ref h4, .null, .null, .ref h5])), (h1, .inr (0, [.ref h2, .ref h3, .ref h6, .ref h7, .ref h8, .ref h9, .ref h10, .int 0, .int 0, .int 0, .null])), (h2, .inr (1, [.int 1, .ref h11, .int 0, .int (-1), .int 0, .int 0, .int (-1), .ref h12])), (h3, .inr (4, [.ref h13, .int 0]))] s.heap := hP
  have hl := lv_entry ([.ref h0, .int p0, .int p1]) (n := 3) (Nat.le_of_ble_eq_true rfl)
  rw [lg_entry_eq]
  generalize (lg_sl ([.ref h0, .int p0, .int p1]) ++ List.replicate (3 - (lg_sl ([.ref h0, .int p0, .int p1])).length) Slot.unset).toArray = ls at hl ⊢
  have hl : lv_has ls 3 [(0, .ref h0), (1, .int p0), (2, .int p1)] := hl
  refine lv_aload_n hx hb dX10_vote_0 rfl (lv_at hl 0 rfl) ?_
  refine va_get (D := G) (ci := 7) (v := .ref h1) (C := RX10) (T := TX10) (N := 5) hx hb hts iX10 hown hK hP 0 rfl rfl 0 (by decide) (hw (.fieldLink RX10 10 "MotionFloor" "now" "LMotionFloor$Assembly;") (List.mem_of_getElem? (i := 0) rfl)) (fun _ h9 => h9) rfl dX10_vote_1 ?_
  refine lv_bipush (v := 17) hx hb dX10_vote_4 (by decide) ?_
  refine lv_iload_n hx hb dX10_vote_6 rfl (lv_at hl 1 rfl) ?_
  refine lv_iload_n hx hb dX10_vote_7 rfl (lv_at hl 2 rfl) ?_
  refine lv_iconst (v := 0) hx hb dX10_vote_8 (by decide) ?_
  refine lv_iconst (v := 0) hx hb dX10_vote_9 (by decide) ?_
  have hPc := hP.sub (ws' := [(h1, .inr (0, [.ref h2, .ref h3, .ref h6, .ref h7, .ref h8, .ref h9, .ref h10, .int 0, .int 0, .int 0, .null])), (h2, .inr (1, [.int 1, .ref h11, .int 0, .int (-1), .int 0, .int 0, .int (-1), .ref h12])), (h3, .inr (4, [.ref h13, .int 0]))]) [1, 2, 3] rfl
  have hDc := hD.sub (ws' := [(h1, .inr (0, [.ref h2, .ref h3, .ref h6, .ref h7, .ref h8, .ref h9, .ref h10, .int 0, .int 0, .int 0, .null])), (h2, .inr (1, [.int 1, .ref h11, .int 0, .int (-1), .int 0, .int 0, .int (-1), .ref h12])), (h3, .inr (4, [.ref h13, .int 0]))]) [1, 2, 3] (by decide) rfl
  refine wGoi (wc := [(h1, .inr (0, [.ref h2, .ref h3, .ref h6, .ref h7, .ref h8, .ref h9, .ref h10, .int 0, .int 0, .int 0, .null])), (h2, .inr (1, [.int 1, .ref h11, .int 0, .int (-1), .int 0, .int 0, .int (-1), .ref h12])), (h3, .inr (4, [.ref h13, .int 0]))]) (wr := [(h0, .inr (7, [.ref h1, .ref h4, .null, .null, .ref h5]))]) (va_runV (As := [.int 17, .int p0, .int p1, .int 0, .int 0]) (rest := []) ⟨hx, hb, hml, hown, hts⟩ (m_X0_enact_16 l G K h1 h2 h3 h6 h7 h8 h9 h10 h11 h12 h13 p0 p1 _) (cwV 5 hts (wGV t_ (mw (.methodLink RX10 32 yX0_enact) (List.mem_of_getElem? (i := 1) rfl)) (mw (.instanceMethod yX0_enact) (List.mem_of_getElem? (i := 2) rfl)) (mw (.selects RX0 yX0_enact yX0_enact) (List.mem_of_getElem? (i := 3) rfl)) (mw (.initialized RX0) (List.mem_of_getElem? (i := 4) rfl)) j_X0_enact_16) rfl rfl rfl (by decide +kernel) ⟨Nat.le_of_ble_eq_true rfl, Nat.le_of_ble_eq_true rfl⟩) (wPV hK hE hPc hDc 0 0 rfl rfl) rfl rfl hl.1 rfl (lv_room (Nat.le_of_ble_eq_true rfl)) dX10_vote_10 ⟨Nat.le_of_ble_eq_true rfl, Nat.le_of_ble_eq_true rfl⟩) hP hD hS hA [1, 2, 3] [0] rfl rfl rfl (by decide) (fun r u H locs hw hP hD hS => ?_)
  rcases hw with ⟨rfl, rfl⟩
  have hP : va_P G vwCl [(h0, .inr (7, [.ref h1, .ref h4, .null, .null, .ref h5])), (h1, .inr (0, [.ref h2, .ref h3, .ref h6, .ref h7, .ref h8, .ref h9, .ref h10, .int 0, .int 0, .int 7, .null])), (h2, .inr (1, [.int 1, .ref h11, .int 0, .int (-1), .int 0, .int 0, .int (-1), .ref h12])), (h3, .inr (4, [.ref h13, .int 0]))] _ := hP
  have hD : va_D A [(h0, .inr (7, [.ref h1, .ref h4, .null, .null, .ref h5])), (h1, .inr (0, [.ref h2, .ref h3, .ref h6, .ref h7, .ref h8, .ref h9, .ref h10, .int 0, .int 0, .int 7, .null])), (h2, .inr (1, [.int 1, .ref h11, .int 0, .int (-1), .int 0, .int 0, .int (-1), .ref h12])), (h3, .inr (4, [.ref h13, .int 0]))] := hD
  have hP9 : va_P G vwCl [(h0, .inr (7, [.ref h1, .ref h4, .null, .null, .ref h5])), (h1, .inr (0, [.ref h2, .ref h3, .ref h6, .ref h7, .ref h8, .ref h9, .ref h10, .int 0, .int 0, .int 7, .null])), (h2, .inr (1, [.int 1, .ref h11, .int 0, .int (-1), .int 0, .int 0, .int (-1), .ref h12])), (h3, .inr (4, [.ref h13, .int 0]))] _ := hP
  have hD9 : va_D A [(h0, .inr (7, [.ref h1, .ref h4, .null, .null, .ref h5])), (h1, .inr (0, [.ref h2, .ref h3, .ref h6, .ref h7, .ref h8, .ref h9, .ref h10, .int 0, .int 0, .int 7, .null])), (h2, .inr (1, [.int 1, .ref h11, .int 0, .int (-1), .int 0, .int 0, .int (-1), .ref h12])), (h3, .inr (4, [.ref h13, .int 0]))] := hD
  exact W.iret (v := (-7)) hx hb hr (fun t ht hW => ⟨⟨(-7), _, rfl, ⟨rfl, rfl⟩, by rw [ht]; exact hP9, hD9⟩, hS.F ht⟩) hS.2.2 dX10_vote_13
def e_X11_reason_26 : List Cond := [.fieldLink RX11 115 "MotionFloorModel$Hall" "pending" "I"]
def v_X11_reason_26 : List Cond := .code yX11_reason cX11_reason 6 (some .int) :: (e_X11_reason_26 ++ (wsX110 ++ []))
theorem te_X11_reason_26 : GoodIn lw_tbl e_X11_reason_26 := wGc z202 (wG0)
theorem t_X11_reason_26 : GoodIn lw_tbl v_X11_reason_26 := wGc z355 (wGa te_X11_reason_26 (wGa zcX11 (wG0)))
set_option maxHeartbeats 4000000 in
set_option maxRecDepth 100000 in
theorem m_X11_reason_26 (l : Launch) (G : va_G) (K : Nat → ClassId) (h0 h1 h2 h3 h4 h5 h6 h7 h8 h9 h10 h11 h12 h13 h14 h15 h16 h17 h18 h19 h20 h21 h22 h23 h24 h25 h26 h27 : Nat) (p0 p1 : Int32) (sz : Nat) : Met l yX11_reason v_X11_reason_26 ({ frames := 0, cells := 0, slots := 0, locals := 0 }) (va_Pc [.ref h0, .int 17, .int p0, .int p1, .int 0, .int 0] (wS G K sz [(h0, .inr (8, [.int 1, .int 0, .int (-1), .int 0, .int 0, .int (-1), .int 0, .int 0, .int 0, .int 0, .int 0, .ref h1, .ref h2, .ref h3, .ref h4, .ref h5, .ref h6, .ref h7, .ref h8, .ref h9, .ref h10, .ref h11, .ref h12, .ref h13, .ref h14, .ref h15, .ref h16, .ref h17, .ref h18, .ref h19, .int 0, .ref h20, .ref h21, .ref h22, .ref h23, .int 0, .int 0, .ref h24, .ref h25, .int (-1), .ref h26, .ref h27]))])) (va_Qi (fun (r : Int32) (u : va_W) => (7 = r ∧ u = [(h0, .inr (8, [.int 1, .int 0, .int (-1), .int 0, .int 0, .int (-1), .int 0, .int 0, .int 0, .int 0, .int 0, .ref h1, .ref h2, .ref h3, .ref h4, .ref h5, .ref h6, .ref h7, .ref h8, .ref h9, .ref h10, .ref h11, .ref h12, .ref h13, .ref h14, .ref h15, .ref h16, .ref h17, .ref h18, .ref h19, .int 0, .ref h20, .ref h21, .ref h22, .ref h23, .int 0, .int 0, .ref h24, .ref h25, .int (-1), .ref h26, .ref h27]))])) (wB G (va_A [(h0, .inr (8, [.int 1, .int 0, .int (-1), .int 0, .int 0, .int (-1), .int 0, .int 0, .int 0, .int 0, .int 0, .ref h1, .ref h2, .ref h3, .ref h4, .ref h5, .ref h6, .ref h7, .ref h8, .ref h9, .ref h10, .ref h11, .ref h12, .ref h13, .ref h14, .ref h15, .ref h16, .ref h17, .ref h18, .ref h19, .int 0, .ref h20, .ref h21, .ref h22, .ref h23, .int 0, .int 0, .ref h24, .ref h25, .int (-1), .ref h26, .ref h27]))] sz)) (va_A [(h0, .inr (8, [.int 1, .int 0, .int (-1), .int 0, .int 0, .int (-1), .int 0, .int 0, .int 0, .int 0, .int 0, .ref h1, .ref h2, .ref h3, .ref h4, .ref h5, .ref h6, .ref h7, .ref h8, .ref h9, .ref h10, .ref h11, .ref h12, .ref h13, .ref h14, .ref h15, .ref h16, .ref h17, .ref h18, .ref h19, .int 0, .ref h20, .ref h21, .ref h22, .ref h23, .int 0, .int 0, .ref h24, .ref h25, .int (-1), .ref h26, .ref h27]))] sz)) 0 0 (va_A [(h0, .inr (8, [.int 1, .int 0, .int (-1), .int 0, .int 0, .int (-1), .int 0, .int 0, .int 0, .int 0, .int 0, .ref h1, .ref h2, .ref h3, .ref h4, .ref h5, .ref h6, .ref h7, .ref h8, .ref h9, .ref h10, .ref h11, .ref h12, .ref h13, .ref h14, .ref h15, .ref h16, .ref h17, .ref h18, .ref h19, .int 0, .ref h20, .ref h21, .ref h22, .ref h23, .int 0, .int 0, .ref h24, .ref h25, .int (-1), .ref h26, .ref h27]))] sz) := by
  refine Met.ofW (cc := cX11_reason) (maxL := 6) (ret := (some .int)) (by decide) rfl ?_
  intro p e s m args below meth c s₁ B hml hv
  obtain ⟨rfl, hsz, hP, hK, hD0, hE⟩ := hv
  have hx := B.exec
  have hb := B.bytes
  have hr := B.returns
  have hts := atoms_spec (ws := v_X11_reason_26) B.pre
  have t_ := t_X11_reason_26
  have mw : ∀ w ∈ e_X11_reason_26, w ∈ v_X11_reason_26 := fun w h => List.mem_cons_of_mem _ (List.mem_append_left _ h)
  have hw := fun w (h : w ∈ e_X11_reason_26) => hts w (mw w h)
  have iX11 : ∀ w ∈ wsX110, w ∈ v_X11_reason_26 := fun w h => List.mem_cons_of_mem _ (List.mem_append_right _ (List.mem_append_left _ h))
  have hown : s.vm.findClass RX11 = some m.cls := findClass_of_methodNamed B.named
  have hlocks := B.notSynchronized
  subst hsz
  have hD := hD0.self (sz := s.heap.size)
  generalize hAe : va_A [(h0, .inr (8, [.int 1, .int 0, .int (-1), .int 0, .int 0, .int (-1), .int 0, .int 0, .int 0, .int 0, .int 0, .ref h1, .ref h2, .ref h3, .ref h4, .ref h5, .ref h6, .ref h7, .ref h8, .ref h9, .ref h10, .ref h11, .ref h12, .ref h13, .ref h14, .ref h15, .ref h16, .ref h17, .ref h18, .ref h19, .int 0, .ref h20, .ref h21, .ref h22, .ref h23, .int 0, .int 0, .ref h24, .ref h25, .int (-1), .ref h26, .ref h27]))] s.heap.size = A at hD ⊢
  have hA : ∀ q : Nat, s.heap.size ≤ q → A q := fun q h => by rw [← hAe]; exact Or.inr h
  have hS : va_S A s.heap s.heap [] := va_S.rf
  have hP : va_P G vwCl [(h0, .inr (8, [.int 1, .int 0, .int (-1), .int 0, .int 0, .int (-1), .int 0, .int 0, .int 0, .int 0, .int 0, .ref h1, .ref h2, .ref h3, .ref h4, .ref h5, .ref h6, .ref h7, .ref h8, .ref h9, .ref h10, .ref h11, .ref h12, .ref h13, .ref h14, .ref h15, .ref h16, .ref h17, .ref h18, .ref h19, .int 0, .ref h20, .ref h21, .ref h22, .ref h23, .int 0, .int 0, .ref h24, .ref h25, .int (-1), .ref h26, .ref h27]))] s.heap := hP
  have hl := lv_entry ([.ref h0, .int 17, .int p0, .int p1, .int 0, .int 0]) (n := 6) (Nat.le_of_ble_eq_true rfl)
  rw [lg_entry_eq]
  generalize (lg_sl ([.ref h0, .int 17, .int p0, .int p1, .int 0, .int 0]) ++ List.replicate (6 - (lg_sl ([.ref h0, .int 17, .int p0, .int p1, .int 0, .int 0])).length) Slot.unset).toArray = ls at hl ⊢
  have hl : lv_has ls 6 [(0, .ref h0), (1, .int 17), (2, .int p0), (3, .int p1), (4, .int 0), (5, .int 0)] := hl
  refine lv_iload_n hx hb dX11_reason_0 rfl (lv_at hl 1 rfl) ?_
  refine lv_tableIn (off := 660) (tgt := 661) hx hb dX11_reason_1 (by decide) (by decide) (by decide) (by decide) ?_
  refine lv_aload_n hx hb dX11_reason_661 rfl (lv_at hl 0 rfl) ?_
  refine va_get (D := G) (ci := 8) (v := .int 0) (C := RX11) (T := TX11) (N := 42) hx hb hts iX11 hown hK hP 0 rfl rfl 6 (by decide) (hw (.fieldLink RX11 115 "MotionFloorModel$Hall" "pending" "I") (List.mem_of_getElem? (i := 0) rfl)) (fun _ h9 => h9) rfl dX11_reason_662 ?_
  refine lv_if_ne (tgt := 671) hx hb dX11_reason_665 (by decide) (fun c_ => absurd c_ (by decide)) (fun _ => ?_)
  refine lv_bipush (v := 7) hx hb dX11_reason_668 (by decide) ?_
  have hP9 : va_P G vwCl [(h0, .inr (8, [.int 1, .int 0, .int (-1), .int 0, .int 0, .int (-1), .int 0, .int 0, .int 0, .int 0, .int 0, .ref h1, .ref h2, .ref h3, .ref h4, .ref h5, .ref h6, .ref h7, .ref h8, .ref h9, .ref h10, .ref h11, .ref h12, .ref h13, .ref h14, .ref h15, .ref h16, .ref h17, .ref h18, .ref h19, .int 0, .ref h20, .ref h21, .ref h22, .ref h23, .int 0, .int 0, .ref h24, .ref h25, .int (-1), .ref h26, .ref h27]))] _ := hP
  have hD9 : va_D A [(h0, .inr (8, [.int 1, .int 0, .int (-1), .int 0, .int 0, .int (-1), .int 0, .int 0, .int 0, .int 0, .int 0, .ref h1, .ref h2, .ref h3, .ref h4, .ref h5, .ref h6, .ref h7, .ref h8, .ref h9, .ref h10, .ref h11, .ref h12, .ref h13, .ref h14, .ref h15, .ref h16, .ref h17, .ref h18, .ref h19, .int 0, .ref h20, .ref h21, .ref h22, .ref h23, .int 0, .int 0, .ref h24, .ref h25, .int (-1), .ref h26, .ref h27]))] := hD
  exact W.iret (v := 7) hx hb hr (fun t ht hW => ⟨⟨7, _, rfl, ⟨rfl, rfl⟩, by rw [ht]; exact hP9, hD9⟩, hS.F ht⟩) hS.2.2 dX11_reason_670
def e_X11_act_26 : List Cond := [.methodLink RX11 196 yX11_reason, .instanceMethod yX11_reason, .selects RX11 yX11_reason yX11_reason, .initialized RX11, .fieldLink RX11 127 "MotionFloorModel$Hall" "why" "I"]
def v_X11_act_26 : List Cond := .code yX11_act cX11_act 10 (some .int) :: (e_X11_act_26 ++ (wsX110 ++ (v_X11_reason_26 ++ [])))
theorem te_X11_act_26 : GoodIn lw_tbl e_X11_act_26 := wGc z364 (wGc z363 (wGc z362 (wGc z227 (wGc z198 (wG0)))))
theorem t_X11_act_26 : GoodIn lw_tbl v_X11_act_26 := wGc z365 (wGa te_X11_act_26 (wGa zcX11 (wGa t_X11_reason_26 (wG0))))
set_option maxHeartbeats 4000000 in
set_option maxRecDepth 100000 in
theorem m_X11_act_26 (l : Launch) (G : va_G) (K : Nat → ClassId) (h0 h1 h2 h3 h4 h5 h6 h7 h8 h9 h10 h11 h12 h13 h14 h15 h16 h17 h18 h19 h20 h21 h22 h23 h24 h25 h26 h27 : Nat) (p0 p1 : Int32) (sz : Nat) : Met l yX11_act v_X11_act_26 ({ frames := 1, cells := 0, slots := 0, locals := 25 }) (va_Pc [.ref h0, .int 17, .int p0, .int p1, .int 0, .int 0] (wS G K sz [(h0, .inr (8, [.int 1, .int 0, .int (-1), .int 0, .int 0, .int (-1), .int 0, .int 0, .int 0, .int 0, .int 0, .ref h1, .ref h2, .ref h3, .ref h4, .ref h5, .ref h6, .ref h7, .ref h8, .ref h9, .ref h10, .ref h11, .ref h12, .ref h13, .ref h14, .ref h15, .ref h16, .ref h17, .ref h18, .ref h19, .int 0, .ref h20, .ref h21, .ref h22, .ref h23, .int 0, .int 0, .ref h24, .ref h25, .int (-1), .ref h26, .ref h27]))])) (va_Qi (fun (r : Int32) (u : va_W) => ((-7) = r ∧ u = [(h0, .inr (8, [.int 1, .int 0, .int (-1), .int 0, .int 0, .int (-1), .int 0, .int 0, .int 0, .int 0, .int 7, .ref h1, .ref h2, .ref h3, .ref h4, .ref h5, .ref h6, .ref h7, .ref h8, .ref h9, .ref h10, .ref h11, .ref h12, .ref h13, .ref h14, .ref h15, .ref h16, .ref h17, .ref h18, .ref h19, .int 0, .ref h20, .ref h21, .ref h22, .ref h23, .int 0, .int 0, .ref h24, .ref h25, .int (-1), .ref h26, .ref h27]))])) (wB G (va_A [(h0, .inr (8, [.int 1, .int 0, .int (-1), .int 0, .int 0, .int (-1), .int 0, .int 0, .int 0, .int 0, .int 0, .ref h1, .ref h2, .ref h3, .ref h4, .ref h5, .ref h6, .ref h7, .ref h8, .ref h9, .ref h10, .ref h11, .ref h12, .ref h13, .ref h14, .ref h15, .ref h16, .ref h17, .ref h18, .ref h19, .int 0, .ref h20, .ref h21, .ref h22, .ref h23, .int 0, .int 0, .ref h24, .ref h25, .int (-1), .ref h26, .ref h27]))] sz)) (va_A [(h0, .inr (8, [.int 1, .int 0, .int (-1), .int 0, .int 0, .int (-1), .int 0, .int 0, .int 0, .int 0, .int 0, .ref h1, .ref h2, .ref h3, .ref h4, .ref h5, .ref h6, .ref h7, .ref h8, .ref h9, .ref h10, .ref h11, .ref h12, .ref h13, .ref h14, .ref h15, .ref h16, .ref h17, .ref h18, .ref h19, .int 0, .ref h20, .ref h21, .ref h22, .ref h23, .int 0, .int 0, .ref h24, .ref h25, .int (-1), .ref h26, .ref h27]))] sz)) 0 0 (va_A [(h0, .inr (8, [.int 1, .int 0, .int (-1), .int 0, .int 0, .int (-1), .int 0, .int 0, .int 0, .int 0, .int 0, .ref h1, .ref h2, .ref h3, .ref h4, .ref h5, .ref h6, .ref h7, .ref h8, .ref h9, .ref h10, .ref h11, .ref h12, .ref h13, .ref h14, .ref h15, .ref h16, .ref h17, .ref h18, .ref h19, .int 0, .ref h20, .ref h21, .ref h22, .ref h23, .int 0, .int 0, .ref h24, .ref h25, .int (-1), .ref h26, .ref h27]))] sz) := by
  refine Met.ofW (cc := cX11_act) (maxL := 10) (ret := (some .int)) (by decide) rfl ?_
  intro p e s m args below meth c s₁ B hml hv
  obtain ⟨rfl, hsz, hP, hK, hD0, hE⟩ := hv
  have hx := B.exec
  have hb := B.bytes
  have hr := B.returns
  have hts := atoms_spec (ws := v_X11_act_26) B.pre
  have t_ := t_X11_act_26
  have mw : ∀ w ∈ e_X11_act_26, w ∈ v_X11_act_26 := fun w h => List.mem_cons_of_mem _ (List.mem_append_left _ h)
  have hw := fun w (h : w ∈ e_X11_act_26) => hts w (mw w h)
  have iX11 : ∀ w ∈ wsX110, w ∈ v_X11_act_26 := fun w h => List.mem_cons_of_mem _ (List.mem_append_right _ (List.mem_append_left _ h))
  have j_X11_reason_26 : ∀ w ∈ v_X11_reason_26, w ∈ v_X11_act_26 := fun w h => List.mem_cons_of_mem _ (List.mem_append_right _ (List.mem_append_right _ (List.mem_append_left _ h)))
  have hown : s.vm.findClass RX11 = some m.cls := findClass_of_methodNamed B.named
  have hlocks := B.notSynchronized
  subst hsz
  have hD := hD0.self (sz := s.heap.size)
  generalize hAe : va_A [(h0, .inr (8, [.int 1, .int 0, .int (-1), .int 0, .int 0, .int (-1), .int 0, .int 0, .int 0, .int 0, .int 0, .ref h1, .ref h2, .ref h3, .ref h4, .ref h5, .ref h6, .ref h7, .ref h8, .ref h9, .ref h10, .ref h11, .ref h12, .ref h13, .ref h14, .ref h15, .ref h16, .ref h17, .ref h18, .ref h19, .int 0, .ref h20, .ref h21, .ref h22, .ref h23, .int 0, .int 0, .ref h24, .ref h25, .int (-1), .ref h26, .ref h27]))] s.heap.size = A at hD ⊢
  have hA : ∀ q : Nat, s.heap.size ≤ q → A q := fun q h => by rw [← hAe]; exact Or.inr h
  have hS : va_S A s.heap s.heap [] := va_S.rf
  have hP : va_P G vwCl [(h0, .inr (8, [.int 1, .int 0, .int (-1), .int 0, .int 0, .int (-1), .int 0, .int 0, .int 0, .int 0, .int 0, .ref h1, .ref h2, .ref h3, .ref h4, .ref h5, .ref h6, .ref h7, .ref h8, .ref h9, .ref h10, .ref h11, .ref h12, .ref h13, .ref h14, .ref h15, .ref h16, .ref h17, .ref h18, .ref h19, .int 0, .ref h20, .ref h21, .ref h22, .ref h23, .int 0, .int 0, .ref h24, .ref h25, .int (-1), .ref h26, .ref h27]))] s.heap := hP
  have hl := lv_entry ([.ref h0, .int 17, .int p0, .int p1, .int 0, .int 0]) (n := 10) (Nat.le_of_ble_eq_true rfl)
  rw [lg_entry_eq]
  generalize (lg_sl ([.ref h0, .int 17, .int p0, .int p1, .int 0, .int 0]) ++ List.replicate (10 - (lg_sl ([.ref h0, .int 17, .int p0, .int p1, .int 0, .int 0])).length) Slot.unset).toArray = ls at hl ⊢
  have hl : lv_has ls 10 [(0, .ref h0), (1, .int 17), (2, .int p0), (3, .int p1), (4, .int 0), (5, .int 0)] := hl
  refine lv_aload_n hx hb dX11_act_0 rfl (lv_at hl 0 rfl) ?_
  refine lv_iload_n hx hb dX11_act_1 rfl (lv_at hl 1 rfl) ?_
  refine lv_iload_n hx hb dX11_act_2 rfl (lv_at hl 2 rfl) ?_
  refine lv_iload_n hx hb dX11_act_3 rfl (lv_at hl 3 rfl) ?_
  refine lv_iload hx hb dX11_act_4 (lv_at hl 4 rfl) ?_
  refine lv_iload hx hb dX11_act_6 (lv_at hl 5 rfl) ?_
  have hPc := hP.sub (ws' := [(h0, .inr (8, [.int 1, .int 0, .int (-1), .int 0, .int 0, .int (-1), .int 0, .int 0, .int 0, .int 0, .int 0, .ref h1, .ref h2, .ref h3, .ref h4, .ref h5, .ref h6, .ref h7, .ref h8, .ref h9, .ref h10, .ref h11, .ref h12, .ref h13, .ref h14, .ref h15, .ref h16, .ref h17, .ref h18, .ref h19, .int 0, .ref h20, .ref h21, .ref h22, .ref h23, .int 0, .int 0, .ref h24, .ref h25, .int (-1), .ref h26, .ref h27]))]) [0] rfl
  have hDc := hD.sub (ws' := [(h0, .inr (8, [.int 1, .int 0, .int (-1), .int 0, .int 0, .int (-1), .int 0, .int 0, .int 0, .int 0, .int 0, .ref h1, .ref h2, .ref h3, .ref h4, .ref h5, .ref h6, .ref h7, .ref h8, .ref h9, .ref h10, .ref h11, .ref h12, .ref h13, .ref h14, .ref h15, .ref h16, .ref h17, .ref h18, .ref h19, .int 0, .ref h20, .ref h21, .ref h22, .ref h23, .int 0, .int 0, .ref h24, .ref h25, .int (-1), .ref h26, .ref h27]))]) [0] (by decide) rfl
  refine wGoi (wc := [(h0, .inr (8, [.int 1, .int 0, .int (-1), .int 0, .int 0, .int (-1), .int 0, .int 0, .int 0, .int 0, .int 0, .ref h1, .ref h2, .ref h3, .ref h4, .ref h5, .ref h6, .ref h7, .ref h8, .ref h9, .ref h10, .ref h11, .ref h12, .ref h13, .ref h14, .ref h15, .ref h16, .ref h17, .ref h18, .ref h19, .int 0, .ref h20, .ref h21, .ref h22, .ref h23, .int 0, .int 0, .ref h24, .ref h25, .int (-1), .ref h26, .ref h27]))]) (wr := []) (va_runV (As := [.int 17, .int p0, .int p1, .int 0, .int 0]) (rest := []) ⟨hx, hb, hml, hown, hts⟩ (m_X11_reason_26 l G K h0 h1 h2 h3 h4 h5 h6 h7 h8 h9 h10 h11 h12 h13 h14 h15 h16 h17 h18 h19 h20 h21 h22 h23 h24 h25 h26 h27 p0 p1 _) (cwV 5 hts (wGV t_ (mw (.methodLink RX11 196 yX11_reason) (List.mem_of_getElem? (i := 0) rfl)) (mw (.instanceMethod yX11_reason) (List.mem_of_getElem? (i := 1) rfl)) (mw (.selects RX11 yX11_reason yX11_reason) (List.mem_of_getElem? (i := 2) rfl)) (mw (.initialized RX11) (List.mem_of_getElem? (i := 3) rfl)) j_X11_reason_26) rfl rfl rfl (by decide +kernel) ⟨Nat.le_of_ble_eq_true rfl, Nat.le_of_ble_eq_true rfl⟩) (wPV hK hE hPc hDc 8 0 rfl rfl) rfl rfl hl.1 rfl (lv_room (Nat.le_of_ble_eq_true rfl)) dX11_act_8 ⟨Nat.le_of_ble_eq_true rfl, Nat.le_of_ble_eq_true rfl⟩) hP hD hS hA [0] [] rfl rfl rfl (by decide) (fun r u H locs hw hP hD hS => ?_)
  rcases hw with ⟨rfl, rfl⟩
  have hP : va_P G vwCl [(h0, .inr (8, [.int 1, .int 0, .int (-1), .int 0, .int 0, .int (-1), .int 0, .int 0, .int 0, .int 0, .int 0, .ref h1, .ref h2, .ref h3, .ref h4, .ref h5, .ref h6, .ref h7, .ref h8, .ref h9, .ref h10, .ref h11, .ref h12, .ref h13, .ref h14, .ref h15, .ref h16, .ref h17, .ref h18, .ref h19, .int 0, .ref h20, .ref h21, .ref h22, .ref h23, .int 0, .int 0, .ref h24, .ref h25, .int (-1), .ref h26, .ref h27]))] _ := hP
  have hD : va_D A [(h0, .inr (8, [.int 1, .int 0, .int (-1), .int 0, .int 0, .int (-1), .int 0, .int 0, .int 0, .int 0, .int 0, .ref h1, .ref h2, .ref h3, .ref h4, .ref h5, .ref h6, .ref h7, .ref h8, .ref h9, .ref h10, .ref h11, .ref h12, .ref h13, .ref h14, .ref h15, .ref h16, .ref h17, .ref h18, .ref h19, .int 0, .ref h20, .ref h21, .ref h22, .ref h23, .int 0, .int 0, .ref h24, .ref h25, .int (-1), .ref h26, .ref h27]))] := hD
  refine lv_istore (lv' := [(6, .int 7), (0, .ref h0), (1, .int 17), (2, .int p0), (3, .int p1), (4, .int 0), (5, .int 0)]) hx hb dX11_act_11 hl (by decide) rfl (fun ls hl => ?_)
  refine lv_iload hx hb dX11_act_13 (lv_at hl 0 rfl) ?_
  refine lv_if_ne (tgt := 32) hx hb dX11_act_15 (by decide) (fun _ => ?_) (fun c_ => absurd c_ (by decide))
  refine lv_aload_n hx hb dX11_act_32 rfl (lv_at hl 1 rfl) ?_
  refine lv_iload hx hb dX11_act_33 (lv_at hl 0 rfl) ?_
  refine va_put (D := G) (ci := 8) (v := .int 7) (ty := .int) (C := RX11) (T := TX11) (N := 42) hx hb hts iX11 tyX11 tyX11_ok nmX11 hown hK hP hD hS 0 rfl rfl 10 (by decide) (hw (.fieldLink RX11 127 "MotionFloorModel$Hall" "why" "I") (List.mem_of_getElem? (i := 4) rfl)) (fun _ h9 => h9) rfl (by decide +kernel) rfl rfl (Nat.le_of_ble_eq_true rfl) dX11_act_35 (fun H locs hP hD hS => ?_)
  have hP : va_P G vwCl [(h0, .inr (8, [.int 1, .int 0, .int (-1), .int 0, .int 0, .int (-1), .int 0, .int 0, .int 0, .int 0, .int 7, .ref h1, .ref h2, .ref h3, .ref h4, .ref h5, .ref h6, .ref h7, .ref h8, .ref h9, .ref h10, .ref h11, .ref h12, .ref h13, .ref h14, .ref h15, .ref h16, .ref h17, .ref h18, .ref h19, .int 0, .ref h20, .ref h21, .ref h22, .ref h23, .int 0, .int 0, .ref h24, .ref h25, .int (-1), .ref h26, .ref h27]))] _ := hP
  have hD : va_D A [(h0, .inr (8, [.int 1, .int 0, .int (-1), .int 0, .int 0, .int (-1), .int 0, .int 0, .int 0, .int 0, .int 7, .ref h1, .ref h2, .ref h3, .ref h4, .ref h5, .ref h6, .ref h7, .ref h8, .ref h9, .ref h10, .ref h11, .ref h12, .ref h13, .ref h14, .ref h15, .ref h16, .ref h17, .ref h18, .ref h19, .int 0, .ref h20, .ref h21, .ref h22, .ref h23, .int 0, .int 0, .ref h24, .ref h25, .int (-1), .ref h26, .ref h27]))] := hD
  refine lv_iload hx hb dX11_act_38 (lv_at hl 0 rfl) ?_
  refine lv_if_le (tgt := 47) hx hb dX11_act_40 (by decide) (fun c_ => absurd c_ (by decide)) (fun _ => ?_)
  refine lv_iload hx hb dX11_act_43 (lv_at hl 0 rfl) ?_
  refine lv_ineg hx hb dX11_act_45 ?_
  refine wTop (v1 := .int (-7)) (congrArg Value.int (by decide)) ?_
  have hP9 : va_P G vwCl [(h0, .inr (8, [.int 1, .int 0, .int (-1), .int 0, .int 0, .int (-1), .int 0, .int 0, .int 0, .int 0, .int 7, .ref h1, .ref h2, .ref h3, .ref h4, .ref h5, .ref h6, .ref h7, .ref h8, .ref h9, .ref h10, .ref h11, .ref h12, .ref h13, .ref h14, .ref h15, .ref h16, .ref h17, .ref h18, .ref h19, .int 0, .ref h20, .ref h21, .ref h22, .ref h23, .int 0, .int 0, .ref h24, .ref h25, .int (-1), .ref h26, .ref h27]))] _ := hP
  have hD9 : va_D A [(h0, .inr (8, [.int 1, .int 0, .int (-1), .int 0, .int 0, .int (-1), .int 0, .int 0, .int 0, .int 0, .int 7, .ref h1, .ref h2, .ref h3, .ref h4, .ref h5, .ref h6, .ref h7, .ref h8, .ref h9, .ref h10, .ref h11, .ref h12, .ref h13, .ref h14, .ref h15, .ref h16, .ref h17, .ref h18, .ref h19, .int 0, .ref h20, .ref h21, .ref h22, .ref h23, .int 0, .int 0, .ref h24, .ref h25, .int (-1), .ref h26, .ref h27]))] := hD
  exact W.iret (v := (-7)) hx hb hr (fun t ht hW => ⟨⟨(-7), _, rfl, ⟨rfl, rfl⟩, by rw [ht]; exact hP9, hD9⟩, hS.F ht⟩) hS.2.2 dX11_act_46
def e_X12_vote_0 : List Cond := [.fieldLink RX12 16 "MotionFloorModel" "hall" "LMotionFloorModel$Hall;", .methodLink RX12 40 yX11_act, .instanceMethod yX11_act, .selects RX11 yX11_act yX11_act, .initialized RX11]
def v_X12_vote_0 : List Cond := .code yX12_vote cX12_vote 3 (some .int) :: (e_X12_vote_0 ++ (wsX120 ++ (v_X11_act_26 ++ [])))
theorem te_X12_vote_0 : GoodIn lw_tbl e_X12_vote_0 := wGc z225 (wGc z368 (wGc z367 (wGc z366 (wGc z227 (wG0)))))
theorem t_X12_vote_0 : GoodIn lw_tbl v_X12_vote_0 := wGc z632 (wGa te_X12_vote_0 (wGa zcX12 (wGa t_X11_act_26 (wG0))))
set_option maxHeartbeats 4000000 in
set_option maxRecDepth 100000 in
theorem m_X12_vote_0 (l : Launch) (G : va_G) (K : Nat → ClassId) (h0 h1 h2 h3 h4 h5 h6 h7 h8 h9 h10 h11 h12 h13 h14 h15 h16 h17 h18 h19 h20 h21 h22 h23 h24 h25 h26 h27 h28 h29 h30 h31 h32 h33 : Nat) (p0 p1 : Int32) (sz : Nat) : Met l yX12_vote v_X12_vote_0 ({ frames := 2, cells := 0, slots := 0, locals := 54 }) (va_Pc [.ref h0, .int p0, .int p1] (wS G K sz [(h0, .inr (9, [.ref h1, .ref h2, .ref h3, .ref h4, .ref h5, .ref h6, .int 0])), (h1, .inr (8, [.int 1, .int 0, .int (-1), .int 0, .int 0, .int (-1), .int 0, .int 0, .int 0, .int 0, .int 0, .ref h7, .ref h8, .ref h9, .ref h10, .ref h11, .ref h12, .ref h13, .ref h14, .ref h15, .ref h16, .ref h17, .ref h18, .ref h19, .ref h20, .ref h21, .ref h22, .ref h23, .ref h24, .ref h25, .int 0, .ref h26, .ref h27, .ref h28, .ref h29, .int 0, .int 0, .ref h30, .ref h31, .int (-1), .ref h32, .ref h33]))])) (va_Qi (fun (r : Int32) (u : va_W) => ((-7) = r ∧ u = [(h0, .inr (9, [.ref h1, .ref h2, .ref h3, .ref h4, .ref h5, .ref h6, .int 0])), (h1, .inr (8, [.int 1, .int 0, .int (-1), .int 0, .int 0, .int (-1), .int 0, .int 0, .int 0, .int 0, .int 7, .ref h7, .ref h8, .ref h9, .ref h10, .ref h11, .ref h12, .ref h13, .ref h14, .ref h15, .ref h16, .ref h17, .ref h18, .ref h19, .ref h20, .ref h21, .ref h22, .ref h23, .ref h24, .ref h25, .int 0, .ref h26, .ref h27, .ref h28, .ref h29, .int 0, .int 0, .ref h30, .ref h31, .int (-1), .ref h32, .ref h33]))])) (wB G (va_A [(h0, .inr (9, [.ref h1, .ref h2, .ref h3, .ref h4, .ref h5, .ref h6, .int 0])), (h1, .inr (8, [.int 1, .int 0, .int (-1), .int 0, .int 0, .int (-1), .int 0, .int 0, .int 0, .int 0, .int 0, .ref h7, .ref h8, .ref h9, .ref h10, .ref h11, .ref h12, .ref h13, .ref h14, .ref h15, .ref h16, .ref h17, .ref h18, .ref h19, .ref h20, .ref h21, .ref h22, .ref h23, .ref h24, .ref h25, .int 0, .ref h26, .ref h27, .ref h28, .ref h29, .int 0, .int 0, .ref h30, .ref h31, .int (-1), .ref h32, .ref h33]))] sz)) (va_A [(h0, .inr (9, [.ref h1, .ref h2, .ref h3, .ref h4, .ref h5, .ref h6, .int 0])), (h1, .inr (8, [.int 1, .int 0, .int (-1), .int 0, .int 0, .int (-1), .int 0, .int 0, .int 0, .int 0, .int 0, .ref h7, .ref h8, .ref h9, .ref h10, .ref h11, .ref h12, .ref h13, .ref h14, .ref h15, .ref h16, .ref h17, .ref h18, .ref h19, .ref h20, .ref h21, .ref h22, .ref h23, .ref h24, .ref h25, .int 0, .ref h26, .ref h27, .ref h28, .ref h29, .int 0, .int 0, .ref h30, .ref h31, .int (-1), .ref h32, .ref h33]))] sz)) 0 0 (va_A [(h0, .inr (9, [.ref h1, .ref h2, .ref h3, .ref h4, .ref h5, .ref h6, .int 0])), (h1, .inr (8, [.int 1, .int 0, .int (-1), .int 0, .int 0, .int (-1), .int 0, .int 0, .int 0, .int 0, .int 0, .ref h7, .ref h8, .ref h9, .ref h10, .ref h11, .ref h12, .ref h13, .ref h14, .ref h15, .ref h16, .ref h17, .ref h18, .ref h19, .ref h20, .ref h21, .ref h22, .ref h23, .ref h24, .ref h25, .int 0, .ref h26, .ref h27, .ref h28, .ref h29, .int 0, .int 0, .ref h30, .ref h31, .int (-1), .ref h32, .ref h33]))] sz) := by
  refine Met.ofW (cc := cX12_vote) (maxL := 3) (ret := (some .int)) (by decide) rfl ?_
  intro p e s m args below meth c s₁ B hml hv
  obtain ⟨rfl, hsz, hP, hK, hD0, hE⟩ := hv
  have hx := B.exec
  have hb := B.bytes
  have hr := B.returns
  have hts := atoms_spec (ws := v_X12_vote_0) B.pre
  have t_ := t_X12_vote_0
  have mw : ∀ w ∈ e_X12_vote_0, w ∈ v_X12_vote_0 := fun w h => List.mem_cons_of_mem _ (List.mem_append_left _ h)
  have hw := fun w (h : w ∈ e_X12_vote_0) => hts w (mw w h)
  have iX12 : ∀ w ∈ wsX120, w ∈ v_X12_vote_0 := fun w h => List.mem_cons_of_mem _ (List.mem_append_right _ (List.mem_append_left _ h))
  have j_X11_act_26 : ∀ w ∈ v_X11_act_26, w ∈ v_X12_vote_0 := fun w h => List.mem_cons_of_mem _ (List.mem_append_right _ (List.mem_append_right _ (List.mem_append_left _ h)))
  have hown : s.vm.findClass RX12 = some m.cls := findClass_of_methodNamed B.named
  have hlocks := B.notSynchronized
  subst hsz
  have hD := hD0.self (sz := s.heap.size)
  generalize hAe : va_A [(h0, .inr (9, [.ref h1, .ref h2, .ref h3, .ref h4, .ref h5, .ref h6, .int 0])), (h1, .inr (8, [.int 1, .int 0, .int (-1), .int 0, .int 0, .int (-1), .int 0, .int 0, .int 0, .int 0, .int 0, .ref h7, .ref h8, .ref h9, .ref h10, .ref h11, .ref h12, .ref h13, .ref h14, .ref h15, .ref h16, .ref h17, .ref h18, .ref h19, .ref h20, .ref h21, .ref h22, .ref h23, .ref h24, .ref h25, .int 0, .ref h26, .ref h27, .ref h28, .ref h29, .int 0, .int 0, .ref h30, .ref h31, .int (-1), .ref h32, .ref h33]))] s.heap.size = A at hD ⊢
  have hA : ∀ q : Nat, s.heap.size ≤ q → A q := fun q h => by rw [← hAe]; exact Or.inr h
  have hS : va_S A s.heap s.heap [] := va_S.rf
  have hP : va_P G vwCl [(h0, .inr (9, [.ref h1, .ref h2, .ref h3, .ref h4, .ref h5, .ref h6, .int 0])), (h1, .inr (8, [.int 1, .int 0, .int (-1), .int 0, .int 0, .int (-1), .int 0, .int 0, .int 0, .int 0, .int 0, .ref h7, .ref h8, .ref h9, .ref h10, .ref h11, .ref h12, .ref h13, .ref h14, .ref h15, .ref h16, .ref h17, .ref h18, .ref h19, .ref h20, .ref h21, .ref h22, .ref h23, .ref h24, .ref h25, .int 0, .ref h26, .ref h27, .ref h28, .ref h29, .int 0, .int 0, .ref h30, .ref h31, .int (-1), .ref h32, .ref h33]))] s.heap := hP
  have hl := lv_entry ([.ref h0, .int p0, .int p1]) (n := 3) (Nat.le_of_ble_eq_true rfl)
  rw [lg_entry_eq]
  generalize (lg_sl ([.ref h0, .int p0, .int p1]) ++ List.replicate (3 - (lg_sl ([.ref h0, .int p0, .int p1])).length) Slot.unset).toArray = ls at hl ⊢
  have hl : lv_has ls 3 [(0, .ref h0), (1, .int p0), (2, .int p1)] := hl
  refine lv_aload_n hx hb dX12_vote_0 rfl (lv_at hl 0 rfl) ?_
  refine va_get (D := G) (ci := 9) (v := .ref h1) (C := RX12) (T := TX12) (N := 7) hx hb hts iX12 hown hK hP 0 rfl rfl 0 (by decide) (hw (.fieldLink RX12 16 "MotionFloorModel" "hall" "LMotionFloorModel$Hall;") (List.mem_of_getElem? (i := 0) rfl)) (fun _ h9 => h9) rfl dX12_vote_1 ?_
  refine lv_bipush (v := 17) hx hb dX12_vote_4 (by decide) ?_
  refine lv_iload_n hx hb dX12_vote_6 rfl (lv_at hl 1 rfl) ?_
  refine lv_iload_n hx hb dX12_vote_7 rfl (lv_at hl 2 rfl) ?_
  refine lv_iconst (v := 0) hx hb dX12_vote_8 (by decide) ?_
  refine lv_iconst (v := 0) hx hb dX12_vote_9 (by decide) ?_
  have hPc := hP.sub (ws' := [(h1, .inr (8, [.int 1, .int 0, .int (-1), .int 0, .int 0, .int (-1), .int 0, .int 0, .int 0, .int 0, .int 0, .ref h7, .ref h8, .ref h9, .ref h10, .ref h11, .ref h12, .ref h13, .ref h14, .ref h15, .ref h16, .ref h17, .ref h18, .ref h19, .ref h20, .ref h21, .ref h22, .ref h23, .ref h24, .ref h25, .int 0, .ref h26, .ref h27, .ref h28, .ref h29, .int 0, .int 0, .ref h30, .ref h31, .int (-1), .ref h32, .ref h33]))]) [1] rfl
  have hDc := hD.sub (ws' := [(h1, .inr (8, [.int 1, .int 0, .int (-1), .int 0, .int 0, .int (-1), .int 0, .int 0, .int 0, .int 0, .int 0, .ref h7, .ref h8, .ref h9, .ref h10, .ref h11, .ref h12, .ref h13, .ref h14, .ref h15, .ref h16, .ref h17, .ref h18, .ref h19, .ref h20, .ref h21, .ref h22, .ref h23, .ref h24, .ref h25, .int 0, .ref h26, .ref h27, .ref h28, .ref h29, .int 0, .int 0, .ref h30, .ref h31, .int (-1), .ref h32, .ref h33]))]) [1] (by decide) rfl
  refine wGoi (wc := [(h1, .inr (8, [.int 1, .int 0, .int (-1), .int 0, .int 0, .int (-1), .int 0, .int 0, .int 0, .int 0, .int 0, .ref h7, .ref h8, .ref h9, .ref h10, .ref h11, .ref h12, .ref h13, .ref h14, .ref h15, .ref h16, .ref h17, .ref h18, .ref h19, .ref h20, .ref h21, .ref h22, .ref h23, .ref h24, .ref h25, .int 0, .ref h26, .ref h27, .ref h28, .ref h29, .int 0, .int 0, .ref h30, .ref h31, .int (-1), .ref h32, .ref h33]))]) (wr := [(h0, .inr (9, [.ref h1, .ref h2, .ref h3, .ref h4, .ref h5, .ref h6, .int 0]))]) (va_runV (As := [.int 17, .int p0, .int p1, .int 0, .int 0]) (rest := []) ⟨hx, hb, hml, hown, hts⟩ (m_X11_act_26 l G K h1 h7 h8 h9 h10 h11 h12 h13 h14 h15 h16 h17 h18 h19 h20 h21 h22 h23 h24 h25 h26 h27 h28 h29 h30 h31 h32 h33 p0 p1 _) (cwV 5 hts (wGV t_ (mw (.methodLink RX12 40 yX11_act) (List.mem_of_getElem? (i := 1) rfl)) (mw (.instanceMethod yX11_act) (List.mem_of_getElem? (i := 2) rfl)) (mw (.selects RX11 yX11_act yX11_act) (List.mem_of_getElem? (i := 3) rfl)) (mw (.initialized RX11) (List.mem_of_getElem? (i := 4) rfl)) j_X11_act_26) rfl rfl rfl (by decide +kernel) ⟨Nat.le_of_ble_eq_true rfl, Nat.le_of_ble_eq_true rfl⟩) (wPV hK hE hPc hDc 8 0 rfl rfl) rfl rfl hl.1 rfl (lv_room (Nat.le_of_ble_eq_true rfl)) dX12_vote_10 ⟨Nat.le_of_ble_eq_true rfl, Nat.le_of_ble_eq_true rfl⟩) hP hD hS hA [1] [0] rfl rfl rfl (by decide) (fun r u H locs hw hP hD hS => ?_)
  rcases hw with ⟨rfl, rfl⟩
  have hP : va_P G vwCl [(h0, .inr (9, [.ref h1, .ref h2, .ref h3, .ref h4, .ref h5, .ref h6, .int 0])), (h1, .inr (8, [.int 1, .int 0, .int (-1), .int 0, .int 0, .int (-1), .int 0, .int 0, .int 0, .int 0, .int 7, .ref h7, .ref h8, .ref h9, .ref h10, .ref h11, .ref h12, .ref h13, .ref h14, .ref h15, .ref h16, .ref h17, .ref h18, .ref h19, .ref h20, .ref h21, .ref h22, .ref h23, .ref h24, .ref h25, .int 0, .ref h26, .ref h27, .ref h28, .ref h29, .int 0, .int 0, .ref h30, .ref h31, .int (-1), .ref h32, .ref h33]))] _ := hP
  have hD : va_D A [(h0, .inr (9, [.ref h1, .ref h2, .ref h3, .ref h4, .ref h5, .ref h6, .int 0])), (h1, .inr (8, [.int 1, .int 0, .int (-1), .int 0, .int 0, .int (-1), .int 0, .int 0, .int 0, .int 0, .int 7, .ref h7, .ref h8, .ref h9, .ref h10, .ref h11, .ref h12, .ref h13, .ref h14, .ref h15, .ref h16, .ref h17, .ref h18, .ref h19, .ref h20, .ref h21, .ref h22, .ref h23, .ref h24, .ref h25, .int 0, .ref h26, .ref h27, .ref h28, .ref h29, .int 0, .int 0, .ref h30, .ref h31, .int (-1), .ref h32, .ref h33]))] := hD
  have hP9 : va_P G vwCl [(h0, .inr (9, [.ref h1, .ref h2, .ref h3, .ref h4, .ref h5, .ref h6, .int 0])), (h1, .inr (8, [.int 1, .int 0, .int (-1), .int 0, .int 0, .int (-1), .int 0, .int 0, .int 0, .int 0, .int 7, .ref h7, .ref h8, .ref h9, .ref h10, .ref h11, .ref h12, .ref h13, .ref h14, .ref h15, .ref h16, .ref h17, .ref h18, .ref h19, .ref h20, .ref h21, .ref h22, .ref h23, .ref h24, .ref h25, .int 0, .ref h26, .ref h27, .ref h28, .ref h29, .int 0, .int 0, .ref h30, .ref h31, .int (-1), .ref h32, .ref h33]))] _ := hP
  have hD9 : va_D A [(h0, .inr (9, [.ref h1, .ref h2, .ref h3, .ref h4, .ref h5, .ref h6, .int 0])), (h1, .inr (8, [.int 1, .int 0, .int (-1), .int 0, .int 0, .int (-1), .int 0, .int 0, .int 0, .int 0, .int 7, .ref h7, .ref h8, .ref h9, .ref h10, .ref h11, .ref h12, .ref h13, .ref h14, .ref h15, .ref h16, .ref h17, .ref h18, .ref h19, .ref h20, .ref h21, .ref h22, .ref h23, .ref h24, .ref h25, .int 0, .ref h26, .ref h27, .ref h28, .ref h29, .int 0, .int 0, .ref h30, .ref h31, .int (-1), .ref h32, .ref h33]))] := hD
  exact W.iret (v := (-7)) hx hb hr (fun t ht hW => ⟨⟨(-7), _, rfl, ⟨rfl, rfl⟩, by rw [ht]; exact hP9, hD9⟩, hS.F ht⟩) hS.2.2 dX12_vote_13
def e_X8_againstOnMotion_3 : List Cond := [.fieldLink RX8 34 "MotionFloor$Assembly" "house" "LMotionFloor$House;", .fieldLink RX8 79 "MotionFloor$House" "chair" "I", .methodLink RX8 82 yX2_isThere, .instanceMethod yX2_isThere, .selects RX2 yX2_isThere yX2_isThere, .initialized RX2, .fieldLink RX8 86 "MotionFloor$Assembly" "pending" "LMotionFloor$Pile;", .methodLink RX8 90 yX5_top, .instanceMethod yX5_top, .selects RX5 yX5_top yX5_top, .initialized RX5]
def v_X8_againstOnMotion_3 : List Cond := .code yX8_againstOnMotion cX8_againstOnMotion 6 (some .int) :: (e_X8_againstOnMotion_3 ++ (wsX00 ++ (wsX20 ++ (v_X2_isThere_1 ++ (v_X5_top_0 ++ [])))))
theorem te_X8_againstOnMotion_3 : GoodIn lw_tbl e_X8_againstOnMotion_3 := wGc z300 (wGc z622 (wGc z292 (wGc z291 (wGc z290 (wGc z57 (wGc z389 (wGc z450 (wGc z324 (wGc z323 (wGc z26 (wG0)))))))))))
theorem t_X8_againstOnMotion_3 : GoodIn lw_tbl v_X8_againstOnMotion_3 := wGc z607 (wGa te_X8_againstOnMotion_3 (wGa zcX0 (wGa zcX2 (wGa t_X2_isThere_1 (wGa t_X5_top_0 (wG0))))))
set_option maxHeartbeats 4000000 in
set_option maxRecDepth 100000 in
theorem m_X8_againstOnMotion_3 (l : Launch) (G : va_G) (K : Nat → ClassId) (h0 h1 h2 h3 h4 h5 h6 h7 h8 h9 h10 : Nat) (p0 : Int32) (sz : Nat) : Met l yX8_againstOnMotion v_X8_againstOnMotion_3 ({ frames := 2, cells := 0, slots := 0, locals := 41 }) (va_Pc [.ref h0, .int 18, .int p0, .int 0] (wS G K sz [(h0, .inr (0, [.ref h1, .ref h2, .ref h3, .ref h4, .ref h5, .ref h6, .ref h7, .int 0, .int 0, .int 0, .null])), (h1, .inr (1, [.int 1, .ref h8, .int 0, .int (-1), .int 0, .int 0, .int (-1), .ref h9])), (h2, .inr (4, [.ref h10, .int 0]))])) (va_Qi (fun (r : Int32) (u : va_W) => (7 = r ∧ u = [(h0, .inr (0, [.ref h1, .ref h2, .ref h3, .ref h4, .ref h5, .ref h6, .ref h7, .int 0, .int 0, .int 0, .null])), (h1, .inr (1, [.int 1, .ref h8, .int 0, .int (-1), .int 0, .int 0, .int (-1), .ref h9])), (h2, .inr (4, [.ref h10, .int 0]))])) (wB G (va_A [(h0, .inr (0, [.ref h1, .ref h2, .ref h3, .ref h4, .ref h5, .ref h6, .ref h7, .int 0, .int 0, .int 0, .null])), (h1, .inr (1, [.int 1, .ref h8, .int 0, .int (-1), .int 0, .int 0, .int (-1), .ref h9])), (h2, .inr (4, [.ref h10, .int 0]))] sz)) (va_A [(h0, .inr (0, [.ref h1, .ref h2, .ref h3, .ref h4, .ref h5, .ref h6, .ref h7, .int 0, .int 0, .int 0, .null])), (h1, .inr (1, [.int 1, .ref h8, .int 0, .int (-1), .int 0, .int 0, .int (-1), .ref h9])), (h2, .inr (4, [.ref h10, .int 0]))] sz)) 0 0 (va_A [(h0, .inr (0, [.ref h1, .ref h2, .ref h3, .ref h4, .ref h5, .ref h6, .ref h7, .int 0, .int 0, .int 0, .null])), (h1, .inr (1, [.int 1, .ref h8, .int 0, .int (-1), .int 0, .int 0, .int (-1), .ref h9])), (h2, .inr (4, [.ref h10, .int 0]))] sz) := by
  refine Met.ofW (cc := cX8_againstOnMotion) (maxL := 6) (ret := (some .int)) (by decide) rfl ?_
  intro p e s m args below meth c s₁ B hml hv
  obtain ⟨rfl, hsz, hP, hK, hD0, hE⟩ := hv
  have hx := B.exec
  have hb := B.bytes
  have hr := B.returns
  have hts := atoms_spec (ws := v_X8_againstOnMotion_3) B.pre
  have t_ := t_X8_againstOnMotion_3
  have mw : ∀ w ∈ e_X8_againstOnMotion_3, w ∈ v_X8_againstOnMotion_3 := fun w h => List.mem_cons_of_mem _ (List.mem_append_left _ h)
  have hw := fun w (h : w ∈ e_X8_againstOnMotion_3) => hts w (mw w h)
  have iX0 : ∀ w ∈ wsX00, w ∈ v_X8_againstOnMotion_3 := fun w h => List.mem_cons_of_mem _ (List.mem_append_right _ (List.mem_append_left _ h))
  have iX2 : ∀ w ∈ wsX20, w ∈ v_X8_againstOnMotion_3 := fun w h => List.mem_cons_of_mem _ (List.mem_append_right _ (List.mem_append_right _ (List.mem_append_left _ h)))
  have j_X2_isThere_1 : ∀ w ∈ v_X2_isThere_1, w ∈ v_X8_againstOnMotion_3 := fun w h => List.mem_cons_of_mem _ (List.mem_append_right _ (List.mem_append_right _ (List.mem_append_right _ (List.mem_append_left _ h))))
  have j_X5_top_0 : ∀ w ∈ v_X5_top_0, w ∈ v_X8_againstOnMotion_3 := fun w h => List.mem_cons_of_mem _ (List.mem_append_right _ (List.mem_append_right _ (List.mem_append_right _ (List.mem_append_right _ (List.mem_append_left _ h)))))
  have hown : s.vm.findClass RX8 = some m.cls := findClass_of_methodNamed B.named
  have hlocks := B.notSynchronized
  subst hsz
  have hD := hD0.self (sz := s.heap.size)
  generalize hAe : va_A [(h0, .inr (0, [.ref h1, .ref h2, .ref h3, .ref h4, .ref h5, .ref h6, .ref h7, .int 0, .int 0, .int 0, .null])), (h1, .inr (1, [.int 1, .ref h8, .int 0, .int (-1), .int 0, .int 0, .int (-1), .ref h9])), (h2, .inr (4, [.ref h10, .int 0]))] s.heap.size = A at hD ⊢
  have hA : ∀ q : Nat, s.heap.size ≤ q → A q := fun q h => by rw [← hAe]; exact Or.inr h
  have hS : va_S A s.heap s.heap [] := va_S.rf
  have hP : va_P G vwCl [(h0, .inr (0, [.ref h1, .ref h2, .ref h3, .ref h4, .ref h5, .ref h6, .ref h7, .int 0, .int 0, .int 0, .null])), (h1, .inr (1, [.int 1, .ref h8, .int 0, .int (-1), .int 0, .int 0, .int (-1), .ref h9])), (h2, .inr (4, [.ref h10, .int 0]))] s.heap := hP
  have hl := lv_entry ([.ref h0, .int 18, .int p0, .int 0]) (n := 6) (Nat.le_of_ble_eq_true rfl)
  rw [lg_entry_eq]
  generalize (lg_sl ([.ref h0, .int 18, .int p0, .int 0]) ++ List.replicate (6 - (lg_sl ([.ref h0, .int 18, .int p0, .int 0])).length) Slot.unset).toArray = ls at hl ⊢
  have hl : lv_has ls 6 [(0, .ref h0), (1, .int 18), (2, .int p0), (3, .int 0)] := hl
  refine lv_iload_n hx hb dX8_againstOnMotion_0 rfl (lv_at hl 1 rfl) ?_
  refine lv_bipush (v := 15) hx hb dX8_againstOnMotion_1 (by decide) ?_
  refine lv_icmp_ne (tgt := 12) hx hb dX8_againstOnMotion_3 (by decide) (fun _ => ?_) (fun c_ => absurd c_ (by decide))
  refine lv_aload_n hx hb dX8_againstOnMotion_12 rfl (lv_at hl 0 rfl) ?_
  refine va_get (D := G) (ci := 0) (v := .ref h1) (C := RX0) (T := TX0) (N := 11) hx hb hts iX0 hown hK hP 0 rfl rfl 0 (by decide) (hw (.fieldLink RX8 34 "MotionFloor$Assembly" "house" "LMotionFloor$House;") (List.mem_of_getElem? (i := 0) rfl)) (fun _ h9 => h9) rfl dX8_againstOnMotion_13 ?_
  refine lv_aload_n hx hb dX8_againstOnMotion_16 rfl (lv_at hl 0 rfl) ?_
  refine va_get (D := G) (ci := 0) (v := .ref h1) (C := RX0) (T := TX0) (N := 11) hx hb hts iX0 hown hK hP 0 rfl rfl 0 (by decide) (hw (.fieldLink RX8 34 "MotionFloor$Assembly" "house" "LMotionFloor$House;") (List.mem_of_getElem? (i := 0) rfl)) (fun _ h9 => h9) rfl dX8_againstOnMotion_17 ?_
  refine va_get (D := G) (ci := 1) (v := .int (-1)) (C := RX2) (T := TX2) (N := 8) hx hb hts iX2 hown hK hP 1 rfl rfl 3 (by decide) (hw (.fieldLink RX8 79 "MotionFloor$House" "chair" "I") (List.mem_of_getElem? (i := 1) rfl)) (fun _ h9 => h9) rfl dX8_againstOnMotion_20 ?_
  have hPc := hP.sub (ws' := [(h1, .inr (1, [.int 1, .ref h8, .int 0, .int (-1), .int 0, .int 0, .int (-1), .ref h9]))]) [1] rfl
  have hDc := hD.sub (ws' := [(h1, .inr (1, [.int 1, .ref h8, .int 0, .int (-1), .int 0, .int 0, .int (-1), .ref h9]))]) [1] (by decide) rfl
  refine wGoi (wc := [(h1, .inr (1, [.int 1, .ref h8, .int 0, .int (-1), .int 0, .int 0, .int (-1), .ref h9]))]) (wr := [(h0, .inr (0, [.ref h1, .ref h2, .ref h3, .ref h4, .ref h5, .ref h6, .ref h7, .int 0, .int 0, .int 0, .null])), (h2, .inr (4, [.ref h10, .int 0]))]) (va_runV (As := [.int (-1)]) (rest := []) ⟨hx, hb, hml, hown, hts⟩ (m_X2_isThere_1 l G K h1 h8 h9 _) (cwV 1 hts (wGV t_ (mw (.methodLink RX8 82 yX2_isThere) (List.mem_of_getElem? (i := 2) rfl)) (mw (.instanceMethod yX2_isThere) (List.mem_of_getElem? (i := 3) rfl)) (mw (.selects RX2 yX2_isThere yX2_isThere) (List.mem_of_getElem? (i := 4) rfl)) (mw (.initialized RX2) (List.mem_of_getElem? (i := 5) rfl)) j_X2_isThere_1) rfl rfl rfl (by decide +kernel) ⟨Nat.le_of_ble_eq_true rfl, Nat.le_of_ble_eq_true rfl⟩) (wPV hK hE hPc hDc 1 0 rfl rfl) rfl rfl hl.1 rfl (lv_room (Nat.le_of_ble_eq_true rfl)) dX8_againstOnMotion_23 ⟨Nat.le_of_ble_eq_true rfl, Nat.le_of_ble_eq_true rfl⟩) hP hD hS hA [1] [0, 2] rfl rfl rfl (by decide) (fun r u H locs hw hP hD hS => ?_)
  rcases hw with ⟨rfl, rfl⟩
  have hP : va_P G vwCl [(h0, .inr (0, [.ref h1, .ref h2, .ref h3, .ref h4, .ref h5, .ref h6, .ref h7, .int 0, .int 0, .int 0, .null])), (h2, .inr (4, [.ref h10, .int 0])), (h1, .inr (1, [.int 1, .ref h8, .int 0, .int (-1), .int 0, .int 0, .int (-1), .ref h9]))] _ := hP
  have hD : va_D A [(h0, .inr (0, [.ref h1, .ref h2, .ref h3, .ref h4, .ref h5, .ref h6, .ref h7, .int 0, .int 0, .int 0, .null])), (h2, .inr (4, [.ref h10, .int 0])), (h1, .inr (1, [.int 1, .ref h8, .int 0, .int (-1), .int 0, .int 0, .int (-1), .ref h9]))] := hD
  refine lv_istore (lv' := [(4, .int 0), (0, .ref h0), (1, .int 18), (2, .int p0), (3, .int 0)]) hx hb dX8_againstOnMotion_26 hl (by decide) rfl (fun ls hl => ?_)
  refine lv_iload_n hx hb dX8_againstOnMotion_28 rfl (lv_at hl 2 rfl) ?_
  refine lv_bipush (v := 22) hx hb dX8_againstOnMotion_29 (by decide) ?_
  refine lv_icmp_ne (tgt := 46) hx hb dX8_againstOnMotion_31 (by decide) (fun _ => ?_) (fun c_ => absurd c_ (by decide))
  refine lv_iload_n hx hb dX8_againstOnMotion_46 rfl (lv_at hl 2 rfl) ?_
  refine lv_bipush (v := 19) hx hb dX8_againstOnMotion_47 (by decide) ?_
  refine lv_icmp_eq (tgt := 58) hx hb dX8_againstOnMotion_49 (by decide) (fun c_ => absurd c_ (by decide)) (fun _ => ?_)
  refine lv_iload_n hx hb dX8_againstOnMotion_52 rfl (lv_at hl 2 rfl) ?_
  refine lv_bipush (v := 21) hx hb dX8_againstOnMotion_53 (by decide) ?_
  refine lv_icmp_ne (tgt := 66) hx hb dX8_againstOnMotion_55 (by decide) (fun _ => ?_) (fun c_ => absurd c_ (by decide))
  refine lv_aload_n hx hb dX8_againstOnMotion_66 rfl (lv_at hl 1 rfl) ?_
  refine va_get (D := G) (ci := 0) (v := .ref h2) (C := RX0) (T := TX0) (N := 11) hx hb hts iX0 hown hK hP 0 rfl rfl 1 (by decide) (hw (.fieldLink RX8 86 "MotionFloor$Assembly" "pending" "LMotionFloor$Pile;") (List.mem_of_getElem? (i := 6) rfl)) (fun _ h9 => h9) rfl dX8_againstOnMotion_67 ?_
  have hPc := hP.sub (ws' := [(h2, .inr (4, [.ref h10, .int 0]))]) [1] rfl
  have hDc := hD.sub (ws' := [(h2, .inr (4, [.ref h10, .int 0]))]) [1] (by decide) rfl
  refine wGoq (wc := [(h2, .inr (4, [.ref h10, .int 0]))]) (wr := [(h0, .inr (0, [.ref h1, .ref h2, .ref h3, .ref h4, .ref h5, .ref h6, .ref h7, .int 0, .int 0, .int 0, .null])), (h1, .inr (1, [.int 1, .ref h8, .int 0, .int (-1), .int 0, .int 0, .int (-1), .ref h9]))]) (va_runV (As := []) (rest := []) ⟨hx, hb, hml, hown, hts⟩ (m_X5_top_0 l G K h2 h10 _) (cwV 0 hts (wGV t_ (mw (.methodLink RX8 90 yX5_top) (List.mem_of_getElem? (i := 7) rfl)) (mw (.instanceMethod yX5_top) (List.mem_of_getElem? (i := 8) rfl)) (mw (.selects RX5 yX5_top yX5_top) (List.mem_of_getElem? (i := 9) rfl)) (mw (.initialized RX5) (List.mem_of_getElem? (i := 10) rfl)) j_X5_top_0) rfl rfl rfl (by decide +kernel) ⟨Nat.le_of_ble_eq_true rfl, Nat.le_of_ble_eq_true rfl⟩) (wPV hK hE hPc hDc 4 0 rfl rfl) rfl rfl hl.1 rfl (lv_room (Nat.le_of_ble_eq_true rfl)) dX8_againstOnMotion_70 ⟨Nat.le_of_ble_eq_true rfl, Nat.le_of_ble_eq_true rfl⟩) hP hD hS hA [1] [0, 2] rfl rfl rfl (by decide) (fun r u H locs hw hP hD hS => ?_)
  rcases hw with ⟨rfl, rfl⟩
  have hP : va_P G vwCl [(h0, .inr (0, [.ref h1, .ref h2, .ref h3, .ref h4, .ref h5, .ref h6, .ref h7, .int 0, .int 0, .int 0, .null])), (h1, .inr (1, [.int 1, .ref h8, .int 0, .int (-1), .int 0, .int 0, .int (-1), .ref h9])), (h2, .inr (4, [.ref h10, .int 0]))] _ := hP
  have hD : va_D A [(h0, .inr (0, [.ref h1, .ref h2, .ref h3, .ref h4, .ref h5, .ref h6, .ref h7, .int 0, .int 0, .int 0, .null])), (h1, .inr (1, [.int 1, .ref h8, .int 0, .int (-1), .int 0, .int 0, .int (-1), .ref h9])), (h2, .inr (4, [.ref h10, .int 0]))] := hD
  refine wTop (v1 := .null) rfl ?_
  refine lv_astoreN (lv' := [(5, .null), (4, .int 0), (0, .ref h0), (1, .int 18), (2, .int p0), (3, .int 0)]) hx hb dX8_againstOnMotion_73 hl (by decide) rfl (fun ls hl => ?_)
  refine lv_aloadN hx hb dX8_againstOnMotion_75 (lv_at hl 0 rfl) ?_
  refine lv_ifnonnullN hx hb dX8_againstOnMotion_77 ?_
  refine lv_bipush (v := 7) hx hb dX8_againstOnMotion_80 (by decide) ?_
  have hP9 : va_P G vwCl [(h0, .inr (0, [.ref h1, .ref h2, .ref h3, .ref h4, .ref h5, .ref h6, .ref h7, .int 0, .int 0, .int 0, .null])), (h1, .inr (1, [.int 1, .ref h8, .int 0, .int (-1), .int 0, .int 0, .int (-1), .ref h9])), (h2, .inr (4, [.ref h10, .int 0]))] _ := hP
  have hD9 : va_D A [(h0, .inr (0, [.ref h1, .ref h2, .ref h3, .ref h4, .ref h5, .ref h6, .ref h7, .int 0, .int 0, .int 0, .null])), (h1, .inr (1, [.int 1, .ref h8, .int 0, .int (-1), .int 0, .int 0, .int (-1), .ref h9])), (h2, .inr (4, [.ref h10, .int 0]))] := hD
  exact W.iret (v := 7) hx hb hr (fun t ht hW => ⟨⟨7, _, rfl, ⟨rfl, rfl⟩, by rw [ht]; exact hP9, hD9⟩, hS.F ht⟩) hS.2.2 dX8_againstOnMotion_82
def e_X8_against_17 : List Cond := [.methodLink RX8 19 yX8_againstOnMotion, .static yX8_againstOnMotion, .initialized RX8]
def v_X8_against_17 : List Cond := .code yX8_against cX8_against 7 (some .int) :: (e_X8_against_17 ++ (v_X8_againstOnMotion_3 ++ []))
theorem te_X8_against_17 : GoodIn lw_tbl e_X8_against_17 := wGc z609 (wGc z608 (wGc z297 (wG0)))
theorem t_X8_against_17 : GoodIn lw_tbl v_X8_against_17 := wGc z310 (wGa te_X8_against_17 (wGa t_X8_againstOnMotion_3 (wG0)))
set_option maxHeartbeats 4000000 in
set_option maxRecDepth 100000 in
theorem m_X8_against_17 (l : Launch) (G : va_G) (K : Nat → ClassId) (h0 h1 h2 h3 h4 h5 h6 h7 h8 h9 h10 : Nat) (p0 : Int32) (sz : Nat) : Met l yX8_against v_X8_against_17 ({ frames := 3, cells := 0, slots := 0, locals := 66 }) (va_Pc [.ref h0, .int 18, .int p0, .int 0, .int 0, .int 0] (wS G K sz [(h0, .inr (0, [.ref h1, .ref h2, .ref h3, .ref h4, .ref h5, .ref h6, .ref h7, .int 0, .int 0, .int 0, .null])), (h1, .inr (1, [.int 1, .ref h8, .int 0, .int (-1), .int 0, .int 0, .int (-1), .ref h9])), (h2, .inr (4, [.ref h10, .int 0]))])) (va_Qi (fun (r : Int32) (u : va_W) => (7 = r ∧ u = [(h0, .inr (0, [.ref h1, .ref h2, .ref h3, .ref h4, .ref h5, .ref h6, .ref h7, .int 0, .int 0, .int 0, .null])), (h1, .inr (1, [.int 1, .ref h8, .int 0, .int (-1), .int 0, .int 0, .int (-1), .ref h9])), (h2, .inr (4, [.ref h10, .int 0]))])) (wB G (va_A [(h0, .inr (0, [.ref h1, .ref h2, .ref h3, .ref h4, .ref h5, .ref h6, .ref h7, .int 0, .int 0, .int 0, .null])), (h1, .inr (1, [.int 1, .ref h8, .int 0, .int (-1), .int 0, .int 0, .int (-1), .ref h9])), (h2, .inr (4, [.ref h10, .int 0]))] sz)) (va_A [(h0, .inr (0, [.ref h1, .ref h2, .ref h3, .ref h4, .ref h5, .ref h6, .ref h7, .int 0, .int 0, .int 0, .null])), (h1, .inr (1, [.int 1, .ref h8, .int 0, .int (-1), .int 0, .int 0, .int (-1), .ref h9])), (h2, .inr (4, [.ref h10, .int 0]))] sz)) 0 0 (va_A [(h0, .inr (0, [.ref h1, .ref h2, .ref h3, .ref h4, .ref h5, .ref h6, .ref h7, .int 0, .int 0, .int 0, .null])), (h1, .inr (1, [.int 1, .ref h8, .int 0, .int (-1), .int 0, .int 0, .int (-1), .ref h9])), (h2, .inr (4, [.ref h10, .int 0]))] sz) := by
  refine Met.ofW (cc := cX8_against) (maxL := 7) (ret := (some .int)) (by decide) rfl ?_
  intro p e s m args below meth c s₁ B hml hv
  obtain ⟨rfl, hsz, hP, hK, hD0, hE⟩ := hv
  have hx := B.exec
  have hb := B.bytes
  have hr := B.returns
  have hts := atoms_spec (ws := v_X8_against_17) B.pre
  have t_ := t_X8_against_17
  have mw : ∀ w ∈ e_X8_against_17, w ∈ v_X8_against_17 := fun w h => List.mem_cons_of_mem _ (List.mem_append_left _ h)
  have hw := fun w (h : w ∈ e_X8_against_17) => hts w (mw w h)
  have j_X8_againstOnMotion_3 : ∀ w ∈ v_X8_againstOnMotion_3, w ∈ v_X8_against_17 := fun w h => List.mem_cons_of_mem _ (List.mem_append_right _ (List.mem_append_left _ h))
  have hown : s.vm.findClass RX8 = some m.cls := findClass_of_methodNamed B.named
  have hlocks := B.notSynchronized
  subst hsz
  have hD := hD0.self (sz := s.heap.size)
  generalize hAe : va_A [(h0, .inr (0, [.ref h1, .ref h2, .ref h3, .ref h4, .ref h5, .ref h6, .ref h7, .int 0, .int 0, .int 0, .null])), (h1, .inr (1, [.int 1, .ref h8, .int 0, .int (-1), .int 0, .int 0, .int (-1), .ref h9])), (h2, .inr (4, [.ref h10, .int 0]))] s.heap.size = A at hD ⊢
  have hA : ∀ q : Nat, s.heap.size ≤ q → A q := fun q h => by rw [← hAe]; exact Or.inr h
  have hS : va_S A s.heap s.heap [] := va_S.rf
  have hP : va_P G vwCl [(h0, .inr (0, [.ref h1, .ref h2, .ref h3, .ref h4, .ref h5, .ref h6, .ref h7, .int 0, .int 0, .int 0, .null])), (h1, .inr (1, [.int 1, .ref h8, .int 0, .int (-1), .int 0, .int 0, .int (-1), .ref h9])), (h2, .inr (4, [.ref h10, .int 0]))] s.heap := hP
  have hl := lv_entry ([.ref h0, .int 18, .int p0, .int 0, .int 0, .int 0]) (n := 7) (Nat.le_of_ble_eq_true rfl)
  rw [lg_entry_eq]
  generalize (lg_sl ([.ref h0, .int 18, .int p0, .int 0, .int 0, .int 0]) ++ List.replicate (7 - (lg_sl ([.ref h0, .int 18, .int p0, .int 0, .int 0, .int 0])).length) Slot.unset).toArray = ls at hl ⊢
  have hl : lv_has ls 7 [(0, .ref h0), (1, .int 18), (2, .int p0), (3, .int 0), (4, .int 0), (5, .int 0)] := hl
  refine lv_iload_n hx hb dX8_against_0 rfl (lv_at hl 1 rfl) ?_
  refine lv_bipush (v := 9) hx hb dX8_against_1 (by decide) ?_
  refine lv_icmp_gt (tgt := 18) hx hb dX8_against_3 (by decide) (fun _ => ?_) (fun c_ => absurd c_ (by decide))
  refine lv_iload_n hx hb dX8_against_18 rfl (lv_at hl 1 rfl) ?_
  refine lv_bipush (v := 14) hx hb dX8_against_19 (by decide) ?_
  refine lv_icmp_gt (tgt := 40) hx hb dX8_against_21 (by decide) (fun _ => ?_) (fun c_ => absurd c_ (by decide))
  refine lv_aload_n hx hb dX8_against_40 rfl (lv_at hl 0 rfl) ?_
  refine lv_iload_n hx hb dX8_against_41 rfl (lv_at hl 1 rfl) ?_
  refine lv_iload_n hx hb dX8_against_42 rfl (lv_at hl 2 rfl) ?_
  refine lv_iload_n hx hb dX8_against_43 rfl (lv_at hl 3 rfl) ?_
  have hPc := hP.sub (ws' := [(h0, .inr (0, [.ref h1, .ref h2, .ref h3, .ref h4, .ref h5, .ref h6, .ref h7, .int 0, .int 0, .int 0, .null])), (h1, .inr (1, [.int 1, .ref h8, .int 0, .int (-1), .int 0, .int 0, .int (-1), .ref h9])), (h2, .inr (4, [.ref h10, .int 0]))]) [0, 1, 2] rfl
  have hDc := hD.sub (ws' := [(h0, .inr (0, [.ref h1, .ref h2, .ref h3, .ref h4, .ref h5, .ref h6, .ref h7, .int 0, .int 0, .int 0, .null])), (h1, .inr (1, [.int 1, .ref h8, .int 0, .int (-1), .int 0, .int 0, .int (-1), .ref h9])), (h2, .inr (4, [.ref h10, .int 0]))]) [0, 1, 2] (by decide) rfl
  refine wGoi (wc := [(h0, .inr (0, [.ref h1, .ref h2, .ref h3, .ref h4, .ref h5, .ref h6, .ref h7, .int 0, .int 0, .int 0, .null])), (h1, .inr (1, [.int 1, .ref h8, .int 0, .int (-1), .int 0, .int 0, .int (-1), .ref h9])), (h2, .inr (4, [.ref h10, .int 0]))]) (wr := []) (va_runS (As := [.ref h0, .int 18, .int p0, .int 0]) (rest := []) ⟨hx, hb, hml, hown, hts⟩ (m_X8_againstOnMotion_3 l G K h0 h1 h2 h3 h4 h5 h6 h7 h8 h9 h10 p0 _) (va_cwS 4 hts (wGS t_ (mw (.methodLink RX8 19 yX8_againstOnMotion) (List.mem_of_getElem? (i := 0) rfl)) (mw (.static yX8_againstOnMotion) (List.mem_of_getElem? (i := 1) rfl)) (mw (.initialized RX8) (List.mem_of_getElem? (i := 2) rfl)) j_X8_againstOnMotion_3) rfl rfl rfl (by decide +kernel) ⟨Nat.le_of_ble_eq_true rfl, Nat.le_of_ble_eq_true rfl⟩) (wPS hK hE hPc hDc) rfl rfl hl.1 rfl (lv_room (Nat.le_of_ble_eq_true rfl)) dX8_against_44 ⟨Nat.le_of_ble_eq_true rfl, Nat.le_of_ble_eq_true rfl⟩) hP hD hS hA [0, 1, 2] [] rfl rfl rfl (by decide) (fun r u H locs hw hP hD hS => ?_)
  rcases hw with ⟨rfl, rfl⟩
  have hP : va_P G vwCl [(h0, .inr (0, [.ref h1, .ref h2, .ref h3, .ref h4, .ref h5, .ref h6, .ref h7, .int 0, .int 0, .int 0, .null])), (h1, .inr (1, [.int 1, .ref h8, .int 0, .int (-1), .int 0, .int 0, .int (-1), .ref h9])), (h2, .inr (4, [.ref h10, .int 0]))] _ := hP
  have hD : va_D A [(h0, .inr (0, [.ref h1, .ref h2, .ref h3, .ref h4, .ref h5, .ref h6, .ref h7, .int 0, .int 0, .int 0, .null])), (h1, .inr (1, [.int 1, .ref h8, .int 0, .int (-1), .int 0, .int 0, .int (-1), .ref h9])), (h2, .inr (4, [.ref h10, .int 0]))] := hD
  refine lv_istore (lv' := [(6, .int 7), (0, .ref h0), (1, .int 18), (2, .int p0), (3, .int 0), (4, .int 0), (5, .int 0)]) hx hb dX8_against_47 hl (by decide) rfl (fun ls hl => ?_)
  refine lv_iload hx hb dX8_against_49 (lv_at hl 0 rfl) ?_
  refine lv_if_ne (tgt := 69) hx hb dX8_against_51 (by decide) (fun _ => ?_) (fun c_ => absurd c_ (by decide))
  refine lv_iload hx hb dX8_against_69 (lv_at hl 0 rfl) ?_
  have hP9 : va_P G vwCl [(h0, .inr (0, [.ref h1, .ref h2, .ref h3, .ref h4, .ref h5, .ref h6, .ref h7, .int 0, .int 0, .int 0, .null])), (h1, .inr (1, [.int 1, .ref h8, .int 0, .int (-1), .int 0, .int 0, .int (-1), .ref h9])), (h2, .inr (4, [.ref h10, .int 0]))] _ := hP
  have hD9 : va_D A [(h0, .inr (0, [.ref h1, .ref h2, .ref h3, .ref h4, .ref h5, .ref h6, .ref h7, .int 0, .int 0, .int 0, .null])), (h1, .inr (1, [.int 1, .ref h8, .int 0, .int (-1), .int 0, .int 0, .int (-1), .ref h9])), (h2, .inr (4, [.ref h10, .int 0]))] := hD
  exact W.iret (v := 7) hx hb hr (fun t ht hW => ⟨⟨7, _, rfl, ⟨rfl, rfl⟩, by rw [ht]; exact hP9, hD9⟩, hS.F ht⟩) hS.2.2 dX8_against_71
def e_X0_enact_17 : List Cond := [.methodLink RX0 155 yX8_against, .static yX8_against, .initialized RX8, .fieldLink RX0 73 "MotionFloor$Assembly" "reason" "I"]
def v_X0_enact_17 : List Cond := .code yX0_enact cX0_enact 7 (some .int) :: (e_X0_enact_17 ++ (wsX00 ++ (v_X8_against_17 ++ [])))
theorem te_X0_enact_17 : GoodIn lw_tbl e_X0_enact_17 := wGc z345 (wGc z344 (wGc z297 (wGc z263 (wG0))))
theorem t_X0_enact_17 : GoodIn lw_tbl v_X0_enact_17 := wGc z346 (wGa te_X0_enact_17 (wGa zcX0 (wGa t_X8_against_17 (wG0))))
set_option maxHeartbeats 4000000 in
set_option maxRecDepth 100000 in
theorem m_X0_enact_17 (l : Launch) (G : va_G) (K : Nat → ClassId) (h0 h1 h2 h3 h4 h5 h6 h7 h8 h9 h10 : Nat) (p0 : Int32) (sz : Nat) : Met l yX0_enact v_X0_enact_17 ({ frames := 4, cells := 0, slots := 0, locals := 92 }) (va_Pc [.ref h0, .int 18, .int p0, .int 0, .int 0, .int 0] (wS G K sz [(h0, .inr (0, [.ref h1, .ref h2, .ref h3, .ref h4, .ref h5, .ref h6, .ref h7, .int 0, .int 0, .int 0, .null])), (h1, .inr (1, [.int 1, .ref h8, .int 0, .int (-1), .int 0, .int 0, .int (-1), .ref h9])), (h2, .inr (4, [.ref h10, .int 0]))])) (va_Qi (fun (r : Int32) (u : va_W) => ((-7) = r ∧ u = [(h0, .inr (0, [.ref h1, .ref h2, .ref h3, .ref h4, .ref h5, .ref h6, .ref h7, .int 0, .int 0, .int 7, .null])), (h1, .inr (1, [.int 1, .ref h8, .int 0, .int (-1), .int 0, .int 0, .int (-1), .ref h9])), (h2, .inr (4, [.ref h10, .int 0]))])) (wB G (va_A [(h0, .inr (0, [.ref h1, .ref h2, .ref h3, .ref h4, .ref h5, .ref h6, .ref h7, .int 0, .int 0, .int 0, .null])), (h1, .inr (1, [.int 1, .ref h8, .int 0, .int (-1), .int 0, .int 0, .int (-1), .ref h9])), (h2, .inr (4, [.ref h10, .int 0]))] sz)) (va_A [(h0, .inr (0, [.ref h1, .ref h2, .ref h3, .ref h4, .ref h5, .ref h6, .ref h7, .int 0, .int 0, .int 0, .null])), (h1, .inr (1, [.int 1, .ref h8, .int 0, .int (-1), .int 0, .int 0, .int (-1), .ref h9])), (h2, .inr (4, [.ref h10, .int 0]))] sz)) 0 0 (va_A [(h0, .inr (0, [.ref h1, .ref h2, .ref h3, .ref h4, .ref h5, .ref h6, .ref h7, .int 0, .int 0, .int 0, .null])), (h1, .inr (1, [.int 1, .ref h8, .int 0, .int (-1), .int 0, .int 0, .int (-1), .ref h9])), (h2, .inr (4, [.ref h10, .int 0]))] sz) := by
  refine Met.ofW (cc := cX0_enact) (maxL := 7) (ret := (some .int)) (by decide) rfl ?_
  intro p e s m args below meth c s₁ B hml hv
  obtain ⟨rfl, hsz, hP, hK, hD0, hE⟩ := hv
  have hx := B.exec
  have hb := B.bytes
  have hr := B.returns
  have hts := atoms_spec (ws := v_X0_enact_17) B.pre
  have t_ := t_X0_enact_17
  have mw : ∀ w ∈ e_X0_enact_17, w ∈ v_X0_enact_17 := fun w h => List.mem_cons_of_mem _ (List.mem_append_left _ h)
  have hw := fun w (h : w ∈ e_X0_enact_17) => hts w (mw w h)
  have iX0 : ∀ w ∈ wsX00, w ∈ v_X0_enact_17 := fun w h => List.mem_cons_of_mem _ (List.mem_append_right _ (List.mem_append_left _ h))
  have j_X8_against_17 : ∀ w ∈ v_X8_against_17, w ∈ v_X0_enact_17 := fun w h => List.mem_cons_of_mem _ (List.mem_append_right _ (List.mem_append_right _ (List.mem_append_left _ h)))
  have hown : s.vm.findClass RX0 = some m.cls := findClass_of_methodNamed B.named
  have hlocks := B.notSynchronized
  subst hsz
  have hD := hD0.self (sz := s.heap.size)
  generalize hAe : va_A [(h0, .inr (0, [.ref h1, .ref h2, .ref h3, .ref h4, .ref h5, .ref h6, .ref h7, .int 0, .int 0, .int 0, .null])), (h1, .inr (1, [.int 1, .ref h8, .int 0, .int (-1), .int 0, .int 0, .int (-1), .ref h9])), (h2, .inr (4, [.ref h10, .int 0]))] s.heap.size = A at hD ⊢
  have hA : ∀ q : Nat, s.heap.size ≤ q → A q := fun q h => by rw [← hAe]; exact Or.inr h
  have hS : va_S A s.heap s.heap [] := va_S.rf
  have hP : va_P G vwCl [(h0, .inr (0, [.ref h1, .ref h2, .ref h3, .ref h4, .ref h5, .ref h6, .ref h7, .int 0, .int 0, .int 0, .null])), (h1, .inr (1, [.int 1, .ref h8, .int 0, .int (-1), .int 0, .int 0, .int (-1), .ref h9])), (h2, .inr (4, [.ref h10, .int 0]))] s.heap := hP
  have hl := lv_entry ([.ref h0, .int 18, .int p0, .int 0, .int 0, .int 0]) (n := 7) (Nat.le_of_ble_eq_true rfl)
  rw [lg_entry_eq]
  generalize (lg_sl ([.ref h0, .int 18, .int p0, .int 0, .int 0, .int 0]) ++ List.replicate (7 - (lg_sl ([.ref h0, .int 18, .int p0, .int 0, .int 0, .int 0])).length) Slot.unset).toArray = ls at hl ⊢
  have hl : lv_has ls 7 [(0, .ref h0), (1, .int 18), (2, .int p0), (3, .int 0), (4, .int 0), (5, .int 0)] := hl
  refine lv_aload_n hx hb dX0_enact_0 rfl (lv_at hl 0 rfl) ?_
  refine lv_aload_n hx hb dX0_enact_1 rfl (lv_at hl 0 rfl) ?_
  refine lv_iload_n hx hb dX0_enact_2 rfl (lv_at hl 1 rfl) ?_
  refine lv_iload_n hx hb dX0_enact_3 rfl (lv_at hl 2 rfl) ?_
  refine lv_iload_n hx hb dX0_enact_4 rfl (lv_at hl 3 rfl) ?_
  refine lv_iload hx hb dX0_enact_5 (lv_at hl 4 rfl) ?_
  refine lv_iload hx hb dX0_enact_7 (lv_at hl 5 rfl) ?_
  have hPc := hP.sub (ws' := [(h0, .inr (0, [.ref h1, .ref h2, .ref h3, .ref h4, .ref h5, .ref h6, .ref h7, .int 0, .int 0, .int 0, .null])), (h1, .inr (1, [.int 1, .ref h8, .int 0, .int (-1), .int 0, .int 0, .int (-1), .ref h9])), (h2, .inr (4, [.ref h10, .int 0]))]) [0, 1, 2] rfl
  have hDc := hD.sub (ws' := [(h0, .inr (0, [.ref h1, .ref h2, .ref h3, .ref h4, .ref h5, .ref h6, .ref h7, .int 0, .int 0, .int 0, .null])), (h1, .inr (1, [.int 1, .ref h8, .int 0, .int (-1), .int 0, .int 0, .int (-1), .ref h9])), (h2, .inr (4, [.ref h10, .int 0]))]) [0, 1, 2] (by decide) rfl
  refine wGoi (wc := [(h0, .inr (0, [.ref h1, .ref h2, .ref h3, .ref h4, .ref h5, .ref h6, .ref h7, .int 0, .int 0, .int 0, .null])), (h1, .inr (1, [.int 1, .ref h8, .int 0, .int (-1), .int 0, .int 0, .int (-1), .ref h9])), (h2, .inr (4, [.ref h10, .int 0]))]) (wr := []) (va_runS (As := [.ref h0, .int 18, .int p0, .int 0, .int 0, .int 0]) (rest := [.ref h0]) ⟨hx, hb, hml, hown, hts⟩ (m_X8_against_17 l G K h0 h1 h2 h3 h4 h5 h6 h7 h8 h9 h10 p0 _) (va_cwS 6 hts (wGS t_ (mw (.methodLink RX0 155 yX8_against) (List.mem_of_getElem? (i := 0) rfl)) (mw (.static yX8_against) (List.mem_of_getElem? (i := 1) rfl)) (mw (.initialized RX8) (List.mem_of_getElem? (i := 2) rfl)) j_X8_against_17) rfl rfl rfl (by decide +kernel) ⟨Nat.le_of_ble_eq_true rfl, Nat.le_of_ble_eq_true rfl⟩) (wPS hK hE hPc hDc) rfl rfl hl.1 rfl (lv_room (Nat.le_of_ble_eq_true rfl)) dX0_enact_9 ⟨Nat.le_of_ble_eq_true rfl, Nat.le_of_ble_eq_true rfl⟩) hP hD hS hA [0, 1, 2] [] rfl rfl rfl (by decide) (fun r u H locs hw hP hD hS => ?_)
  rcases hw with ⟨rfl, rfl⟩
  have hP : va_P G vwCl [(h0, .inr (0, [.ref h1, .ref h2, .ref h3, .ref h4, .ref h5, .ref h6, .ref h7, .int 0, .int 0, .int 0, .null])), (h1, .inr (1, [.int 1, .ref h8, .int 0, .int (-1), .int 0, .int 0, .int (-1), .ref h9])), (h2, .inr (4, [.ref h10, .int 0]))] _ := hP
  have hD : va_D A [(h0, .inr (0, [.ref h1, .ref h2, .ref h3, .ref h4, .ref h5, .ref h6, .ref h7, .int 0, .int 0, .int 0, .null])), (h1, .inr (1, [.int 1, .ref h8, .int 0, .int (-1), .int 0, .int 0, .int (-1), .ref h9])), (h2, .inr (4, [.ref h10, .int 0]))] := hD
  refine va_put (D := G) (ci := 0) (v := .int 7) (ty := .int) (C := RX0) (T := TX0) (N := 11) hx hb hts iX0 tyX0 tyX0_ok nmX0 hown hK hP hD hS 0 rfl rfl 9 (by decide) (hw (.fieldLink RX0 73 "MotionFloor$Assembly" "reason" "I") (List.mem_of_getElem? (i := 3) rfl)) (fun _ h9 => h9) rfl (by decide +kernel) rfl rfl (Nat.le_of_ble_eq_true rfl) dX0_enact_12 (fun H locs hP hD hS => ?_)
  have hP : va_P G vwCl [(h0, .inr (0, [.ref h1, .ref h2, .ref h3, .ref h4, .ref h5, .ref h6, .ref h7, .int 0, .int 0, .int 7, .null])), (h1, .inr (1, [.int 1, .ref h8, .int 0, .int (-1), .int 0, .int 0, .int (-1), .ref h9])), (h2, .inr (4, [.ref h10, .int 0]))] _ := hP
  have hD : va_D A [(h0, .inr (0, [.ref h1, .ref h2, .ref h3, .ref h4, .ref h5, .ref h6, .ref h7, .int 0, .int 0, .int 7, .null])), (h1, .inr (1, [.int 1, .ref h8, .int 0, .int (-1), .int 0, .int 0, .int (-1), .ref h9])), (h2, .inr (4, [.ref h10, .int 0]))] := hD
  refine lv_aload_n hx hb dX0_enact_15 rfl (lv_at hl 0 rfl) ?_
  refine va_get (D := G) (ci := 0) (v := .int 7) (C := RX0) (T := TX0) (N := 11) hx hb hts iX0 hown hK hP 0 rfl rfl 9 (by decide) (hw (.fieldLink RX0 73 "MotionFloor$Assembly" "reason" "I") (List.mem_of_getElem? (i := 3) rfl)) (fun _ h9 => h9) rfl dX0_enact_16 ?_
  refine lv_if_eq (tgt := 28) hx hb dX0_enact_19 (by decide) (fun c_ => absurd c_ (by decide)) (fun _ => ?_)
  refine lv_aload_n hx hb dX0_enact_22 rfl (lv_at hl 0 rfl) ?_
  refine va_get (D := G) (ci := 0) (v := .int 7) (C := RX0) (T := TX0) (N := 11) hx hb hts iX0 hown hK hP 0 rfl rfl 9 (by decide) (hw (.fieldLink RX0 73 "MotionFloor$Assembly" "reason" "I") (List.mem_of_getElem? (i := 3) rfl)) (fun _ h9 => h9) rfl dX0_enact_23 ?_
  refine lv_ineg hx hb dX0_enact_26 ?_
  refine wTop (v1 := .int (-7)) (congrArg Value.int (by decide)) ?_
  have hP9 : va_P G vwCl [(h0, .inr (0, [.ref h1, .ref h2, .ref h3, .ref h4, .ref h5, .ref h6, .ref h7, .int 0, .int 0, .int 7, .null])), (h1, .inr (1, [.int 1, .ref h8, .int 0, .int (-1), .int 0, .int 0, .int (-1), .ref h9])), (h2, .inr (4, [.ref h10, .int 0]))] _ := hP
  have hD9 : va_D A [(h0, .inr (0, [.ref h1, .ref h2, .ref h3, .ref h4, .ref h5, .ref h6, .ref h7, .int 0, .int 0, .int 7, .null])), (h1, .inr (1, [.int 1, .ref h8, .int 0, .int (-1), .int 0, .int 0, .int (-1), .ref h9])), (h2, .inr (4, [.ref h10, .int 0]))] := hD
  exact W.iret (v := (-7)) hx hb hr (fun t ht hW => ⟨⟨(-7), _, rfl, ⟨rfl, rfl⟩, by rw [ht]; exact hP9, hD9⟩, hS.F ht⟩) hS.2.2 dX0_enact_27
def e_X10_withdraw_0 : List Cond := [.fieldLink RX10 10 "MotionFloor" "now" "LMotionFloor$Assembly;", .methodLink RX10 32 yX0_enact, .instanceMethod yX0_enact, .selects RX0 yX0_enact yX0_enact, .initialized RX0]
def v_X10_withdraw_0 : List Cond := .code yX10_withdraw cX10_withdraw 2 (some .int) :: (e_X10_withdraw_0 ++ (wsX100 ++ (v_X0_enact_17 ++ [])))
theorem te_X10_withdraw_0 : GoodIn lw_tbl e_X10_withdraw_0 := wGc z115 (wGc z349 (wGc z348 (wGc z347 (wGc z118 (wG0)))))
theorem t_X10_withdraw_0 : GoodIn lw_tbl v_X10_withdraw_0 := wGc z639 (wGa te_X10_withdraw_0 (wGa zcX10 (wGa t_X0_enact_17 (wG0))))
set_option maxHeartbeats 4000000 in
set_option maxRecDepth 100000 in
theorem m_X10_withdraw_0 (l : Launch) (G : va_G) (K : Nat → ClassId) (h0 h1 h2 h3 h4 h5 h6 h7 h8 h9 h10 h11 h12 h13 : Nat) (p0 : Int32) (sz : Nat) : Met l yX10_withdraw v_X10_withdraw_0 ({ frames := 5, cells := 0, slots := 0, locals := 118 }) (va_Pc [.ref h0, .int p0] (wS G K sz [(h0, .inr (7, [.ref h1, .ref h4, .null, .null, .ref h5])), (h1, .inr (0, [.ref h2, .ref h3, .ref h6, .ref h7, .ref h8, .ref h9, .ref h10, .int 0, .int 0, .int 0, .null])), (h2, .inr (1, [.int 1, .ref h11, .int 0, .int (-1), .int 0, .int 0, .int (-1), .ref h12])), (h3, .inr (4, [.ref h13, .int 0]))])) (va_Qi (fun (r : Int32) (u : va_W) => ((-7) = r ∧ u = [(h0, .inr (7, [.ref h1, .ref h4, .null, .null, .ref h5])), (h1, .inr (0, [.ref h2, .ref h3, .ref h6, .ref h7, .ref h8, .ref h9, .ref h10, .int 0, .int 0, .int 7, .null])), (h2, .inr (1, [.int 1, .ref h11, .int 0, .int (-1), .int 0, .int 0, .int (-1), .ref h12])), (h3, .inr (4, [.ref h13, .int 0]))])) (wB G (va_A [(h0, .inr (7, [.ref h1, .ref h4, .null, .null, .ref h5])), (h1, .inr (0, [.ref h2, .ref h3, .ref h6, .ref h7, .ref h8, .ref h9, .ref h10, .int 0, .int 0, .int 0, .null])), (h2, .inr (1, [.int 1, .ref h11, .int 0, .int (-1), .int 0, .int 0, .int (-1), .ref h12])), (h3, .inr (4, [.ref h13, .int 0]))] sz)) (va_A [(h0, .inr (7, [.ref h1, .ref h4, .null, .null, .ref h5])), (h1, .inr (0, [.ref h2, .ref h3, .ref h6, .ref h7, .ref h8, .ref h9, .ref h10, .int 0, .int 0, .int 0, .null])), (h2, .inr (1, [.int 1, .ref h11, .int 0, .int (-1), .int 0, .int 0, .int (-1), .ref h12])), (h3, .inr (4, [.ref h13, .int 0]))] sz)) 0 0 (va_A [(h0, .inr (7, [.ref h1, .ref h4, .null, .null, .ref h5])), (h1, .inr (0, [.ref h2, .ref h3, .ref h6, .ref h7, .ref h8, .ref h9, .ref h10, .int 0, .int 0, .int 0, .null])), (h2, .inr (1, [.int 1, .ref h11, .int 0, .int (-1), .int 0, .int 0, .int (-1), .ref h12])), (h3, .inr (4, [.ref h13, .int 0]))] sz) := by
  refine Met.ofW (cc := cX10_withdraw) (maxL := 2) (ret := (some .int)) (by decide) rfl ?_
  intro p e s m args below meth c s₁ B hml hv
  obtain ⟨rfl, hsz, hP, hK, hD0, hE⟩ := hv
  have hx := B.exec
  have hb := B.bytes
  have hr := B.returns
  have hts := atoms_spec (ws := v_X10_withdraw_0) B.pre
  have t_ := t_X10_withdraw_0
  have mw : ∀ w ∈ e_X10_withdraw_0, w ∈ v_X10_withdraw_0 := fun w h => List.mem_cons_of_mem _ (List.mem_append_left _ h)
  have hw := fun w (h : w ∈ e_X10_withdraw_0) => hts w (mw w h)
  have iX10 : ∀ w ∈ wsX100, w ∈ v_X10_withdraw_0 := fun w h => List.mem_cons_of_mem _ (List.mem_append_right _ (List.mem_append_left _ h))
  have j_X0_enact_17 : ∀ w ∈ v_X0_enact_17, w ∈ v_X10_withdraw_0 := fun w h => List.mem_cons_of_mem _ (List.mem_append_right _ (List.mem_append_right _ (List.mem_append_left _ h)))
  have hown : s.vm.findClass RX10 = some m.cls := findClass_of_methodNamed B.named
  have hlocks := B.notSynchronized
  subst hsz
  have hD := hD0.self (sz := s.heap.size)
  generalize hAe : va_A [(h0, .inr (7, [.ref h1, .ref h4, .null, .null, .ref h5])), (h1, .inr (0, [.ref h2, .ref h3, .ref h6, .ref h7, .ref h8, .ref h9, .ref h10, .int 0, .int 0, .int 0, .null])), (h2, .inr (1, [.int 1, .ref h11, .int 0, .int (-1), .int 0, .int 0, .int (-1), .ref h12])), (h3, .inr (4, [.ref h13, .int 0]))] s.heap.size = A at hD ⊢
  have hA : ∀ q : Nat, s.heap.size ≤ q → A q := fun q h => by rw [← hAe]; exact Or.inr h
  have hS : va_S A s.heap s.heap [] := va_S.rf
  have hP : va_P G vwCl [(h0, .inr (7, [.ref h1, .ref h4, .null, .null, .ref h5])), (h1, .inr (0, [.ref h2, .ref h3, .ref h6, .ref h7, .ref h8, .ref h9, .ref h10, .int 0, .int 0, .int 0, .null])), (h2, .inr (1, [.int 1, .ref h11, .int 0, .int (-1), .int 0, .int 0, .int (-1), .ref h12])), (h3, .inr (4, [.ref h13, .int 0]))] s.heap := hP
  have hl := lv_entry ([.ref h0, .int p0]) (n := 2) (Nat.le_of_ble_eq_true rfl)
  rw [lg_entry_eq]
  generalize (lg_sl ([.ref h0, .int p0]) ++ List.replicate (2 - (lg_sl ([.ref h0, .int p0])).length) Slot.unset).toArray = ls at hl ⊢
  have hl : lv_has ls 2 [(0, .ref h0), (1, .int p0)] := hl
  refine lv_aload_n hx hb dX10_withdraw_0 rfl (lv_at hl 0 rfl) ?_
  refine va_get (D := G) (ci := 7) (v := .ref h1) (C := RX10) (T := TX10) (N := 5) hx hb hts iX10 hown hK hP 0 rfl rfl 0 (by decide) (hw (.fieldLink RX10 10 "MotionFloor" "now" "LMotionFloor$Assembly;") (List.mem_of_getElem? (i := 0) rfl)) (fun _ h9 => h9) rfl dX10_withdraw_1 ?_
  refine lv_bipush (v := 18) hx hb dX10_withdraw_4 (by decide) ?_
  refine lv_iload_n hx hb dX10_withdraw_6 rfl (lv_at hl 1 rfl) ?_
  refine lv_iconst (v := 0) hx hb dX10_withdraw_7 (by decide) ?_
  refine lv_iconst (v := 0) hx hb dX10_withdraw_8 (by decide) ?_
  refine lv_iconst (v := 0) hx hb dX10_withdraw_9 (by decide) ?_
  have hPc := hP.sub (ws' := [(h1, .inr (0, [.ref h2, .ref h3, .ref h6, .ref h7, .ref h8, .ref h9, .ref h10, .int 0, .int 0, .int 0, .null])), (h2, .inr (1, [.int 1, .ref h11, .int 0, .int (-1), .int 0, .int 0, .int (-1), .ref h12])), (h3, .inr (4, [.ref h13, .int 0]))]) [1, 2, 3] rfl
  have hDc := hD.sub (ws' := [(h1, .inr (0, [.ref h2, .ref h3, .ref h6, .ref h7, .ref h8, .ref h9, .ref h10, .int 0, .int 0, .int 0, .null])), (h2, .inr (1, [.int 1, .ref h11, .int 0, .int (-1), .int 0, .int 0, .int (-1), .ref h12])), (h3, .inr (4, [.ref h13, .int 0]))]) [1, 2, 3] (by decide) rfl
  refine wGoi (wc := [(h1, .inr (0, [.ref h2, .ref h3, .ref h6, .ref h7, .ref h8, .ref h9, .ref h10, .int 0, .int 0, .int 0, .null])), (h2, .inr (1, [.int 1, .ref h11, .int 0, .int (-1), .int 0, .int 0, .int (-1), .ref h12])), (h3, .inr (4, [.ref h13, .int 0]))]) (wr := [(h0, .inr (7, [.ref h1, .ref h4, .null, .null, .ref h5]))]) (va_runV (As := [.int 18, .int p0, .int 0, .int 0, .int 0]) (rest := []) ⟨hx, hb, hml, hown, hts⟩ (m_X0_enact_17 l G K h1 h2 h3 h6 h7 h8 h9 h10 h11 h12 h13 p0 _) (cwV 5 hts (wGV t_ (mw (.methodLink RX10 32 yX0_enact) (List.mem_of_getElem? (i := 1) rfl)) (mw (.instanceMethod yX0_enact) (List.mem_of_getElem? (i := 2) rfl)) (mw (.selects RX0 yX0_enact yX0_enact) (List.mem_of_getElem? (i := 3) rfl)) (mw (.initialized RX0) (List.mem_of_getElem? (i := 4) rfl)) j_X0_enact_17) rfl rfl rfl (by decide +kernel) ⟨Nat.le_of_ble_eq_true rfl, Nat.le_of_ble_eq_true rfl⟩) (wPV hK hE hPc hDc 0 0 rfl rfl) rfl rfl hl.1 rfl (lv_room (Nat.le_of_ble_eq_true rfl)) dX10_withdraw_10 ⟨Nat.le_of_ble_eq_true rfl, Nat.le_of_ble_eq_true rfl⟩) hP hD hS hA [1, 2, 3] [0] rfl rfl rfl (by decide) (fun r u H locs hw hP hD hS => ?_)
  rcases hw with ⟨rfl, rfl⟩
  have hP : va_P G vwCl [(h0, .inr (7, [.ref h1, .ref h4, .null, .null, .ref h5])), (h1, .inr (0, [.ref h2, .ref h3, .ref h6, .ref h7, .ref h8, .ref h9, .ref h10, .int 0, .int 0, .int 7, .null])), (h2, .inr (1, [.int 1, .ref h11, .int 0, .int (-1), .int 0, .int 0, .int (-1), .ref h12])), (h3, .inr (4, [.ref h13, .int 0]))] _ := hP
  have hD : va_D A [(h0, .inr (7, [.ref h1, .ref h4, .null, .null, .ref h5])), (h1, .inr (0, [.ref h2, .ref h3, .ref h6, .ref h7, .ref h8, .ref h9, .ref h10, .int 0, .int 0, .int 7, .null])), (h2, .inr (1, [.int 1, .ref h11, .int 0, .int (-1), .int 0, .int 0, .int (-1), .ref h12])), (h3, .inr (4, [.ref h13, .int 0]))] := hD
  have hP9 : va_P G vwCl [(h0, .inr (7, [.ref h1, .ref h4, .null, .null, .ref h5])), (h1, .inr (0, [.ref h2, .ref h3, .ref h6, .ref h7, .ref h8, .ref h9, .ref h10, .int 0, .int 0, .int 7, .null])), (h2, .inr (1, [.int 1, .ref h11, .int 0, .int (-1), .int 0, .int 0, .int (-1), .ref h12])), (h3, .inr (4, [.ref h13, .int 0]))] _ := hP
  have hD9 : va_D A [(h0, .inr (7, [.ref h1, .ref h4, .null, .null, .ref h5])), (h1, .inr (0, [.ref h2, .ref h3, .ref h6, .ref h7, .ref h8, .ref h9, .ref h10, .int 0, .int 0, .int 7, .null])), (h2, .inr (1, [.int 1, .ref h11, .int 0, .int (-1), .int 0, .int 0, .int (-1), .ref h12])), (h3, .inr (4, [.ref h13, .int 0]))] := hD
  exact W.iret (v := (-7)) hx hb hr (fun t ht hW => ⟨⟨(-7), _, rfl, ⟨rfl, rfl⟩, by rw [ht]; exact hP9, hD9⟩, hS.F ht⟩) hS.2.2 dX10_withdraw_13
def e_X11_reason_27 : List Cond := [.fieldLink RX11 115 "MotionFloorModel$Hall" "pending" "I"]
def v_X11_reason_27 : List Cond := .code yX11_reason cX11_reason 6 (some .int) :: (e_X11_reason_27 ++ (wsX110 ++ []))
theorem te_X11_reason_27 : GoodIn lw_tbl e_X11_reason_27 := wGc z202 (wG0)
theorem t_X11_reason_27 : GoodIn lw_tbl v_X11_reason_27 := wGc z355 (wGa te_X11_reason_27 (wGa zcX11 (wG0)))
set_option maxHeartbeats 4000000 in
set_option maxRecDepth 100000 in
theorem m_X11_reason_27 (l : Launch) (G : va_G) (K : Nat → ClassId) (h0 h1 h2 h3 h4 h5 h6 h7 h8 h9 h10 h11 h12 h13 h14 h15 h16 h17 h18 h19 h20 h21 h22 h23 h24 h25 h26 h27 : Nat) (p0 : Int32) (sz : Nat) : Met l yX11_reason v_X11_reason_27 ({ frames := 0, cells := 0, slots := 0, locals := 0 }) (va_Pc [.ref h0, .int 18, .int p0, .int 0, .int 0, .int 0] (wS G K sz [(h0, .inr (8, [.int 1, .int 0, .int (-1), .int 0, .int 0, .int (-1), .int 0, .int 0, .int 0, .int 0, .int 0, .ref h1, .ref h2, .ref h3, .ref h4, .ref h5, .ref h6, .ref h7, .ref h8, .ref h9, .ref h10, .ref h11, .ref h12, .ref h13, .ref h14, .ref h15, .ref h16, .ref h17, .ref h18, .ref h19, .int 0, .ref h20, .ref h21, .ref h22, .ref h23, .int 0, .int 0, .ref h24, .ref h25, .int (-1), .ref h26, .ref h27]))])) (va_Qi (fun (r : Int32) (u : va_W) => (7 = r ∧ u = [(h0, .inr (8, [.int 1, .int 0, .int (-1), .int 0, .int 0, .int (-1), .int 0, .int 0, .int 0, .int 0, .int 0, .ref h1, .ref h2, .ref h3, .ref h4, .ref h5, .ref h6, .ref h7, .ref h8, .ref h9, .ref h10, .ref h11, .ref h12, .ref h13, .ref h14, .ref h15, .ref h16, .ref h17, .ref h18, .ref h19, .int 0, .ref h20, .ref h21, .ref h22, .ref h23, .int 0, .int 0, .ref h24, .ref h25, .int (-1), .ref h26, .ref h27]))])) (wB G (va_A [(h0, .inr (8, [.int 1, .int 0, .int (-1), .int 0, .int 0, .int (-1), .int 0, .int 0, .int 0, .int 0, .int 0, .ref h1, .ref h2, .ref h3, .ref h4, .ref h5, .ref h6, .ref h7, .ref h8, .ref h9, .ref h10, .ref h11, .ref h12, .ref h13, .ref h14, .ref h15, .ref h16, .ref h17, .ref h18, .ref h19, .int 0, .ref h20, .ref h21, .ref h22, .ref h23, .int 0, .int 0, .ref h24, .ref h25, .int (-1), .ref h26, .ref h27]))] sz)) (va_A [(h0, .inr (8, [.int 1, .int 0, .int (-1), .int 0, .int 0, .int (-1), .int 0, .int 0, .int 0, .int 0, .int 0, .ref h1, .ref h2, .ref h3, .ref h4, .ref h5, .ref h6, .ref h7, .ref h8, .ref h9, .ref h10, .ref h11, .ref h12, .ref h13, .ref h14, .ref h15, .ref h16, .ref h17, .ref h18, .ref h19, .int 0, .ref h20, .ref h21, .ref h22, .ref h23, .int 0, .int 0, .ref h24, .ref h25, .int (-1), .ref h26, .ref h27]))] sz)) 0 0 (va_A [(h0, .inr (8, [.int 1, .int 0, .int (-1), .int 0, .int 0, .int (-1), .int 0, .int 0, .int 0, .int 0, .int 0, .ref h1, .ref h2, .ref h3, .ref h4, .ref h5, .ref h6, .ref h7, .ref h8, .ref h9, .ref h10, .ref h11, .ref h12, .ref h13, .ref h14, .ref h15, .ref h16, .ref h17, .ref h18, .ref h19, .int 0, .ref h20, .ref h21, .ref h22, .ref h23, .int 0, .int 0, .ref h24, .ref h25, .int (-1), .ref h26, .ref h27]))] sz) := by
  refine Met.ofW (cc := cX11_reason) (maxL := 6) (ret := (some .int)) (by decide) rfl ?_
  intro p e s m args below meth c s₁ B hml hv
  obtain ⟨rfl, hsz, hP, hK, hD0, hE⟩ := hv
  have hx := B.exec
  have hb := B.bytes
  have hr := B.returns
  have hts := atoms_spec (ws := v_X11_reason_27) B.pre
  have t_ := t_X11_reason_27
  have mw : ∀ w ∈ e_X11_reason_27, w ∈ v_X11_reason_27 := fun w h => List.mem_cons_of_mem _ (List.mem_append_left _ h)
  have hw := fun w (h : w ∈ e_X11_reason_27) => hts w (mw w h)
  have iX11 : ∀ w ∈ wsX110, w ∈ v_X11_reason_27 := fun w h => List.mem_cons_of_mem _ (List.mem_append_right _ (List.mem_append_left _ h))
  have hown : s.vm.findClass RX11 = some m.cls := findClass_of_methodNamed B.named
  have hlocks := B.notSynchronized
  subst hsz
  have hD := hD0.self (sz := s.heap.size)
  generalize hAe : va_A [(h0, .inr (8, [.int 1, .int 0, .int (-1), .int 0, .int 0, .int (-1), .int 0, .int 0, .int 0, .int 0, .int 0, .ref h1, .ref h2, .ref h3, .ref h4, .ref h5, .ref h6, .ref h7, .ref h8, .ref h9, .ref h10, .ref h11, .ref h12, .ref h13, .ref h14, .ref h15, .ref h16, .ref h17, .ref h18, .ref h19, .int 0, .ref h20, .ref h21, .ref h22, .ref h23, .int 0, .int 0, .ref h24, .ref h25, .int (-1), .ref h26, .ref h27]))] s.heap.size = A at hD ⊢
  have hA : ∀ q : Nat, s.heap.size ≤ q → A q := fun q h => by rw [← hAe]; exact Or.inr h
  have hS : va_S A s.heap s.heap [] := va_S.rf
  have hP : va_P G vwCl [(h0, .inr (8, [.int 1, .int 0, .int (-1), .int 0, .int 0, .int (-1), .int 0, .int 0, .int 0, .int 0, .int 0, .ref h1, .ref h2, .ref h3, .ref h4, .ref h5, .ref h6, .ref h7, .ref h8, .ref h9, .ref h10, .ref h11, .ref h12, .ref h13, .ref h14, .ref h15, .ref h16, .ref h17, .ref h18, .ref h19, .int 0, .ref h20, .ref h21, .ref h22, .ref h23, .int 0, .int 0, .ref h24, .ref h25, .int (-1), .ref h26, .ref h27]))] s.heap := hP
  have hl := lv_entry ([.ref h0, .int 18, .int p0, .int 0, .int 0, .int 0]) (n := 6) (Nat.le_of_ble_eq_true rfl)
  rw [lg_entry_eq]
  generalize (lg_sl ([.ref h0, .int 18, .int p0, .int 0, .int 0, .int 0]) ++ List.replicate (6 - (lg_sl ([.ref h0, .int 18, .int p0, .int 0, .int 0, .int 0])).length) Slot.unset).toArray = ls at hl ⊢
  have hl : lv_has ls 6 [(0, .ref h0), (1, .int 18), (2, .int p0), (3, .int 0), (4, .int 0), (5, .int 0)] := hl
  refine lv_iload_n hx hb dX11_reason_0 rfl (lv_at hl 1 rfl) ?_
  refine lv_tableIn (off := 715) (tgt := 716) hx hb dX11_reason_1 (by decide) (by decide) (by decide) (by decide) ?_
  refine lv_aload_n hx hb dX11_reason_716 rfl (lv_at hl 0 rfl) ?_
  refine va_get (D := G) (ci := 8) (v := .int 0) (C := RX11) (T := TX11) (N := 42) hx hb hts iX11 hown hK hP 0 rfl rfl 6 (by decide) (hw (.fieldLink RX11 115 "MotionFloorModel$Hall" "pending" "I") (List.mem_of_getElem? (i := 0) rfl)) (fun _ h9 => h9) rfl dX11_reason_717 ?_
  refine lv_if_ne (tgt := 726) hx hb dX11_reason_720 (by decide) (fun c_ => absurd c_ (by decide)) (fun _ => ?_)
  refine lv_bipush (v := 7) hx hb dX11_reason_723 (by decide) ?_
  have hP9 : va_P G vwCl [(h0, .inr (8, [.int 1, .int 0, .int (-1), .int 0, .int 0, .int (-1), .int 0, .int 0, .int 0, .int 0, .int 0, .ref h1, .ref h2, .ref h3, .ref h4, .ref h5, .ref h6, .ref h7, .ref h8, .ref h9, .ref h10, .ref h11, .ref h12, .ref h13, .ref h14, .ref h15, .ref h16, .ref h17, .ref h18, .ref h19, .int 0, .ref h20, .ref h21, .ref h22, .ref h23, .int 0, .int 0, .ref h24, .ref h25, .int (-1), .ref h26, .ref h27]))] _ := hP
  have hD9 : va_D A [(h0, .inr (8, [.int 1, .int 0, .int (-1), .int 0, .int 0, .int (-1), .int 0, .int 0, .int 0, .int 0, .int 0, .ref h1, .ref h2, .ref h3, .ref h4, .ref h5, .ref h6, .ref h7, .ref h8, .ref h9, .ref h10, .ref h11, .ref h12, .ref h13, .ref h14, .ref h15, .ref h16, .ref h17, .ref h18, .ref h19, .int 0, .ref h20, .ref h21, .ref h22, .ref h23, .int 0, .int 0, .ref h24, .ref h25, .int (-1), .ref h26, .ref h27]))] := hD
  exact W.iret (v := 7) hx hb hr (fun t ht hW => ⟨⟨7, _, rfl, ⟨rfl, rfl⟩, by rw [ht]; exact hP9, hD9⟩, hS.F ht⟩) hS.2.2 dX11_reason_725
def e_X11_act_27 : List Cond := [.methodLink RX11 196 yX11_reason, .instanceMethod yX11_reason, .selects RX11 yX11_reason yX11_reason, .initialized RX11, .fieldLink RX11 127 "MotionFloorModel$Hall" "why" "I"]
def v_X11_act_27 : List Cond := .code yX11_act cX11_act 10 (some .int) :: (e_X11_act_27 ++ (wsX110 ++ (v_X11_reason_27 ++ [])))
theorem te_X11_act_27 : GoodIn lw_tbl e_X11_act_27 := wGc z364 (wGc z363 (wGc z362 (wGc z227 (wGc z198 (wG0)))))
theorem t_X11_act_27 : GoodIn lw_tbl v_X11_act_27 := wGc z365 (wGa te_X11_act_27 (wGa zcX11 (wGa t_X11_reason_27 (wG0))))
set_option maxHeartbeats 4000000 in
set_option maxRecDepth 100000 in
theorem m_X11_act_27 (l : Launch) (G : va_G) (K : Nat → ClassId) (h0 h1 h2 h3 h4 h5 h6 h7 h8 h9 h10 h11 h12 h13 h14 h15 h16 h17 h18 h19 h20 h21 h22 h23 h24 h25 h26 h27 : Nat) (p0 : Int32) (sz : Nat) : Met l yX11_act v_X11_act_27 ({ frames := 1, cells := 0, slots := 0, locals := 25 }) (va_Pc [.ref h0, .int 18, .int p0, .int 0, .int 0, .int 0] (wS G K sz [(h0, .inr (8, [.int 1, .int 0, .int (-1), .int 0, .int 0, .int (-1), .int 0, .int 0, .int 0, .int 0, .int 0, .ref h1, .ref h2, .ref h3, .ref h4, .ref h5, .ref h6, .ref h7, .ref h8, .ref h9, .ref h10, .ref h11, .ref h12, .ref h13, .ref h14, .ref h15, .ref h16, .ref h17, .ref h18, .ref h19, .int 0, .ref h20, .ref h21, .ref h22, .ref h23, .int 0, .int 0, .ref h24, .ref h25, .int (-1), .ref h26, .ref h27]))])) (va_Qi (fun (r : Int32) (u : va_W) => ((-7) = r ∧ u = [(h0, .inr (8, [.int 1, .int 0, .int (-1), .int 0, .int 0, .int (-1), .int 0, .int 0, .int 0, .int 0, .int 7, .ref h1, .ref h2, .ref h3, .ref h4, .ref h5, .ref h6, .ref h7, .ref h8, .ref h9, .ref h10, .ref h11, .ref h12, .ref h13, .ref h14, .ref h15, .ref h16, .ref h17, .ref h18, .ref h19, .int 0, .ref h20, .ref h21, .ref h22, .ref h23, .int 0, .int 0, .ref h24, .ref h25, .int (-1), .ref h26, .ref h27]))])) (wB G (va_A [(h0, .inr (8, [.int 1, .int 0, .int (-1), .int 0, .int 0, .int (-1), .int 0, .int 0, .int 0, .int 0, .int 0, .ref h1, .ref h2, .ref h3, .ref h4, .ref h5, .ref h6, .ref h7, .ref h8, .ref h9, .ref h10, .ref h11, .ref h12, .ref h13, .ref h14, .ref h15, .ref h16, .ref h17, .ref h18, .ref h19, .int 0, .ref h20, .ref h21, .ref h22, .ref h23, .int 0, .int 0, .ref h24, .ref h25, .int (-1), .ref h26, .ref h27]))] sz)) (va_A [(h0, .inr (8, [.int 1, .int 0, .int (-1), .int 0, .int 0, .int (-1), .int 0, .int 0, .int 0, .int 0, .int 0, .ref h1, .ref h2, .ref h3, .ref h4, .ref h5, .ref h6, .ref h7, .ref h8, .ref h9, .ref h10, .ref h11, .ref h12, .ref h13, .ref h14, .ref h15, .ref h16, .ref h17, .ref h18, .ref h19, .int 0, .ref h20, .ref h21, .ref h22, .ref h23, .int 0, .int 0, .ref h24, .ref h25, .int (-1), .ref h26, .ref h27]))] sz)) 0 0 (va_A [(h0, .inr (8, [.int 1, .int 0, .int (-1), .int 0, .int 0, .int (-1), .int 0, .int 0, .int 0, .int 0, .int 0, .ref h1, .ref h2, .ref h3, .ref h4, .ref h5, .ref h6, .ref h7, .ref h8, .ref h9, .ref h10, .ref h11, .ref h12, .ref h13, .ref h14, .ref h15, .ref h16, .ref h17, .ref h18, .ref h19, .int 0, .ref h20, .ref h21, .ref h22, .ref h23, .int 0, .int 0, .ref h24, .ref h25, .int (-1), .ref h26, .ref h27]))] sz) := by
  refine Met.ofW (cc := cX11_act) (maxL := 10) (ret := (some .int)) (by decide) rfl ?_
  intro p e s m args below meth c s₁ B hml hv
  obtain ⟨rfl, hsz, hP, hK, hD0, hE⟩ := hv
  have hx := B.exec
  have hb := B.bytes
  have hr := B.returns
  have hts := atoms_spec (ws := v_X11_act_27) B.pre
  have t_ := t_X11_act_27
  have mw : ∀ w ∈ e_X11_act_27, w ∈ v_X11_act_27 := fun w h => List.mem_cons_of_mem _ (List.mem_append_left _ h)
  have hw := fun w (h : w ∈ e_X11_act_27) => hts w (mw w h)
  have iX11 : ∀ w ∈ wsX110, w ∈ v_X11_act_27 := fun w h => List.mem_cons_of_mem _ (List.mem_append_right _ (List.mem_append_left _ h))
  have j_X11_reason_27 : ∀ w ∈ v_X11_reason_27, w ∈ v_X11_act_27 := fun w h => List.mem_cons_of_mem _ (List.mem_append_right _ (List.mem_append_right _ (List.mem_append_left _ h)))
  have hown : s.vm.findClass RX11 = some m.cls := findClass_of_methodNamed B.named
  have hlocks := B.notSynchronized
  subst hsz
  have hD := hD0.self (sz := s.heap.size)
  generalize hAe : va_A [(h0, .inr (8, [.int 1, .int 0, .int (-1), .int 0, .int 0, .int (-1), .int 0, .int 0, .int 0, .int 0, .int 0, .ref h1, .ref h2, .ref h3, .ref h4, .ref h5, .ref h6, .ref h7, .ref h8, .ref h9, .ref h10, .ref h11, .ref h12, .ref h13, .ref h14, .ref h15, .ref h16, .ref h17, .ref h18, .ref h19, .int 0, .ref h20, .ref h21, .ref h22, .ref h23, .int 0, .int 0, .ref h24, .ref h25, .int (-1), .ref h26, .ref h27]))] s.heap.size = A at hD ⊢
  have hA : ∀ q : Nat, s.heap.size ≤ q → A q := fun q h => by rw [← hAe]; exact Or.inr h
  have hS : va_S A s.heap s.heap [] := va_S.rf
  have hP : va_P G vwCl [(h0, .inr (8, [.int 1, .int 0, .int (-1), .int 0, .int 0, .int (-1), .int 0, .int 0, .int 0, .int 0, .int 0, .ref h1, .ref h2, .ref h3, .ref h4, .ref h5, .ref h6, .ref h7, .ref h8, .ref h9, .ref h10, .ref h11, .ref h12, .ref h13, .ref h14, .ref h15, .ref h16, .ref h17, .ref h18, .ref h19, .int 0, .ref h20, .ref h21, .ref h22, .ref h23, .int 0, .int 0, .ref h24, .ref h25, .int (-1), .ref h26, .ref h27]))] s.heap := hP
  have hl := lv_entry ([.ref h0, .int 18, .int p0, .int 0, .int 0, .int 0]) (n := 10) (Nat.le_of_ble_eq_true rfl)
  rw [lg_entry_eq]
  generalize (lg_sl ([.ref h0, .int 18, .int p0, .int 0, .int 0, .int 0]) ++ List.replicate (10 - (lg_sl ([.ref h0, .int 18, .int p0, .int 0, .int 0, .int 0])).length) Slot.unset).toArray = ls at hl ⊢
  have hl : lv_has ls 10 [(0, .ref h0), (1, .int 18), (2, .int p0), (3, .int 0), (4, .int 0), (5, .int 0)] := hl
  refine lv_aload_n hx hb dX11_act_0 rfl (lv_at hl 0 rfl) ?_
  refine lv_iload_n hx hb dX11_act_1 rfl (lv_at hl 1 rfl) ?_
  refine lv_iload_n hx hb dX11_act_2 rfl (lv_at hl 2 rfl) ?_
  refine lv_iload_n hx hb dX11_act_3 rfl (lv_at hl 3 rfl) ?_
  refine lv_iload hx hb dX11_act_4 (lv_at hl 4 rfl) ?_
  refine lv_iload hx hb dX11_act_6 (lv_at hl 5 rfl) ?_
  have hPc := hP.sub (ws' := [(h0, .inr (8, [.int 1, .int 0, .int (-1), .int 0, .int 0, .int (-1), .int 0, .int 0, .int 0, .int 0, .int 0, .ref h1, .ref h2, .ref h3, .ref h4, .ref h5, .ref h6, .ref h7, .ref h8, .ref h9, .ref h10, .ref h11, .ref h12, .ref h13, .ref h14, .ref h15, .ref h16, .ref h17, .ref h18, .ref h19, .int 0, .ref h20, .ref h21, .ref h22, .ref h23, .int 0, .int 0, .ref h24, .ref h25, .int (-1), .ref h26, .ref h27]))]) [0] rfl
  have hDc := hD.sub (ws' := [(h0, .inr (8, [.int 1, .int 0, .int (-1), .int 0, .int 0, .int (-1), .int 0, .int 0, .int 0, .int 0, .int 0, .ref h1, .ref h2, .ref h3, .ref h4, .ref h5, .ref h6, .ref h7, .ref h8, .ref h9, .ref h10, .ref h11, .ref h12, .ref h13, .ref h14, .ref h15, .ref h16, .ref h17, .ref h18, .ref h19, .int 0, .ref h20, .ref h21, .ref h22, .ref h23, .int 0, .int 0, .ref h24, .ref h25, .int (-1), .ref h26, .ref h27]))]) [0] (by decide) rfl
  refine wGoi (wc := [(h0, .inr (8, [.int 1, .int 0, .int (-1), .int 0, .int 0, .int (-1), .int 0, .int 0, .int 0, .int 0, .int 0, .ref h1, .ref h2, .ref h3, .ref h4, .ref h5, .ref h6, .ref h7, .ref h8, .ref h9, .ref h10, .ref h11, .ref h12, .ref h13, .ref h14, .ref h15, .ref h16, .ref h17, .ref h18, .ref h19, .int 0, .ref h20, .ref h21, .ref h22, .ref h23, .int 0, .int 0, .ref h24, .ref h25, .int (-1), .ref h26, .ref h27]))]) (wr := []) (va_runV (As := [.int 18, .int p0, .int 0, .int 0, .int 0]) (rest := []) ⟨hx, hb, hml, hown, hts⟩ (m_X11_reason_27 l G K h0 h1 h2 h3 h4 h5 h6 h7 h8 h9 h10 h11 h12 h13 h14 h15 h16 h17 h18 h19 h20 h21 h22 h23 h24 h25 h26 h27 p0 _) (cwV 5 hts (wGV t_ (mw (.methodLink RX11 196 yX11_reason) (List.mem_of_getElem? (i := 0) rfl)) (mw (.instanceMethod yX11_reason) (List.mem_of_getElem? (i := 1) rfl)) (mw (.selects RX11 yX11_reason yX11_reason) (List.mem_of_getElem? (i := 2) rfl)) (mw (.initialized RX11) (List.mem_of_getElem? (i := 3) rfl)) j_X11_reason_27) rfl rfl rfl (by decide +kernel) ⟨Nat.le_of_ble_eq_true rfl, Nat.le_of_ble_eq_true rfl⟩) (wPV hK hE hPc hDc 8 0 rfl rfl) rfl rfl hl.1 rfl (lv_room (Nat.le_of_ble_eq_true rfl)) dX11_act_8 ⟨Nat.le_of_ble_eq_true rfl, Nat.le_of_ble_eq_true rfl⟩) hP hD hS hA [0] [] rfl rfl rfl (by decide) (fun r u H locs hw hP hD hS => ?_)
  rcases hw with ⟨rfl, rfl⟩
  have hP : va_P G vwCl [(h0, .inr (8, [.int 1, .int 0, .int (-1), .int 0, .int 0, .int (-1), .int 0, .int 0, .int 0, .int 0, .int 0, .ref h1, .ref h2, .ref h3, .ref h4, .ref h5, .ref h6, .ref h7, .ref h8, .ref h9, .ref h10, .ref h11, .ref h12, .ref h13, .ref h14, .ref h15, .ref h16, .ref h17, .ref h18, .ref h19, .int 0, .ref h20, .ref h21, .ref h22, .ref h23, .int 0, .int 0, .ref h24, .ref h25, .int (-1), .ref h26, .ref h27]))] _ := hP
  have hD : va_D A [(h0, .inr (8, [.int 1, .int 0, .int (-1), .int 0, .int 0, .int (-1), .int 0, .int 0, .int 0, .int 0, .int 0, .ref h1, .ref h2, .ref h3, .ref h4, .ref h5, .ref h6, .ref h7, .ref h8, .ref h9, .ref h10, .ref h11, .ref h12, .ref h13, .ref h14, .ref h15, .ref h16, .ref h17, .ref h18, .ref h19, .int 0, .ref h20, .ref h21, .ref h22, .ref h23, .int 0, .int 0, .ref h24, .ref h25, .int (-1), .ref h26, .ref h27]))] := hD
  refine lv_istore (lv' := [(6, .int 7), (0, .ref h0), (1, .int 18), (2, .int p0), (3, .int 0), (4, .int 0), (5, .int 0)]) hx hb dX11_act_11 hl (by decide) rfl (fun ls hl => ?_)
  refine lv_iload hx hb dX11_act_13 (lv_at hl 0 rfl) ?_
  refine lv_if_ne (tgt := 32) hx hb dX11_act_15 (by decide) (fun _ => ?_) (fun c_ => absurd c_ (by decide))
  refine lv_aload_n hx hb dX11_act_32 rfl (lv_at hl 1 rfl) ?_
  refine lv_iload hx hb dX11_act_33 (lv_at hl 0 rfl) ?_
  refine va_put (D := G) (ci := 8) (v := .int 7) (ty := .int) (C := RX11) (T := TX11) (N := 42) hx hb hts iX11 tyX11 tyX11_ok nmX11 hown hK hP hD hS 0 rfl rfl 10 (by decide) (hw (.fieldLink RX11 127 "MotionFloorModel$Hall" "why" "I") (List.mem_of_getElem? (i := 4) rfl)) (fun _ h9 => h9) rfl (by decide +kernel) rfl rfl (Nat.le_of_ble_eq_true rfl) dX11_act_35 (fun H locs hP hD hS => ?_)
  have hP : va_P G vwCl [(h0, .inr (8, [.int 1, .int 0, .int (-1), .int 0, .int 0, .int (-1), .int 0, .int 0, .int 0, .int 0, .int 7, .ref h1, .ref h2, .ref h3, .ref h4, .ref h5, .ref h6, .ref h7, .ref h8, .ref h9, .ref h10, .ref h11, .ref h12, .ref h13, .ref h14, .ref h15, .ref h16, .ref h17, .ref h18, .ref h19, .int 0, .ref h20, .ref h21, .ref h22, .ref h23, .int 0, .int 0, .ref h24, .ref h25, .int (-1), .ref h26, .ref h27]))] _ := hP
  have hD : va_D A [(h0, .inr (8, [.int 1, .int 0, .int (-1), .int 0, .int 0, .int (-1), .int 0, .int 0, .int 0, .int 0, .int 7, .ref h1, .ref h2, .ref h3, .ref h4, .ref h5, .ref h6, .ref h7, .ref h8, .ref h9, .ref h10, .ref h11, .ref h12, .ref h13, .ref h14, .ref h15, .ref h16, .ref h17, .ref h18, .ref h19, .int 0, .ref h20, .ref h21, .ref h22, .ref h23, .int 0, .int 0, .ref h24, .ref h25, .int (-1), .ref h26, .ref h27]))] := hD
  refine lv_iload hx hb dX11_act_38 (lv_at hl 0 rfl) ?_
  refine lv_if_le (tgt := 47) hx hb dX11_act_40 (by decide) (fun c_ => absurd c_ (by decide)) (fun _ => ?_)
  refine lv_iload hx hb dX11_act_43 (lv_at hl 0 rfl) ?_
  refine lv_ineg hx hb dX11_act_45 ?_
  refine wTop (v1 := .int (-7)) (congrArg Value.int (by decide)) ?_
  have hP9 : va_P G vwCl [(h0, .inr (8, [.int 1, .int 0, .int (-1), .int 0, .int 0, .int (-1), .int 0, .int 0, .int 0, .int 0, .int 7, .ref h1, .ref h2, .ref h3, .ref h4, .ref h5, .ref h6, .ref h7, .ref h8, .ref h9, .ref h10, .ref h11, .ref h12, .ref h13, .ref h14, .ref h15, .ref h16, .ref h17, .ref h18, .ref h19, .int 0, .ref h20, .ref h21, .ref h22, .ref h23, .int 0, .int 0, .ref h24, .ref h25, .int (-1), .ref h26, .ref h27]))] _ := hP
  have hD9 : va_D A [(h0, .inr (8, [.int 1, .int 0, .int (-1), .int 0, .int 0, .int (-1), .int 0, .int 0, .int 0, .int 0, .int 7, .ref h1, .ref h2, .ref h3, .ref h4, .ref h5, .ref h6, .ref h7, .ref h8, .ref h9, .ref h10, .ref h11, .ref h12, .ref h13, .ref h14, .ref h15, .ref h16, .ref h17, .ref h18, .ref h19, .int 0, .ref h20, .ref h21, .ref h22, .ref h23, .int 0, .int 0, .ref h24, .ref h25, .int (-1), .ref h26, .ref h27]))] := hD
  exact W.iret (v := (-7)) hx hb hr (fun t ht hW => ⟨⟨(-7), _, rfl, ⟨rfl, rfl⟩, by rw [ht]; exact hP9, hD9⟩, hS.F ht⟩) hS.2.2 dX11_act_46
def e_X12_withdraw_0 : List Cond := [.fieldLink RX12 16 "MotionFloorModel" "hall" "LMotionFloorModel$Hall;", .methodLink RX12 40 yX11_act, .instanceMethod yX11_act, .selects RX11 yX11_act yX11_act, .initialized RX11]
def v_X12_withdraw_0 : List Cond := .code yX12_withdraw cX12_withdraw 2 (some .int) :: (e_X12_withdraw_0 ++ (wsX120 ++ (v_X11_act_27 ++ [])))
theorem te_X12_withdraw_0 : GoodIn lw_tbl e_X12_withdraw_0 := wGc z225 (wGc z368 (wGc z367 (wGc z366 (wGc z227 (wG0)))))
theorem t_X12_withdraw_0 : GoodIn lw_tbl v_X12_withdraw_0 := wGc z640 (wGa te_X12_withdraw_0 (wGa zcX12 (wGa t_X11_act_27 (wG0))))
set_option maxHeartbeats 4000000 in
set_option maxRecDepth 100000 in
theorem m_X12_withdraw_0 (l : Launch) (G : va_G) (K : Nat → ClassId) (h0 h1 h2 h3 h4 h5 h6 h7 h8 h9 h10 h11 h12 h13 h14 h15 h16 h17 h18 h19 h20 h21 h22 h23 h24 h25 h26 h27 h28 h29 h30 h31 h32 h33 : Nat) (p0 : Int32) (sz : Nat) : Met l yX12_withdraw v_X12_withdraw_0 ({ frames := 2, cells := 0, slots := 0, locals := 54 }) (va_Pc [.ref h0, .int p0] (wS G K sz [(h0, .inr (9, [.ref h1, .ref h2, .ref h3, .ref h4, .ref h5, .ref h6, .int 0])), (h1, .inr (8, [.int 1, .int 0, .int (-1), .int 0, .int 0, .int (-1), .int 0, .int 0, .int 0, .int 0, .int 0, .ref h7, .ref h8, .ref h9, .ref h10, .ref h11, .ref h12, .ref h13, .ref h14, .ref h15, .ref h16, .ref h17, .ref h18, .ref h19, .ref h20, .ref h21, .ref h22, .ref h23, .ref h24, .ref h25, .int 0, .ref h26, .ref h27, .ref h28, .ref h29, .int 0, .int 0, .ref h30, .ref h31, .int (-1), .ref h32, .ref h33]))])) (va_Qi (fun (r : Int32) (u : va_W) => ((-7) = r ∧ u = [(h0, .inr (9, [.ref h1, .ref h2, .ref h3, .ref h4, .ref h5, .ref h6, .int 0])), (h1, .inr (8, [.int 1, .int 0, .int (-1), .int 0, .int 0, .int (-1), .int 0, .int 0, .int 0, .int 0, .int 7, .ref h7, .ref h8, .ref h9, .ref h10, .ref h11, .ref h12, .ref h13, .ref h14, .ref h15, .ref h16, .ref h17, .ref h18, .ref h19, .ref h20, .ref h21, .ref h22, .ref h23, .ref h24, .ref h25, .int 0, .ref h26, .ref h27, .ref h28, .ref h29, .int 0, .int 0, .ref h30, .ref h31, .int (-1), .ref h32, .ref h33]))])) (wB G (va_A [(h0, .inr (9, [.ref h1, .ref h2, .ref h3, .ref h4, .ref h5, .ref h6, .int 0])), (h1, .inr (8, [.int 1, .int 0, .int (-1), .int 0, .int 0, .int (-1), .int 0, .int 0, .int 0, .int 0, .int 0, .ref h7, .ref h8, .ref h9, .ref h10, .ref h11, .ref h12, .ref h13, .ref h14, .ref h15, .ref h16, .ref h17, .ref h18, .ref h19, .ref h20, .ref h21, .ref h22, .ref h23, .ref h24, .ref h25, .int 0, .ref h26, .ref h27, .ref h28, .ref h29, .int 0, .int 0, .ref h30, .ref h31, .int (-1), .ref h32, .ref h33]))] sz)) (va_A [(h0, .inr (9, [.ref h1, .ref h2, .ref h3, .ref h4, .ref h5, .ref h6, .int 0])), (h1, .inr (8, [.int 1, .int 0, .int (-1), .int 0, .int 0, .int (-1), .int 0, .int 0, .int 0, .int 0, .int 0, .ref h7, .ref h8, .ref h9, .ref h10, .ref h11, .ref h12, .ref h13, .ref h14, .ref h15, .ref h16, .ref h17, .ref h18, .ref h19, .ref h20, .ref h21, .ref h22, .ref h23, .ref h24, .ref h25, .int 0, .ref h26, .ref h27, .ref h28, .ref h29, .int 0, .int 0, .ref h30, .ref h31, .int (-1), .ref h32, .ref h33]))] sz)) 0 0 (va_A [(h0, .inr (9, [.ref h1, .ref h2, .ref h3, .ref h4, .ref h5, .ref h6, .int 0])), (h1, .inr (8, [.int 1, .int 0, .int (-1), .int 0, .int 0, .int (-1), .int 0, .int 0, .int 0, .int 0, .int 0, .ref h7, .ref h8, .ref h9, .ref h10, .ref h11, .ref h12, .ref h13, .ref h14, .ref h15, .ref h16, .ref h17, .ref h18, .ref h19, .ref h20, .ref h21, .ref h22, .ref h23, .ref h24, .ref h25, .int 0, .ref h26, .ref h27, .ref h28, .ref h29, .int 0, .int 0, .ref h30, .ref h31, .int (-1), .ref h32, .ref h33]))] sz) := by
  refine Met.ofW (cc := cX12_withdraw) (maxL := 2) (ret := (some .int)) (by decide) rfl ?_
  intro p e s m args below meth c s₁ B hml hv
  obtain ⟨rfl, hsz, hP, hK, hD0, hE⟩ := hv
  have hx := B.exec
  have hb := B.bytes
  have hr := B.returns
  have hts := atoms_spec (ws := v_X12_withdraw_0) B.pre
  have t_ := t_X12_withdraw_0
  have mw : ∀ w ∈ e_X12_withdraw_0, w ∈ v_X12_withdraw_0 := fun w h => List.mem_cons_of_mem _ (List.mem_append_left _ h)
  have hw := fun w (h : w ∈ e_X12_withdraw_0) => hts w (mw w h)
  have iX12 : ∀ w ∈ wsX120, w ∈ v_X12_withdraw_0 := fun w h => List.mem_cons_of_mem _ (List.mem_append_right _ (List.mem_append_left _ h))
  have j_X11_act_27 : ∀ w ∈ v_X11_act_27, w ∈ v_X12_withdraw_0 := fun w h => List.mem_cons_of_mem _ (List.mem_append_right _ (List.mem_append_right _ (List.mem_append_left _ h)))
  have hown : s.vm.findClass RX12 = some m.cls := findClass_of_methodNamed B.named
  have hlocks := B.notSynchronized
  subst hsz
  have hD := hD0.self (sz := s.heap.size)
  generalize hAe : va_A [(h0, .inr (9, [.ref h1, .ref h2, .ref h3, .ref h4, .ref h5, .ref h6, .int 0])), (h1, .inr (8, [.int 1, .int 0, .int (-1), .int 0, .int 0, .int (-1), .int 0, .int 0, .int 0, .int 0, .int 0, .ref h7, .ref h8, .ref h9, .ref h10, .ref h11, .ref h12, .ref h13, .ref h14, .ref h15, .ref h16, .ref h17, .ref h18, .ref h19, .ref h20, .ref h21, .ref h22, .ref h23, .ref h24, .ref h25, .int 0, .ref h26, .ref h27, .ref h28, .ref h29, .int 0, .int 0, .ref h30, .ref h31, .int (-1), .ref h32, .ref h33]))] s.heap.size = A at hD ⊢
  have hA : ∀ q : Nat, s.heap.size ≤ q → A q := fun q h => by rw [← hAe]; exact Or.inr h
  have hS : va_S A s.heap s.heap [] := va_S.rf
  have hP : va_P G vwCl [(h0, .inr (9, [.ref h1, .ref h2, .ref h3, .ref h4, .ref h5, .ref h6, .int 0])), (h1, .inr (8, [.int 1, .int 0, .int (-1), .int 0, .int 0, .int (-1), .int 0, .int 0, .int 0, .int 0, .int 0, .ref h7, .ref h8, .ref h9, .ref h10, .ref h11, .ref h12, .ref h13, .ref h14, .ref h15, .ref h16, .ref h17, .ref h18, .ref h19, .ref h20, .ref h21, .ref h22, .ref h23, .ref h24, .ref h25, .int 0, .ref h26, .ref h27, .ref h28, .ref h29, .int 0, .int 0, .ref h30, .ref h31, .int (-1), .ref h32, .ref h33]))] s.heap := hP
  have hl := lv_entry ([.ref h0, .int p0]) (n := 2) (Nat.le_of_ble_eq_true rfl)
  rw [lg_entry_eq]
  generalize (lg_sl ([.ref h0, .int p0]) ++ List.replicate (2 - (lg_sl ([.ref h0, .int p0])).length) Slot.unset).toArray = ls at hl ⊢
  have hl : lv_has ls 2 [(0, .ref h0), (1, .int p0)] := hl
  refine lv_aload_n hx hb dX12_withdraw_0 rfl (lv_at hl 0 rfl) ?_
  refine va_get (D := G) (ci := 9) (v := .ref h1) (C := RX12) (T := TX12) (N := 7) hx hb hts iX12 hown hK hP 0 rfl rfl 0 (by decide) (hw (.fieldLink RX12 16 "MotionFloorModel" "hall" "LMotionFloorModel$Hall;") (List.mem_of_getElem? (i := 0) rfl)) (fun _ h9 => h9) rfl dX12_withdraw_1 ?_
  refine lv_bipush (v := 18) hx hb dX12_withdraw_4 (by decide) ?_
  refine lv_iload_n hx hb dX12_withdraw_6 rfl (lv_at hl 1 rfl) ?_
  refine lv_iconst (v := 0) hx hb dX12_withdraw_7 (by decide) ?_
  refine lv_iconst (v := 0) hx hb dX12_withdraw_8 (by decide) ?_
  refine lv_iconst (v := 0) hx hb dX12_withdraw_9 (by decide) ?_
  have hPc := hP.sub (ws' := [(h1, .inr (8, [.int 1, .int 0, .int (-1), .int 0, .int 0, .int (-1), .int 0, .int 0, .int 0, .int 0, .int 0, .ref h7, .ref h8, .ref h9, .ref h10, .ref h11, .ref h12, .ref h13, .ref h14, .ref h15, .ref h16, .ref h17, .ref h18, .ref h19, .ref h20, .ref h21, .ref h22, .ref h23, .ref h24, .ref h25, .int 0, .ref h26, .ref h27, .ref h28, .ref h29, .int 0, .int 0, .ref h30, .ref h31, .int (-1), .ref h32, .ref h33]))]) [1] rfl
  have hDc := hD.sub (ws' := [(h1, .inr (8, [.int 1, .int 0, .int (-1), .int 0, .int 0, .int (-1), .int 0, .int 0, .int 0, .int 0, .int 0, .ref h7, .ref h8, .ref h9, .ref h10, .ref h11, .ref h12, .ref h13, .ref h14, .ref h15, .ref h16, .ref h17, .ref h18, .ref h19, .ref h20, .ref h21, .ref h22, .ref h23, .ref h24, .ref h25, .int 0, .ref h26, .ref h27, .ref h28, .ref h29, .int 0, .int 0, .ref h30, .ref h31, .int (-1), .ref h32, .ref h33]))]) [1] (by decide) rfl
  refine wGoi (wc := [(h1, .inr (8, [.int 1, .int 0, .int (-1), .int 0, .int 0, .int (-1), .int 0, .int 0, .int 0, .int 0, .int 0, .ref h7, .ref h8, .ref h9, .ref h10, .ref h11, .ref h12, .ref h13, .ref h14, .ref h15, .ref h16, .ref h17, .ref h18, .ref h19, .ref h20, .ref h21, .ref h22, .ref h23, .ref h24, .ref h25, .int 0, .ref h26, .ref h27, .ref h28, .ref h29, .int 0, .int 0, .ref h30, .ref h31, .int (-1), .ref h32, .ref h33]))]) (wr := [(h0, .inr (9, [.ref h1, .ref h2, .ref h3, .ref h4, .ref h5, .ref h6, .int 0]))]) (va_runV (As := [.int 18, .int p0, .int 0, .int 0, .int 0]) (rest := []) ⟨hx, hb, hml, hown, hts⟩ (m_X11_act_27 l G K h1 h7 h8 h9 h10 h11 h12 h13 h14 h15 h16 h17 h18 h19 h20 h21 h22 h23 h24 h25 h26 h27 h28 h29 h30 h31 h32 h33 p0 _) (cwV 5 hts (wGV t_ (mw (.methodLink RX12 40 yX11_act) (List.mem_of_getElem? (i := 1) rfl)) (mw (.instanceMethod yX11_act) (List.mem_of_getElem? (i := 2) rfl)) (mw (.selects RX11 yX11_act yX11_act) (List.mem_of_getElem? (i := 3) rfl)) (mw (.initialized RX11) (List.mem_of_getElem? (i := 4) rfl)) j_X11_act_27) rfl rfl rfl (by decide +kernel) ⟨Nat.le_of_ble_eq_true rfl, Nat.le_of_ble_eq_true rfl⟩) (wPV hK hE hPc hDc 8 0 rfl rfl) rfl rfl hl.1 rfl (lv_room (Nat.le_of_ble_eq_true rfl)) dX12_withdraw_10 ⟨Nat.le_of_ble_eq_true rfl, Nat.le_of_ble_eq_true rfl⟩) hP hD hS hA [1] [0] rfl rfl rfl (by decide) (fun r u H locs hw hP hD hS => ?_)
  rcases hw with ⟨rfl, rfl⟩
  have hP : va_P G vwCl [(h0, .inr (9, [.ref h1, .ref h2, .ref h3, .ref h4, .ref h5, .ref h6, .int 0])), (h1, .inr (8, [.int 1, .int 0, .int (-1), .int 0, .int 0, .int (-1), .int 0, .int 0, .int 0, .int 0, .int 7, .ref h7, .ref h8, .ref h9, .ref h10, .ref h11, .ref h12, .ref h13, .ref h14, .ref h15, .ref h16, .ref h17, .ref h18, .ref h19, .ref h20, .ref h21, .ref h22, .ref h23, .ref h24, .ref h25, .int 0, .ref h26, .ref h27, .ref h28, .ref h29, .int 0, .int 0, .ref h30, .ref h31, .int (-1), .ref h32, .ref h33]))] _ := hP
  have hD : va_D A [(h0, .inr (9, [.ref h1, .ref h2, .ref h3, .ref h4, .ref h5, .ref h6, .int 0])), (h1, .inr (8, [.int 1, .int 0, .int (-1), .int 0, .int 0, .int (-1), .int 0, .int 0, .int 0, .int 0, .int 7, .ref h7, .ref h8, .ref h9, .ref h10, .ref h11, .ref h12, .ref h13, .ref h14, .ref h15, .ref h16, .ref h17, .ref h18, .ref h19, .ref h20, .ref h21, .ref h22, .ref h23, .ref h24, .ref h25, .int 0, .ref h26, .ref h27, .ref h28, .ref h29, .int 0, .int 0, .ref h30, .ref h31, .int (-1), .ref h32, .ref h33]))] := hD
  have hP9 : va_P G vwCl [(h0, .inr (9, [.ref h1, .ref h2, .ref h3, .ref h4, .ref h5, .ref h6, .int 0])), (h1, .inr (8, [.int 1, .int 0, .int (-1), .int 0, .int 0, .int (-1), .int 0, .int 0, .int 0, .int 0, .int 7, .ref h7, .ref h8, .ref h9, .ref h10, .ref h11, .ref h12, .ref h13, .ref h14, .ref h15, .ref h16, .ref h17, .ref h18, .ref h19, .ref h20, .ref h21, .ref h22, .ref h23, .ref h24, .ref h25, .int 0, .ref h26, .ref h27, .ref h28, .ref h29, .int 0, .int 0, .ref h30, .ref h31, .int (-1), .ref h32, .ref h33]))] _ := hP
  have hD9 : va_D A [(h0, .inr (9, [.ref h1, .ref h2, .ref h3, .ref h4, .ref h5, .ref h6, .int 0])), (h1, .inr (8, [.int 1, .int 0, .int (-1), .int 0, .int 0, .int (-1), .int 0, .int 0, .int 0, .int 0, .int 7, .ref h7, .ref h8, .ref h9, .ref h10, .ref h11, .ref h12, .ref h13, .ref h14, .ref h15, .ref h16, .ref h17, .ref h18, .ref h19, .ref h20, .ref h21, .ref h22, .ref h23, .ref h24, .ref h25, .int 0, .ref h26, .ref h27, .ref h28, .ref h29, .int 0, .int 0, .ref h30, .ref h31, .int (-1), .ref h32, .ref h33]))] := hD
  exact W.iret (v := (-7)) hx hb hr (fun t ht hW => ⟨⟨(-7), _, rfl, ⟨rfl, rfl⟩, by rw [ht]; exact hP9, hD9⟩, hS.F ht⟩) hS.2.2 dX12_withdraw_13
def e_X8_againstOnMotion_4 : List Cond := [.fieldLink RX8 34 "MotionFloor$Assembly" "house" "LMotionFloor$House;", .fieldLink RX8 79 "MotionFloor$House" "chair" "I", .methodLink RX8 82 yX2_isThere, .instanceMethod yX2_isThere, .selects RX2 yX2_isThere yX2_isThere, .initialized RX2]
def v_X8_againstOnMotion_4 : List Cond := .code yX8_againstOnMotion cX8_againstOnMotion 6 (some .int) :: (e_X8_againstOnMotion_4 ++ (wsX00 ++ (wsX20 ++ (v_X2_isThere_1 ++ []))))
theorem te_X8_againstOnMotion_4 : GoodIn lw_tbl e_X8_againstOnMotion_4 := wGc z300 (wGc z622 (wGc z292 (wGc z291 (wGc z290 (wGc z57 (wG0))))))
theorem t_X8_againstOnMotion_4 : GoodIn lw_tbl v_X8_againstOnMotion_4 := wGc z607 (wGa te_X8_againstOnMotion_4 (wGa zcX0 (wGa zcX2 (wGa t_X2_isThere_1 (wG0)))))
set_option maxHeartbeats 4000000 in
set_option maxRecDepth 100000 in
theorem m_X8_againstOnMotion_4 (l : Launch) (G : va_G) (K : Nat → ClassId) (h0 h1 h2 h3 h4 h5 h6 h7 h8 h9 : Nat) (sz : Nat) : Met l yX8_againstOnMotion v_X8_againstOnMotion_4 ({ frames := 1, cells := 0, slots := 0, locals := 21 }) (va_Pc [.ref h0, .int 19, .int 0, .int 0] (wS G K sz [(h0, .inr (0, [.ref h1, .ref h2, .ref h3, .ref h4, .ref h5, .ref h6, .ref h7, .int 0, .int 0, .int 0, .null])), (h1, .inr (1, [.int 1, .ref h8, .int 0, .int (-1), .int 0, .int 0, .int (-1), .ref h9]))])) (va_Qi (fun (r : Int32) (u : va_W) => (8 = r ∧ u = [(h0, .inr (0, [.ref h1, .ref h2, .ref h3, .ref h4, .ref h5, .ref h6, .ref h7, .int 0, .int 0, .int 0, .null])), (h1, .inr (1, [.int 1, .ref h8, .int 0, .int (-1), .int 0, .int 0, .int (-1), .ref h9]))])) (wB G (va_A [(h0, .inr (0, [.ref h1, .ref h2, .ref h3, .ref h4, .ref h5, .ref h6, .ref h7, .int 0, .int 0, .int 0, .null])), (h1, .inr (1, [.int 1, .ref h8, .int 0, .int (-1), .int 0, .int 0, .int (-1), .ref h9]))] sz)) (va_A [(h0, .inr (0, [.ref h1, .ref h2, .ref h3, .ref h4, .ref h5, .ref h6, .ref h7, .int 0, .int 0, .int 0, .null])), (h1, .inr (1, [.int 1, .ref h8, .int 0, .int (-1), .int 0, .int 0, .int (-1), .ref h9]))] sz)) 0 0 (va_A [(h0, .inr (0, [.ref h1, .ref h2, .ref h3, .ref h4, .ref h5, .ref h6, .ref h7, .int 0, .int 0, .int 0, .null])), (h1, .inr (1, [.int 1, .ref h8, .int 0, .int (-1), .int 0, .int 0, .int (-1), .ref h9]))] sz) := by
  refine Met.ofW (cc := cX8_againstOnMotion) (maxL := 6) (ret := (some .int)) (by decide) rfl ?_
  intro p e s m args below meth c s₁ B hml hv
  obtain ⟨rfl, hsz, hP, hK, hD0, hE⟩ := hv
  have hx := B.exec
  have hb := B.bytes
  have hr := B.returns
  have hts := atoms_spec (ws := v_X8_againstOnMotion_4) B.pre
  have t_ := t_X8_againstOnMotion_4
  have mw : ∀ w ∈ e_X8_againstOnMotion_4, w ∈ v_X8_againstOnMotion_4 := fun w h => List.mem_cons_of_mem _ (List.mem_append_left _ h)
  have hw := fun w (h : w ∈ e_X8_againstOnMotion_4) => hts w (mw w h)
  have iX0 : ∀ w ∈ wsX00, w ∈ v_X8_againstOnMotion_4 := fun w h => List.mem_cons_of_mem _ (List.mem_append_right _ (List.mem_append_left _ h))
  have iX2 : ∀ w ∈ wsX20, w ∈ v_X8_againstOnMotion_4 := fun w h => List.mem_cons_of_mem _ (List.mem_append_right _ (List.mem_append_right _ (List.mem_append_left _ h)))
  have j_X2_isThere_1 : ∀ w ∈ v_X2_isThere_1, w ∈ v_X8_againstOnMotion_4 := fun w h => List.mem_cons_of_mem _ (List.mem_append_right _ (List.mem_append_right _ (List.mem_append_right _ (List.mem_append_left _ h))))
  have hown : s.vm.findClass RX8 = some m.cls := findClass_of_methodNamed B.named
  have hlocks := B.notSynchronized
  subst hsz
  have hD := hD0.self (sz := s.heap.size)
  generalize hAe : va_A [(h0, .inr (0, [.ref h1, .ref h2, .ref h3, .ref h4, .ref h5, .ref h6, .ref h7, .int 0, .int 0, .int 0, .null])), (h1, .inr (1, [.int 1, .ref h8, .int 0, .int (-1), .int 0, .int 0, .int (-1), .ref h9]))] s.heap.size = A at hD ⊢
  have hA : ∀ q : Nat, s.heap.size ≤ q → A q := fun q h => by rw [← hAe]; exact Or.inr h
  have hS : va_S A s.heap s.heap [] := va_S.rf
  have hP : va_P G vwCl [(h0, .inr (0, [.ref h1, .ref h2, .ref h3, .ref h4, .ref h5, .ref h6, .ref h7, .int 0, .int 0, .int 0, .null])), (h1, .inr (1, [.int 1, .ref h8, .int 0, .int (-1), .int 0, .int 0, .int (-1), .ref h9]))] s.heap := hP
  have hl := lv_entry ([.ref h0, .int 19, .int 0, .int 0]) (n := 6) (Nat.le_of_ble_eq_true rfl)
  rw [lg_entry_eq]
  generalize (lg_sl ([.ref h0, .int 19, .int 0, .int 0]) ++ List.replicate (6 - (lg_sl ([.ref h0, .int 19, .int 0, .int 0])).length) Slot.unset).toArray = ls at hl ⊢
  have hl : lv_has ls 6 [(0, .ref h0), (1, .int 19), (2, .int 0), (3, .int 0)] := hl
  refine lv_iload_n hx hb dX8_againstOnMotion_0 rfl (lv_at hl 1 rfl) ?_
  refine lv_bipush (v := 15) hx hb dX8_againstOnMotion_1 (by decide) ?_
  refine lv_icmp_ne (tgt := 12) hx hb dX8_againstOnMotion_3 (by decide) (fun _ => ?_) (fun c_ => absurd c_ (by decide))
  refine lv_aload_n hx hb dX8_againstOnMotion_12 rfl (lv_at hl 0 rfl) ?_
  refine va_get (D := G) (ci := 0) (v := .ref h1) (C := RX0) (T := TX0) (N := 11) hx hb hts iX0 hown hK hP 0 rfl rfl 0 (by decide) (hw (.fieldLink RX8 34 "MotionFloor$Assembly" "house" "LMotionFloor$House;") (List.mem_of_getElem? (i := 0) rfl)) (fun _ h9 => h9) rfl dX8_againstOnMotion_13 ?_
  refine lv_aload_n hx hb dX8_againstOnMotion_16 rfl (lv_at hl 0 rfl) ?_
  refine va_get (D := G) (ci := 0) (v := .ref h1) (C := RX0) (T := TX0) (N := 11) hx hb hts iX0 hown hK hP 0 rfl rfl 0 (by decide) (hw (.fieldLink RX8 34 "MotionFloor$Assembly" "house" "LMotionFloor$House;") (List.mem_of_getElem? (i := 0) rfl)) (fun _ h9 => h9) rfl dX8_againstOnMotion_17 ?_
  refine va_get (D := G) (ci := 1) (v := .int (-1)) (C := RX2) (T := TX2) (N := 8) hx hb hts iX2 hown hK hP 1 rfl rfl 3 (by decide) (hw (.fieldLink RX8 79 "MotionFloor$House" "chair" "I") (List.mem_of_getElem? (i := 1) rfl)) (fun _ h9 => h9) rfl dX8_againstOnMotion_20 ?_
  have hPc := hP.sub (ws' := [(h1, .inr (1, [.int 1, .ref h8, .int 0, .int (-1), .int 0, .int 0, .int (-1), .ref h9]))]) [1] rfl
  have hDc := hD.sub (ws' := [(h1, .inr (1, [.int 1, .ref h8, .int 0, .int (-1), .int 0, .int 0, .int (-1), .ref h9]))]) [1] (by decide) rfl
  refine wGoi (wc := [(h1, .inr (1, [.int 1, .ref h8, .int 0, .int (-1), .int 0, .int 0, .int (-1), .ref h9]))]) (wr := [(h0, .inr (0, [.ref h1, .ref h2, .ref h3, .ref h4, .ref h5, .ref h6, .ref h7, .int 0, .int 0, .int 0, .null]))]) (va_runV (As := [.int (-1)]) (rest := []) ⟨hx, hb, hml, hown, hts⟩ (m_X2_isThere_1 l G K h1 h8 h9 _) (cwV 1 hts (wGV t_ (mw (.methodLink RX8 82 yX2_isThere) (List.mem_of_getElem? (i := 2) rfl)) (mw (.instanceMethod yX2_isThere) (List.mem_of_getElem? (i := 3) rfl)) (mw (.selects RX2 yX2_isThere yX2_isThere) (List.mem_of_getElem? (i := 4) rfl)) (mw (.initialized RX2) (List.mem_of_getElem? (i := 5) rfl)) j_X2_isThere_1) rfl rfl rfl (by decide +kernel) ⟨Nat.le_of_ble_eq_true rfl, Nat.le_of_ble_eq_true rfl⟩) (wPV hK hE hPc hDc 1 0 rfl rfl) rfl rfl hl.1 rfl (lv_room (Nat.le_of_ble_eq_true rfl)) dX8_againstOnMotion_23 ⟨Nat.le_of_ble_eq_true rfl, Nat.le_of_ble_eq_true rfl⟩) hP hD hS hA [1] [0] rfl rfl rfl (by decide) (fun r u H locs hw hP hD hS => ?_)
  rcases hw with ⟨rfl, rfl⟩
  have hP : va_P G vwCl [(h0, .inr (0, [.ref h1, .ref h2, .ref h3, .ref h4, .ref h5, .ref h6, .ref h7, .int 0, .int 0, .int 0, .null])), (h1, .inr (1, [.int 1, .ref h8, .int 0, .int (-1), .int 0, .int 0, .int (-1), .ref h9]))] _ := hP
  have hD : va_D A [(h0, .inr (0, [.ref h1, .ref h2, .ref h3, .ref h4, .ref h5, .ref h6, .ref h7, .int 0, .int 0, .int 0, .null])), (h1, .inr (1, [.int 1, .ref h8, .int 0, .int (-1), .int 0, .int 0, .int (-1), .ref h9]))] := hD
  refine lv_istore (lv' := [(4, .int 0), (0, .ref h0), (1, .int 19), (2, .int 0), (3, .int 0)]) hx hb dX8_againstOnMotion_26 hl (by decide) rfl (fun ls hl => ?_)
  refine lv_iload_n hx hb dX8_againstOnMotion_28 rfl (lv_at hl 2 rfl) ?_
  refine lv_bipush (v := 22) hx hb dX8_againstOnMotion_29 (by decide) ?_
  refine lv_icmp_ne (tgt := 46) hx hb dX8_againstOnMotion_31 (by decide) (fun _ => ?_) (fun c_ => absurd c_ (by decide))
  refine lv_iload_n hx hb dX8_againstOnMotion_46 rfl (lv_at hl 2 rfl) ?_
  refine lv_bipush (v := 19) hx hb dX8_againstOnMotion_47 (by decide) ?_
  refine lv_icmp_eq (tgt := 58) hx hb dX8_againstOnMotion_49 (by decide) (fun _ => ?_) (fun c_ => absurd c_ (by decide))
  refine lv_iload hx hb dX8_againstOnMotion_58 (lv_at hl 0 rfl) ?_
  refine lv_if_ne (tgt := 66) hx hb dX8_againstOnMotion_60 (by decide) (fun c_ => absurd c_ (by decide)) (fun _ => ?_)
  refine lv_bipush (v := 8) hx hb dX8_againstOnMotion_63 (by decide) ?_
  have hP9 : va_P G vwCl [(h0, .inr (0, [.ref h1, .ref h2, .ref h3, .ref h4, .ref h5, .ref h6, .ref h7, .int 0, .int 0, .int 0, .null])), (h1, .inr (1, [.int 1, .ref h8, .int 0, .int (-1), .int 0, .int 0, .int (-1), .ref h9]))] _ := hP
  have hD9 : va_D A [(h0, .inr (0, [.ref h1, .ref h2, .ref h3, .ref h4, .ref h5, .ref h6, .ref h7, .int 0, .int 0, .int 0, .null])), (h1, .inr (1, [.int 1, .ref h8, .int 0, .int (-1), .int 0, .int 0, .int (-1), .ref h9]))] := hD
  exact W.iret (v := 8) hx hb hr (fun t ht hW => ⟨⟨8, _, rfl, ⟨rfl, rfl⟩, by rw [ht]; exact hP9, hD9⟩, hS.F ht⟩) hS.2.2 dX8_againstOnMotion_65
def e_X8_against_18 : List Cond := [.methodLink RX8 19 yX8_againstOnMotion, .static yX8_againstOnMotion, .initialized RX8]
def v_X8_against_18 : List Cond := .code yX8_against cX8_against 7 (some .int) :: (e_X8_against_18 ++ (v_X8_againstOnMotion_4 ++ []))
theorem te_X8_against_18 : GoodIn lw_tbl e_X8_against_18 := wGc z609 (wGc z608 (wGc z297 (wG0)))
theorem t_X8_against_18 : GoodIn lw_tbl v_X8_against_18 := wGc z310 (wGa te_X8_against_18 (wGa t_X8_againstOnMotion_4 (wG0)))
set_option maxHeartbeats 4000000 in
set_option maxRecDepth 100000 in
theorem m_X8_against_18 (l : Launch) (G : va_G) (K : Nat → ClassId) (h0 h1 h2 h3 h4 h5 h6 h7 h8 h9 : Nat) (sz : Nat) : Met l yX8_against v_X8_against_18 ({ frames := 2, cells := 0, slots := 0, locals := 46 }) (va_Pc [.ref h0, .int 19, .int 0, .int 0, .int 0, .int 0] (wS G K sz [(h0, .inr (0, [.ref h1, .ref h2, .ref h3, .ref h4, .ref h5, .ref h6, .ref h7, .int 0, .int 0, .int 0, .null])), (h1, .inr (1, [.int 1, .ref h8, .int 0, .int (-1), .int 0, .int 0, .int (-1), .ref h9]))])) (va_Qi (fun (r : Int32) (u : va_W) => (8 = r ∧ u = [(h0, .inr (0, [.ref h1, .ref h2, .ref h3, .ref h4, .ref h5, .ref h6, .ref h7, .int 0, .int 0, .int 0, .null])), (h1, .inr (1, [.int 1, .ref h8, .int 0, .int (-1), .int 0, .int 0, .int (-1), .ref h9]))])) (wB G (va_A [(h0, .inr (0, [.ref h1, .ref h2, .ref h3, .ref h4, .ref h5, .ref h6, .ref h7, .int 0, .int 0, .int 0, .null])), (h1, .inr (1, [.int 1, .ref h8, .int 0, .int (-1), .int 0, .int 0, .int (-1), .ref h9]))] sz)) (va_A [(h0, .inr (0, [.ref h1, .ref h2, .ref h3, .ref h4, .ref h5, .ref h6, .ref h7, .int 0, .int 0, .int 0, .null])), (h1, .inr (1, [.int 1, .ref h8, .int 0, .int (-1), .int 0, .int 0, .int (-1), .ref h9]))] sz)) 0 0 (va_A [(h0, .inr (0, [.ref h1, .ref h2, .ref h3, .ref h4, .ref h5, .ref h6, .ref h7, .int 0, .int 0, .int 0, .null])), (h1, .inr (1, [.int 1, .ref h8, .int 0, .int (-1), .int 0, .int 0, .int (-1), .ref h9]))] sz) := by
  refine Met.ofW (cc := cX8_against) (maxL := 7) (ret := (some .int)) (by decide) rfl ?_
  intro p e s m args below meth c s₁ B hml hv
  obtain ⟨rfl, hsz, hP, hK, hD0, hE⟩ := hv
  have hx := B.exec
  have hb := B.bytes
  have hr := B.returns
  have hts := atoms_spec (ws := v_X8_against_18) B.pre
  have t_ := t_X8_against_18
  have mw : ∀ w ∈ e_X8_against_18, w ∈ v_X8_against_18 := fun w h => List.mem_cons_of_mem _ (List.mem_append_left _ h)
  have hw := fun w (h : w ∈ e_X8_against_18) => hts w (mw w h)
  have j_X8_againstOnMotion_4 : ∀ w ∈ v_X8_againstOnMotion_4, w ∈ v_X8_against_18 := fun w h => List.mem_cons_of_mem _ (List.mem_append_right _ (List.mem_append_left _ h))
  have hown : s.vm.findClass RX8 = some m.cls := findClass_of_methodNamed B.named
  have hlocks := B.notSynchronized
  subst hsz
  have hD := hD0.self (sz := s.heap.size)
  generalize hAe : va_A [(h0, .inr (0, [.ref h1, .ref h2, .ref h3, .ref h4, .ref h5, .ref h6, .ref h7, .int 0, .int 0, .int 0, .null])), (h1, .inr (1, [.int 1, .ref h8, .int 0, .int (-1), .int 0, .int 0, .int (-1), .ref h9]))] s.heap.size = A at hD ⊢
  have hA : ∀ q : Nat, s.heap.size ≤ q → A q := fun q h => by rw [← hAe]; exact Or.inr h
  have hS : va_S A s.heap s.heap [] := va_S.rf
  have hP : va_P G vwCl [(h0, .inr (0, [.ref h1, .ref h2, .ref h3, .ref h4, .ref h5, .ref h6, .ref h7, .int 0, .int 0, .int 0, .null])), (h1, .inr (1, [.int 1, .ref h8, .int 0, .int (-1), .int 0, .int 0, .int (-1), .ref h9]))] s.heap := hP
  have hl := lv_entry ([.ref h0, .int 19, .int 0, .int 0, .int 0, .int 0]) (n := 7) (Nat.le_of_ble_eq_true rfl)
  rw [lg_entry_eq]
  generalize (lg_sl ([.ref h0, .int 19, .int 0, .int 0, .int 0, .int 0]) ++ List.replicate (7 - (lg_sl ([.ref h0, .int 19, .int 0, .int 0, .int 0, .int 0])).length) Slot.unset).toArray = ls at hl ⊢
  have hl : lv_has ls 7 [(0, .ref h0), (1, .int 19), (2, .int 0), (3, .int 0), (4, .int 0), (5, .int 0)] := hl
  refine lv_iload_n hx hb dX8_against_0 rfl (lv_at hl 1 rfl) ?_
  refine lv_bipush (v := 9) hx hb dX8_against_1 (by decide) ?_
  refine lv_icmp_gt (tgt := 18) hx hb dX8_against_3 (by decide) (fun _ => ?_) (fun c_ => absurd c_ (by decide))
  refine lv_iload_n hx hb dX8_against_18 rfl (lv_at hl 1 rfl) ?_
  refine lv_bipush (v := 14) hx hb dX8_against_19 (by decide) ?_
  refine lv_icmp_gt (tgt := 40) hx hb dX8_against_21 (by decide) (fun _ => ?_) (fun c_ => absurd c_ (by decide))
  refine lv_aload_n hx hb dX8_against_40 rfl (lv_at hl 0 rfl) ?_
  refine lv_iload_n hx hb dX8_against_41 rfl (lv_at hl 1 rfl) ?_
  refine lv_iload_n hx hb dX8_against_42 rfl (lv_at hl 2 rfl) ?_
  refine lv_iload_n hx hb dX8_against_43 rfl (lv_at hl 3 rfl) ?_
  have hPc := hP.sub (ws' := [(h0, .inr (0, [.ref h1, .ref h2, .ref h3, .ref h4, .ref h5, .ref h6, .ref h7, .int 0, .int 0, .int 0, .null])), (h1, .inr (1, [.int 1, .ref h8, .int 0, .int (-1), .int 0, .int 0, .int (-1), .ref h9]))]) [0, 1] rfl
  have hDc := hD.sub (ws' := [(h0, .inr (0, [.ref h1, .ref h2, .ref h3, .ref h4, .ref h5, .ref h6, .ref h7, .int 0, .int 0, .int 0, .null])), (h1, .inr (1, [.int 1, .ref h8, .int 0, .int (-1), .int 0, .int 0, .int (-1), .ref h9]))]) [0, 1] (by decide) rfl
  refine wGoi (wc := [(h0, .inr (0, [.ref h1, .ref h2, .ref h3, .ref h4, .ref h5, .ref h6, .ref h7, .int 0, .int 0, .int 0, .null])), (h1, .inr (1, [.int 1, .ref h8, .int 0, .int (-1), .int 0, .int 0, .int (-1), .ref h9]))]) (wr := []) (va_runS (As := [.ref h0, .int 19, .int 0, .int 0]) (rest := []) ⟨hx, hb, hml, hown, hts⟩ (m_X8_againstOnMotion_4 l G K h0 h1 h2 h3 h4 h5 h6 h7 h8 h9 _) (va_cwS 4 hts (wGS t_ (mw (.methodLink RX8 19 yX8_againstOnMotion) (List.mem_of_getElem? (i := 0) rfl)) (mw (.static yX8_againstOnMotion) (List.mem_of_getElem? (i := 1) rfl)) (mw (.initialized RX8) (List.mem_of_getElem? (i := 2) rfl)) j_X8_againstOnMotion_4) rfl rfl rfl (by decide +kernel) ⟨Nat.le_of_ble_eq_true rfl, Nat.le_of_ble_eq_true rfl⟩) (wPS hK hE hPc hDc) rfl rfl hl.1 rfl (lv_room (Nat.le_of_ble_eq_true rfl)) dX8_against_44 ⟨Nat.le_of_ble_eq_true rfl, Nat.le_of_ble_eq_true rfl⟩) hP hD hS hA [0, 1] [] rfl rfl rfl (by decide) (fun r u H locs hw hP hD hS => ?_)
  rcases hw with ⟨rfl, rfl⟩
  have hP : va_P G vwCl [(h0, .inr (0, [.ref h1, .ref h2, .ref h3, .ref h4, .ref h5, .ref h6, .ref h7, .int 0, .int 0, .int 0, .null])), (h1, .inr (1, [.int 1, .ref h8, .int 0, .int (-1), .int 0, .int 0, .int (-1), .ref h9]))] _ := hP
  have hD : va_D A [(h0, .inr (0, [.ref h1, .ref h2, .ref h3, .ref h4, .ref h5, .ref h6, .ref h7, .int 0, .int 0, .int 0, .null])), (h1, .inr (1, [.int 1, .ref h8, .int 0, .int (-1), .int 0, .int 0, .int (-1), .ref h9]))] := hD
  refine lv_istore (lv' := [(6, .int 8), (0, .ref h0), (1, .int 19), (2, .int 0), (3, .int 0), (4, .int 0), (5, .int 0)]) hx hb dX8_against_47 hl (by decide) rfl (fun ls hl => ?_)
  refine lv_iload hx hb dX8_against_49 (lv_at hl 0 rfl) ?_
  refine lv_if_ne (tgt := 69) hx hb dX8_against_51 (by decide) (fun _ => ?_) (fun c_ => absurd c_ (by decide))
  refine lv_iload hx hb dX8_against_69 (lv_at hl 0 rfl) ?_
  have hP9 : va_P G vwCl [(h0, .inr (0, [.ref h1, .ref h2, .ref h3, .ref h4, .ref h5, .ref h6, .ref h7, .int 0, .int 0, .int 0, .null])), (h1, .inr (1, [.int 1, .ref h8, .int 0, .int (-1), .int 0, .int 0, .int (-1), .ref h9]))] _ := hP
  have hD9 : va_D A [(h0, .inr (0, [.ref h1, .ref h2, .ref h3, .ref h4, .ref h5, .ref h6, .ref h7, .int 0, .int 0, .int 0, .null])), (h1, .inr (1, [.int 1, .ref h8, .int 0, .int (-1), .int 0, .int 0, .int (-1), .ref h9]))] := hD
  exact W.iret (v := 8) hx hb hr (fun t ht hW => ⟨⟨8, _, rfl, ⟨rfl, rfl⟩, by rw [ht]; exact hP9, hD9⟩, hS.F ht⟩) hS.2.2 dX8_against_71
def e_X0_enact_18 : List Cond := [.methodLink RX0 155 yX8_against, .static yX8_against, .initialized RX8, .fieldLink RX0 73 "MotionFloor$Assembly" "reason" "I"]
def v_X0_enact_18 : List Cond := .code yX0_enact cX0_enact 7 (some .int) :: (e_X0_enact_18 ++ (wsX00 ++ (v_X8_against_18 ++ [])))
theorem te_X0_enact_18 : GoodIn lw_tbl e_X0_enact_18 := wGc z345 (wGc z344 (wGc z297 (wGc z263 (wG0))))
theorem t_X0_enact_18 : GoodIn lw_tbl v_X0_enact_18 := wGc z346 (wGa te_X0_enact_18 (wGa zcX0 (wGa t_X8_against_18 (wG0))))
set_option maxHeartbeats 4000000 in
set_option maxRecDepth 100000 in
theorem m_X0_enact_18 (l : Launch) (G : va_G) (K : Nat → ClassId) (h0 h1 h2 h3 h4 h5 h6 h7 h8 h9 : Nat) (sz : Nat) : Met l yX0_enact v_X0_enact_18 ({ frames := 3, cells := 0, slots := 0, locals := 72 }) (va_Pc [.ref h0, .int 19, .int 0, .int 0, .int 0, .int 0] (wS G K sz [(h0, .inr (0, [.ref h1, .ref h2, .ref h3, .ref h4, .ref h5, .ref h6, .ref h7, .int 0, .int 0, .int 0, .null])), (h1, .inr (1, [.int 1, .ref h8, .int 0, .int (-1), .int 0, .int 0, .int (-1), .ref h9]))])) (va_Qi (fun (r : Int32) (u : va_W) => ((-8) = r ∧ u = [(h0, .inr (0, [.ref h1, .ref h2, .ref h3, .ref h4, .ref h5, .ref h6, .ref h7, .int 0, .int 0, .int 8, .null])), (h1, .inr (1, [.int 1, .ref h8, .int 0, .int (-1), .int 0, .int 0, .int (-1), .ref h9]))])) (wB G (va_A [(h0, .inr (0, [.ref h1, .ref h2, .ref h3, .ref h4, .ref h5, .ref h6, .ref h7, .int 0, .int 0, .int 0, .null])), (h1, .inr (1, [.int 1, .ref h8, .int 0, .int (-1), .int 0, .int 0, .int (-1), .ref h9]))] sz)) (va_A [(h0, .inr (0, [.ref h1, .ref h2, .ref h3, .ref h4, .ref h5, .ref h6, .ref h7, .int 0, .int 0, .int 0, .null])), (h1, .inr (1, [.int 1, .ref h8, .int 0, .int (-1), .int 0, .int 0, .int (-1), .ref h9]))] sz)) 0 0 (va_A [(h0, .inr (0, [.ref h1, .ref h2, .ref h3, .ref h4, .ref h5, .ref h6, .ref h7, .int 0, .int 0, .int 0, .null])), (h1, .inr (1, [.int 1, .ref h8, .int 0, .int (-1), .int 0, .int 0, .int (-1), .ref h9]))] sz) := by
  refine Met.ofW (cc := cX0_enact) (maxL := 7) (ret := (some .int)) (by decide) rfl ?_
  intro p e s m args below meth c s₁ B hml hv
  obtain ⟨rfl, hsz, hP, hK, hD0, hE⟩ := hv
  have hx := B.exec
  have hb := B.bytes
  have hr := B.returns
  have hts := atoms_spec (ws := v_X0_enact_18) B.pre
  have t_ := t_X0_enact_18
  have mw : ∀ w ∈ e_X0_enact_18, w ∈ v_X0_enact_18 := fun w h => List.mem_cons_of_mem _ (List.mem_append_left _ h)
  have hw := fun w (h : w ∈ e_X0_enact_18) => hts w (mw w h)
  have iX0 : ∀ w ∈ wsX00, w ∈ v_X0_enact_18 := fun w h => List.mem_cons_of_mem _ (List.mem_append_right _ (List.mem_append_left _ h))
  have j_X8_against_18 : ∀ w ∈ v_X8_against_18, w ∈ v_X0_enact_18 := fun w h => List.mem_cons_of_mem _ (List.mem_append_right _ (List.mem_append_right _ (List.mem_append_left _ h)))
  have hown : s.vm.findClass RX0 = some m.cls := findClass_of_methodNamed B.named
  have hlocks := B.notSynchronized
  subst hsz
  have hD := hD0.self (sz := s.heap.size)
  generalize hAe : va_A [(h0, .inr (0, [.ref h1, .ref h2, .ref h3, .ref h4, .ref h5, .ref h6, .ref h7, .int 0, .int 0, .int 0, .null])), (h1, .inr (1, [.int 1, .ref h8, .int 0, .int (-1), .int 0, .int 0, .int (-1), .ref h9]))] s.heap.size = A at hD ⊢
  have hA : ∀ q : Nat, s.heap.size ≤ q → A q := fun q h => by rw [← hAe]; exact Or.inr h
  have hS : va_S A s.heap s.heap [] := va_S.rf
  have hP : va_P G vwCl [(h0, .inr (0, [.ref h1, .ref h2, .ref h3, .ref h4, .ref h5, .ref h6, .ref h7, .int 0, .int 0, .int 0, .null])), (h1, .inr (1, [.int 1, .ref h8, .int 0, .int (-1), .int 0, .int 0, .int (-1), .ref h9]))] s.heap := hP
  have hl := lv_entry ([.ref h0, .int 19, .int 0, .int 0, .int 0, .int 0]) (n := 7) (Nat.le_of_ble_eq_true rfl)
  rw [lg_entry_eq]
  generalize (lg_sl ([.ref h0, .int 19, .int 0, .int 0, .int 0, .int 0]) ++ List.replicate (7 - (lg_sl ([.ref h0, .int 19, .int 0, .int 0, .int 0, .int 0])).length) Slot.unset).toArray = ls at hl ⊢
  have hl : lv_has ls 7 [(0, .ref h0), (1, .int 19), (2, .int 0), (3, .int 0), (4, .int 0), (5, .int 0)] := hl
  refine lv_aload_n hx hb dX0_enact_0 rfl (lv_at hl 0 rfl) ?_
  refine lv_aload_n hx hb dX0_enact_1 rfl (lv_at hl 0 rfl) ?_
  refine lv_iload_n hx hb dX0_enact_2 rfl (lv_at hl 1 rfl) ?_
  refine lv_iload_n hx hb dX0_enact_3 rfl (lv_at hl 2 rfl) ?_
  refine lv_iload_n hx hb dX0_enact_4 rfl (lv_at hl 3 rfl) ?_
  refine lv_iload hx hb dX0_enact_5 (lv_at hl 4 rfl) ?_
  refine lv_iload hx hb dX0_enact_7 (lv_at hl 5 rfl) ?_
  have hPc := hP.sub (ws' := [(h0, .inr (0, [.ref h1, .ref h2, .ref h3, .ref h4, .ref h5, .ref h6, .ref h7, .int 0, .int 0, .int 0, .null])), (h1, .inr (1, [.int 1, .ref h8, .int 0, .int (-1), .int 0, .int 0, .int (-1), .ref h9]))]) [0, 1] rfl
  have hDc := hD.sub (ws' := [(h0, .inr (0, [.ref h1, .ref h2, .ref h3, .ref h4, .ref h5, .ref h6, .ref h7, .int 0, .int 0, .int 0, .null])), (h1, .inr (1, [.int 1, .ref h8, .int 0, .int (-1), .int 0, .int 0, .int (-1), .ref h9]))]) [0, 1] (by decide) rfl
  refine wGoi (wc := [(h0, .inr (0, [.ref h1, .ref h2, .ref h3, .ref h4, .ref h5, .ref h6, .ref h7, .int 0, .int 0, .int 0, .null])), (h1, .inr (1, [.int 1, .ref h8, .int 0, .int (-1), .int 0, .int 0, .int (-1), .ref h9]))]) (wr := []) (va_runS (As := [.ref h0, .int 19, .int 0, .int 0, .int 0, .int 0]) (rest := [.ref h0]) ⟨hx, hb, hml, hown, hts⟩ (m_X8_against_18 l G K h0 h1 h2 h3 h4 h5 h6 h7 h8 h9 _) (va_cwS 6 hts (wGS t_ (mw (.methodLink RX0 155 yX8_against) (List.mem_of_getElem? (i := 0) rfl)) (mw (.static yX8_against) (List.mem_of_getElem? (i := 1) rfl)) (mw (.initialized RX8) (List.mem_of_getElem? (i := 2) rfl)) j_X8_against_18) rfl rfl rfl (by decide +kernel) ⟨Nat.le_of_ble_eq_true rfl, Nat.le_of_ble_eq_true rfl⟩) (wPS hK hE hPc hDc) rfl rfl hl.1 rfl (lv_room (Nat.le_of_ble_eq_true rfl)) dX0_enact_9 ⟨Nat.le_of_ble_eq_true rfl, Nat.le_of_ble_eq_true rfl⟩) hP hD hS hA [0, 1] [] rfl rfl rfl (by decide) (fun r u H locs hw hP hD hS => ?_)
  rcases hw with ⟨rfl, rfl⟩
  have hP : va_P G vwCl [(h0, .inr (0, [.ref h1, .ref h2, .ref h3, .ref h4, .ref h5, .ref h6, .ref h7, .int 0, .int 0, .int 0, .null])), (h1, .inr (1, [.int 1, .ref h8, .int 0, .int (-1), .int 0, .int 0, .int (-1), .ref h9]))] _ := hP
  have hD : va_D A [(h0, .inr (0, [.ref h1, .ref h2, .ref h3, .ref h4, .ref h5, .ref h6, .ref h7, .int 0, .int 0, .int 0, .null])), (h1, .inr (1, [.int 1, .ref h8, .int 0, .int (-1), .int 0, .int 0, .int (-1), .ref h9]))] := hD
  refine va_put (D := G) (ci := 0) (v := .int 8) (ty := .int) (C := RX0) (T := TX0) (N := 11) hx hb hts iX0 tyX0 tyX0_ok nmX0 hown hK hP hD hS 0 rfl rfl 9 (by decide) (hw (.fieldLink RX0 73 "MotionFloor$Assembly" "reason" "I") (List.mem_of_getElem? (i := 3) rfl)) (fun _ h9 => h9) rfl (by decide +kernel) rfl rfl (Nat.le_of_ble_eq_true rfl) dX0_enact_12 (fun H locs hP hD hS => ?_)
  have hP : va_P G vwCl [(h0, .inr (0, [.ref h1, .ref h2, .ref h3, .ref h4, .ref h5, .ref h6, .ref h7, .int 0, .int 0, .int 8, .null])), (h1, .inr (1, [.int 1, .ref h8, .int 0, .int (-1), .int 0, .int 0, .int (-1), .ref h9]))] _ := hP
  have hD : va_D A [(h0, .inr (0, [.ref h1, .ref h2, .ref h3, .ref h4, .ref h5, .ref h6, .ref h7, .int 0, .int 0, .int 8, .null])), (h1, .inr (1, [.int 1, .ref h8, .int 0, .int (-1), .int 0, .int 0, .int (-1), .ref h9]))] := hD
  refine lv_aload_n hx hb dX0_enact_15 rfl (lv_at hl 0 rfl) ?_
  refine va_get (D := G) (ci := 0) (v := .int 8) (C := RX0) (T := TX0) (N := 11) hx hb hts iX0 hown hK hP 0 rfl rfl 9 (by decide) (hw (.fieldLink RX0 73 "MotionFloor$Assembly" "reason" "I") (List.mem_of_getElem? (i := 3) rfl)) (fun _ h9 => h9) rfl dX0_enact_16 ?_
  refine lv_if_eq (tgt := 28) hx hb dX0_enact_19 (by decide) (fun c_ => absurd c_ (by decide)) (fun _ => ?_)
  refine lv_aload_n hx hb dX0_enact_22 rfl (lv_at hl 0 rfl) ?_
  refine va_get (D := G) (ci := 0) (v := .int 8) (C := RX0) (T := TX0) (N := 11) hx hb hts iX0 hown hK hP 0 rfl rfl 9 (by decide) (hw (.fieldLink RX0 73 "MotionFloor$Assembly" "reason" "I") (List.mem_of_getElem? (i := 3) rfl)) (fun _ h9 => h9) rfl dX0_enact_23 ?_
  refine lv_ineg hx hb dX0_enact_26 ?_
  refine wTop (v1 := .int (-8)) (congrArg Value.int (by decide)) ?_
  have hP9 : va_P G vwCl [(h0, .inr (0, [.ref h1, .ref h2, .ref h3, .ref h4, .ref h5, .ref h6, .ref h7, .int 0, .int 0, .int 8, .null])), (h1, .inr (1, [.int 1, .ref h8, .int 0, .int (-1), .int 0, .int 0, .int (-1), .ref h9]))] _ := hP
  have hD9 : va_D A [(h0, .inr (0, [.ref h1, .ref h2, .ref h3, .ref h4, .ref h5, .ref h6, .ref h7, .int 0, .int 0, .int 8, .null])), (h1, .inr (1, [.int 1, .ref h8, .int 0, .int (-1), .int 0, .int 0, .int (-1), .ref h9]))] := hD
  exact W.iret (v := (-8)) hx hb hr (fun t ht hW => ⟨⟨(-8), _, rfl, ⟨rfl, rfl⟩, by rw [ht]; exact hP9, hD9⟩, hS.F ht⟩) hS.2.2 dX0_enact_27
def e_X10_rule_0 : List Cond := [.fieldLink RX10 10 "MotionFloor" "now" "LMotionFloor$Assembly;", .methodLink RX10 32 yX0_enact, .instanceMethod yX0_enact, .selects RX0 yX0_enact yX0_enact, .initialized RX0]
def v_X10_rule_0 : List Cond := .code yX10_rule cX10_rule 1 (some .int) :: (e_X10_rule_0 ++ (wsX100 ++ (v_X0_enact_18 ++ [])))
theorem te_X10_rule_0 : GoodIn lw_tbl e_X10_rule_0 := wGc z115 (wGc z349 (wGc z348 (wGc z347 (wGc z118 (wG0)))))
theorem t_X10_rule_0 : GoodIn lw_tbl v_X10_rule_0 := wGc z647 (wGa te_X10_rule_0 (wGa zcX10 (wGa t_X0_enact_18 (wG0))))
set_option maxHeartbeats 4000000 in
set_option maxRecDepth 100000 in
theorem m_X10_rule_0 (l : Launch) (G : va_G) (K : Nat → ClassId) (h0 h1 h2 h3 h4 h5 h6 h7 h8 h9 h10 h11 h12 : Nat) (sz : Nat) : Met l yX10_rule v_X10_rule_0 ({ frames := 4, cells := 0, slots := 0, locals := 98 }) (va_Pc [.ref h0] (wS G K sz [(h0, .inr (7, [.ref h1, .ref h3, .null, .null, .ref h4])), (h1, .inr (0, [.ref h2, .ref h5, .ref h6, .ref h7, .ref h8, .ref h9, .ref h10, .int 0, .int 0, .int 0, .null])), (h2, .inr (1, [.int 1, .ref h11, .int 0, .int (-1), .int 0, .int 0, .int (-1), .ref h12]))])) (va_Qi (fun (r : Int32) (u : va_W) => ((-8) = r ∧ u = [(h0, .inr (7, [.ref h1, .ref h3, .null, .null, .ref h4])), (h1, .inr (0, [.ref h2, .ref h5, .ref h6, .ref h7, .ref h8, .ref h9, .ref h10, .int 0, .int 0, .int 8, .null])), (h2, .inr (1, [.int 1, .ref h11, .int 0, .int (-1), .int 0, .int 0, .int (-1), .ref h12]))])) (wB G (va_A [(h0, .inr (7, [.ref h1, .ref h3, .null, .null, .ref h4])), (h1, .inr (0, [.ref h2, .ref h5, .ref h6, .ref h7, .ref h8, .ref h9, .ref h10, .int 0, .int 0, .int 0, .null])), (h2, .inr (1, [.int 1, .ref h11, .int 0, .int (-1), .int 0, .int 0, .int (-1), .ref h12]))] sz)) (va_A [(h0, .inr (7, [.ref h1, .ref h3, .null, .null, .ref h4])), (h1, .inr (0, [.ref h2, .ref h5, .ref h6, .ref h7, .ref h8, .ref h9, .ref h10, .int 0, .int 0, .int 0, .null])), (h2, .inr (1, [.int 1, .ref h11, .int 0, .int (-1), .int 0, .int 0, .int (-1), .ref h12]))] sz)) 0 0 (va_A [(h0, .inr (7, [.ref h1, .ref h3, .null, .null, .ref h4])), (h1, .inr (0, [.ref h2, .ref h5, .ref h6, .ref h7, .ref h8, .ref h9, .ref h10, .int 0, .int 0, .int 0, .null])), (h2, .inr (1, [.int 1, .ref h11, .int 0, .int (-1), .int 0, .int 0, .int (-1), .ref h12]))] sz) := by
  refine Met.ofW (cc := cX10_rule) (maxL := 1) (ret := (some .int)) (by decide) rfl ?_
  intro p e s m args below meth c s₁ B hml hv
  obtain ⟨rfl, hsz, hP, hK, hD0, hE⟩ := hv
  have hx := B.exec
  have hb := B.bytes
  have hr := B.returns
  have hts := atoms_spec (ws := v_X10_rule_0) B.pre
  have t_ := t_X10_rule_0
  have mw : ∀ w ∈ e_X10_rule_0, w ∈ v_X10_rule_0 := fun w h => List.mem_cons_of_mem _ (List.mem_append_left _ h)
  have hw := fun w (h : w ∈ e_X10_rule_0) => hts w (mw w h)
  have iX10 : ∀ w ∈ wsX100, w ∈ v_X10_rule_0 := fun w h => List.mem_cons_of_mem _ (List.mem_append_right _ (List.mem_append_left _ h))
  have j_X0_enact_18 : ∀ w ∈ v_X0_enact_18, w ∈ v_X10_rule_0 := fun w h => List.mem_cons_of_mem _ (List.mem_append_right _ (List.mem_append_right _ (List.mem_append_left _ h)))
  have hown : s.vm.findClass RX10 = some m.cls := findClass_of_methodNamed B.named
  have hlocks := B.notSynchronized
  subst hsz
  have hD := hD0.self (sz := s.heap.size)
  generalize hAe : va_A [(h0, .inr (7, [.ref h1, .ref h3, .null, .null, .ref h4])), (h1, .inr (0, [.ref h2, .ref h5, .ref h6, .ref h7, .ref h8, .ref h9, .ref h10, .int 0, .int 0, .int 0, .null])), (h2, .inr (1, [.int 1, .ref h11, .int 0, .int (-1), .int 0, .int 0, .int (-1), .ref h12]))] s.heap.size = A at hD ⊢
  have hA : ∀ q : Nat, s.heap.size ≤ q → A q := fun q h => by rw [← hAe]; exact Or.inr h
  have hS : va_S A s.heap s.heap [] := va_S.rf
  have hP : va_P G vwCl [(h0, .inr (7, [.ref h1, .ref h3, .null, .null, .ref h4])), (h1, .inr (0, [.ref h2, .ref h5, .ref h6, .ref h7, .ref h8, .ref h9, .ref h10, .int 0, .int 0, .int 0, .null])), (h2, .inr (1, [.int 1, .ref h11, .int 0, .int (-1), .int 0, .int 0, .int (-1), .ref h12]))] s.heap := hP
  have hl := lv_entry ([.ref h0]) (n := 1) (Nat.le_of_ble_eq_true rfl)
  rw [lg_entry_eq]
  generalize (lg_sl ([.ref h0]) ++ List.replicate (1 - (lg_sl ([.ref h0])).length) Slot.unset).toArray = ls at hl ⊢
  have hl : lv_has ls 1 [(0, .ref h0)] := hl
  refine lv_aload_n hx hb dX10_rule_0 rfl (lv_at hl 0 rfl) ?_
  refine va_get (D := G) (ci := 7) (v := .ref h1) (C := RX10) (T := TX10) (N := 5) hx hb hts iX10 hown hK hP 0 rfl rfl 0 (by decide) (hw (.fieldLink RX10 10 "MotionFloor" "now" "LMotionFloor$Assembly;") (List.mem_of_getElem? (i := 0) rfl)) (fun _ h9 => h9) rfl dX10_rule_1 ?_
  refine lv_bipush (v := 19) hx hb dX10_rule_4 (by decide) ?_
  refine lv_iconst (v := 0) hx hb dX10_rule_6 (by decide) ?_
  refine lv_iconst (v := 0) hx hb dX10_rule_7 (by decide) ?_
  refine lv_iconst (v := 0) hx hb dX10_rule_8 (by decide) ?_
  refine lv_iconst (v := 0) hx hb dX10_rule_9 (by decide) ?_
  have hPc := hP.sub (ws' := [(h1, .inr (0, [.ref h2, .ref h5, .ref h6, .ref h7, .ref h8, .ref h9, .ref h10, .int 0, .int 0, .int 0, .null])), (h2, .inr (1, [.int 1, .ref h11, .int 0, .int (-1), .int 0, .int 0, .int (-1), .ref h12]))]) [1, 2] rfl
  have hDc := hD.sub (ws' := [(h1, .inr (0, [.ref h2, .ref h5, .ref h6, .ref h7, .ref h8, .ref h9, .ref h10, .int 0, .int 0, .int 0, .null])), (h2, .inr (1, [.int 1, .ref h11, .int 0, .int (-1), .int 0, .int 0, .int (-1), .ref h12]))]) [1, 2] (by decide) rfl
  refine wGoi (wc := [(h1, .inr (0, [.ref h2, .ref h5, .ref h6, .ref h7, .ref h8, .ref h9, .ref h10, .int 0, .int 0, .int 0, .null])), (h2, .inr (1, [.int 1, .ref h11, .int 0, .int (-1), .int 0, .int 0, .int (-1), .ref h12]))]) (wr := [(h0, .inr (7, [.ref h1, .ref h3, .null, .null, .ref h4]))]) (va_runV (As := [.int 19, .int 0, .int 0, .int 0, .int 0]) (rest := []) ⟨hx, hb, hml, hown, hts⟩ (m_X0_enact_18 l G K h1 h2 h5 h6 h7 h8 h9 h10 h11 h12 _) (cwV 5 hts (wGV t_ (mw (.methodLink RX10 32 yX0_enact) (List.mem_of_getElem? (i := 1) rfl)) (mw (.instanceMethod yX0_enact) (List.mem_of_getElem? (i := 2) rfl)) (mw (.selects RX0 yX0_enact yX0_enact) (List.mem_of_getElem? (i := 3) rfl)) (mw (.initialized RX0) (List.mem_of_getElem? (i := 4) rfl)) j_X0_enact_18) rfl rfl rfl (by decide +kernel) ⟨Nat.le_of_ble_eq_true rfl, Nat.le_of_ble_eq_true rfl⟩) (wPV hK hE hPc hDc 0 0 rfl rfl) rfl rfl hl.1 rfl (lv_room (Nat.le_of_ble_eq_true rfl)) dX10_rule_10 ⟨Nat.le_of_ble_eq_true rfl, Nat.le_of_ble_eq_true rfl⟩) hP hD hS hA [1, 2] [0] rfl rfl rfl (by decide) (fun r u H locs hw hP hD hS => ?_)
  rcases hw with ⟨rfl, rfl⟩
  have hP : va_P G vwCl [(h0, .inr (7, [.ref h1, .ref h3, .null, .null, .ref h4])), (h1, .inr (0, [.ref h2, .ref h5, .ref h6, .ref h7, .ref h8, .ref h9, .ref h10, .int 0, .int 0, .int 8, .null])), (h2, .inr (1, [.int 1, .ref h11, .int 0, .int (-1), .int 0, .int 0, .int (-1), .ref h12]))] _ := hP
  have hD : va_D A [(h0, .inr (7, [.ref h1, .ref h3, .null, .null, .ref h4])), (h1, .inr (0, [.ref h2, .ref h5, .ref h6, .ref h7, .ref h8, .ref h9, .ref h10, .int 0, .int 0, .int 8, .null])), (h2, .inr (1, [.int 1, .ref h11, .int 0, .int (-1), .int 0, .int 0, .int (-1), .ref h12]))] := hD
  have hP9 : va_P G vwCl [(h0, .inr (7, [.ref h1, .ref h3, .null, .null, .ref h4])), (h1, .inr (0, [.ref h2, .ref h5, .ref h6, .ref h7, .ref h8, .ref h9, .ref h10, .int 0, .int 0, .int 8, .null])), (h2, .inr (1, [.int 1, .ref h11, .int 0, .int (-1), .int 0, .int 0, .int (-1), .ref h12]))] _ := hP
  have hD9 : va_D A [(h0, .inr (7, [.ref h1, .ref h3, .null, .null, .ref h4])), (h1, .inr (0, [.ref h2, .ref h5, .ref h6, .ref h7, .ref h8, .ref h9, .ref h10, .int 0, .int 0, .int 8, .null])), (h2, .inr (1, [.int 1, .ref h11, .int 0, .int (-1), .int 0, .int 0, .int (-1), .ref h12]))] := hD
  exact W.iret (v := (-8)) hx hb hr (fun t ht hW => ⟨⟨(-8), _, rfl, ⟨rfl, rfl⟩, by rw [ht]; exact hP9, hD9⟩, hS.F ht⟩) hS.2.2 dX10_rule_13
