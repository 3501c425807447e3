def e_X12_in_18 : List Cond := []
def v_X12_in_18 : List Cond := .code yX12_in cX12_in 3 (some .boolean) :: (e_X12_in_18 ++ [])
theorem te_X12_in_18 : GoodIn lw_tbl e_X12_in_18 := wG0
theorem t_X12_in_18 : GoodIn lw_tbl v_X12_in_18 := wGc z276 (wGa te_X12_in_18 (wG0))
set_option maxHeartbeats 4000000 in
set_option maxRecDepth 100000 in
theorem m_X12_in_18 (l : Launch) (G : va_G) (K : Nat → ClassId) (sz : Nat) : Met l yX12_in v_X12_in_18 ({ frames := 0, cells := 0, slots := 0, locals := 0 }) (va_Pc [.int (-1), .int 0, .int 0] (wS G K sz [])) (va_Qi (fun (r : Int32) (u : va_W) => (0 = r ∧ u = [])) (wB G (va_A [] sz)) (va_A [] sz)) 0 0 (va_A [] sz) := by
  refine Met.ofW (cc := cX12_in) (maxL := 3) (ret := (some .boolean)) (by decide) rfl ?_
  intro p e s m args below meth c s₁ B hml hv
  obtain ⟨rfl, hsz, hP, hK, hD0, hE⟩ := hv
  have hx := B.exec
  have hb := B.bytes
  have hr := B.returns
  have hts := atoms_spec (ws := v_X12_in_18) B.pre
  have t_ := t_X12_in_18
  have mw : ∀ w ∈ e_X12_in_18, w ∈ v_X12_in_18 := fun w h => List.mem_cons_of_mem _ (List.mem_append_left _ h)
  have hw := fun w (h : w ∈ e_X12_in_18) => hts w (mw w h)
  have hown : s.vm.findClass RX12 = some m.cls := findClass_of_methodNamed B.named
  have hlocks := B.notSynchronized
  subst hsz
  have hD := hD0.self (sz := s.heap.size)
  generalize hAe : va_A [] s.heap.size = A at hD ⊢
  have hA : ∀ q : Nat, s.heap.size ≤ q → A q := fun q h => by rw [← hAe]; exact Or.inr h
  have hS : va_S A s.heap s.heap [] := va_S.rf
  have hP : va_P G vwCl [] s.heap := hP
  have hl := lv_entry ([.int (-1), .int 0, .int 0]) (n := 3) (Nat.le_of_ble_eq_true rfl)
  rw [lg_entry_eq]
  generalize (lg_sl ([.int (-1), .int 0, .int 0]) ++ List.replicate (3 - (lg_sl ([.int (-1), .int 0, .int 0])).length) Slot.unset).toArray = ls at hl ⊢
  have hl : lv_has ls 3 [(0, .int (-1)), (1, .int 0), (2, .int 0)] := hl
  refine lv_iload_n hx hb dX12_in_0 rfl (lv_at hl 0 rfl) ?_
  refine lv_iload_n hx hb dX12_in_1 rfl (lv_at hl 1 rfl) ?_
  refine lv_icmp_lt (tgt := 14) hx hb dX12_in_2 (by decide) (fun _ => ?_) (fun c_ => absurd c_ (by decide))
  refine lv_iconst (v := 0) hx hb dX12_in_14 (by decide) ?_
  have hP9 : va_P G vwCl [] _ := hP
  have hD9 : va_D A [] := hD
  exact W.zret (v := 0) (ty := .boolean) hx hb hr rfl (fun t ht hW => ⟨⟨0, _, rfl, ⟨rfl, rfl⟩, by rw [ht]; exact hP9, hD9⟩, hS.F ht⟩) hS.2.2 dX12_in_15
def e_X11_isSeat_2 : List Cond := [.fieldLink RX11 96 "MotionFloorModel$Hall" "seats" "I", .initialized RX12, .static yX12_in]
def v_X11_isSeat_2 : List Cond := .code yX11_isSeat cX11_isSeat 2 (some .boolean) :: (e_X11_isSeat_2 ++ (wsX110 ++ (v_X12_in_18 ++ [])))
theorem te_X11_isSeat_2 : GoodIn lw_tbl e_X11_isSeat_2 := wGc z208 (wGc z277 (wGc z278 (wG0)))
theorem t_X11_isSeat_2 : GoodIn lw_tbl v_X11_isSeat_2 := wGc z351 (wGa te_X11_isSeat_2 (wGa zcX11 (wGa t_X12_in_18 (wG0))))
set_option maxHeartbeats 4000000 in
set_option maxRecDepth 100000 in
theorem m_X11_isSeat_2 (l : Launch) (G : va_G) (K : Nat → ClassId) (h0 h1 h2 h3 h4 h5 h6 h7 h8 h9 h10 h11 h12 h13 h14 h15 h16 h17 h18 h19 h20 h21 h22 h23 h24 h25 h26 h27 : Nat) (sz : Nat) : Met l yX11_isSeat v_X11_isSeat_2 ({ frames := 1, cells := 0, slots := 0, locals := 22 }) (va_Pc [.ref h0, .int (-1)] (wS G K sz [(h0, .inr (8, [.int 1, .int 0, .int (-1), .int 0, .int 0, .int (-1), .int 0, .int 0, .int 0, .int 0, .int 0, .ref h1, .ref h2, .ref h3, .ref h4, .ref h5, .ref h6, .ref h7, .ref h8, .ref h9, .ref h10, .ref h11, .ref h12, .ref h13, .ref h14, .ref h15, .ref h16, .ref h17, .ref h18, .ref h19, .int 0, .ref h20, .ref h21, .ref h22, .ref h23, .int 0, .int 0, .ref h24, .ref h25, .int (-1), .ref h26, .ref h27]))])) (va_Qi (fun (r : Int32) (u : va_W) => (0 = r ∧ u = [(h0, .inr (8, [.int 1, .int 0, .int (-1), .int 0, .int 0, .int (-1), .int 0, .int 0, .int 0, .int 0, .int 0, .ref h1, .ref h2, .ref h3, .ref h4, .ref h5, .ref h6, .ref h7, .ref h8, .ref h9, .ref h10, .ref h11, .ref h12, .ref h13, .ref h14, .ref h15, .ref h16, .ref h17, .ref h18, .ref h19, .int 0, .ref h20, .ref h21, .ref h22, .ref h23, .int 0, .int 0, .ref h24, .ref h25, .int (-1), .ref h26, .ref h27]))])) (wB G (va_A [(h0, .inr (8, [.int 1, .int 0, .int (-1), .int 0, .int 0, .int (-1), .int 0, .int 0, .int 0, .int 0, .int 0, .ref h1, .ref h2, .ref h3, .ref h4, .ref h5, .ref h6, .ref h7, .ref h8, .ref h9, .ref h10, .ref h11, .ref h12, .ref h13, .ref h14, .ref h15, .ref h16, .ref h17, .ref h18, .ref h19, .int 0, .ref h20, .ref h21, .ref h22, .ref h23, .int 0, .int 0, .ref h24, .ref h25, .int (-1), .ref h26, .ref h27]))] sz)) (va_A [(h0, .inr (8, [.int 1, .int 0, .int (-1), .int 0, .int 0, .int (-1), .int 0, .int 0, .int 0, .int 0, .int 0, .ref h1, .ref h2, .ref h3, .ref h4, .ref h5, .ref h6, .ref h7, .ref h8, .ref h9, .ref h10, .ref h11, .ref h12, .ref h13, .ref h14, .ref h15, .ref h16, .ref h17, .ref h18, .ref h19, .int 0, .ref h20, .ref h21, .ref h22, .ref h23, .int 0, .int 0, .ref h24, .ref h25, .int (-1), .ref h26, .ref h27]))] sz)) 0 0 (va_A [(h0, .inr (8, [.int 1, .int 0, .int (-1), .int 0, .int 0, .int (-1), .int 0, .int 0, .int 0, .int 0, .int 0, .ref h1, .ref h2, .ref h3, .ref h4, .ref h5, .ref h6, .ref h7, .ref h8, .ref h9, .ref h10, .ref h11, .ref h12, .ref h13, .ref h14, .ref h15, .ref h16, .ref h17, .ref h18, .ref h19, .int 0, .ref h20, .ref h21, .ref h22, .ref h23, .int 0, .int 0, .ref h24, .ref h25, .int (-1), .ref h26, .ref h27]))] sz) := by
  refine Met.ofW (cc := cX11_isSeat) (maxL := 2) (ret := (some .boolean)) (by decide) rfl ?_
  intro p e s m args below meth c s₁ B hml hv
  obtain ⟨rfl, hsz, hP, hK, hD0, hE⟩ := hv
  have hx := B.exec
  have hb := B.bytes
  have hr := B.returns
  have hts := atoms_spec (ws := v_X11_isSeat_2) B.pre
  have t_ := t_X11_isSeat_2
  have mw : ∀ w ∈ e_X11_isSeat_2, w ∈ v_X11_isSeat_2 := fun w h => List.mem_cons_of_mem _ (List.mem_append_left _ h)
  have hw := fun w (h : w ∈ e_X11_isSeat_2) => hts w (mw w h)
  have iX11 : ∀ w ∈ wsX110, w ∈ v_X11_isSeat_2 := fun w h => List.mem_cons_of_mem _ (List.mem_append_right _ (List.mem_append_left _ h))
  have j_X12_in_18 : ∀ w ∈ v_X12_in_18, w ∈ v_X11_isSeat_2 := fun w h => List.mem_cons_of_mem _ (List.mem_append_right _ (List.mem_append_right _ (List.mem_append_left _ h)))
  have hown : s.vm.findClass RX11 = some m.cls := findClass_of_methodNamed B.named
  have hlocks := B.notSynchronized
  subst hsz
  have hD := hD0.self (sz := s.heap.size)
  generalize hAe : va_A [(h0, .inr (8, [.int 1, .int 0, .int (-1), .int 0, .int 0, .int (-1), .int 0, .int 0, .int 0, .int 0, .int 0, .ref h1, .ref h2, .ref h3, .ref h4, .ref h5, .ref h6, .ref h7, .ref h8, .ref h9, .ref h10, .ref h11, .ref h12, .ref h13, .ref h14, .ref h15, .ref h16, .ref h17, .ref h18, .ref h19, .int 0, .ref h20, .ref h21, .ref h22, .ref h23, .int 0, .int 0, .ref h24, .ref h25, .int (-1), .ref h26, .ref h27]))] s.heap.size = A at hD ⊢
  have hA : ∀ q : Nat, s.heap.size ≤ q → A q := fun q h => by rw [← hAe]; exact Or.inr h
  have hS : va_S A s.heap s.heap [] := va_S.rf
  have hP : va_P G vwCl [(h0, .inr (8, [.int 1, .int 0, .int (-1), .int 0, .int 0, .int (-1), .int 0, .int 0, .int 0, .int 0, .int 0, .ref h1, .ref h2, .ref h3, .ref h4, .ref h5, .ref h6, .ref h7, .ref h8, .ref h9, .ref h10, .ref h11, .ref h12, .ref h13, .ref h14, .ref h15, .ref h16, .ref h17, .ref h18, .ref h19, .int 0, .ref h20, .ref h21, .ref h22, .ref h23, .int 0, .int 0, .ref h24, .ref h25, .int (-1), .ref h26, .ref h27]))] s.heap := hP
  have hl := lv_entry ([.ref h0, .int (-1)]) (n := 2) (Nat.le_of_ble_eq_true rfl)
  rw [lg_entry_eq]
  generalize (lg_sl ([.ref h0, .int (-1)]) ++ List.replicate (2 - (lg_sl ([.ref h0, .int (-1)])).length) Slot.unset).toArray = ls at hl ⊢
  have hl : lv_has ls 2 [(0, .ref h0), (1, .int (-1))] := hl
  refine lv_iload_n hx hb dX11_isSeat_0 rfl (lv_at hl 1 rfl) ?_
  refine lv_iconst (v := 0) hx hb dX11_isSeat_1 (by decide) ?_
  refine lv_aload_n hx hb dX11_isSeat_2 rfl (lv_at hl 0 rfl) ?_
  refine va_get (D := G) (ci := 8) (v := .int 1) (C := RX11) (T := TX11) (N := 42) hx hb hts iX11 hown hK hP 0 rfl rfl 0 (by decide) (hw (.fieldLink RX11 96 "MotionFloorModel$Hall" "seats" "I") (List.mem_of_getElem? (i := 0) rfl)) (fun _ h9 => h9) rfl dX11_isSeat_3 ?_
  refine lv_iconst (v := 1) hx hb dX11_isSeat_6 (by decide) ?_
  refine lv_isub hx hb dX11_isSeat_7 ?_
  refine wTop (v1 := .int 0) (congrArg Value.int (by decide)) ?_
  have hPc := hP.sub (ws' := []) [] rfl
  have hDc := hD.sub (ws' := []) [] (by decide) rfl
  refine wGoi (wc := []) (wr := [(h0, .inr (8, [.int 1, .int 0, .int (-1), .int 0, .int 0, .int (-1), .int 0, .int 0, .int 0, .int 0, .int 0, .ref h1, .ref h2, .ref h3, .ref h4, .ref h5, .ref h6, .ref h7, .ref h8, .ref h9, .ref h10, .ref h11, .ref h12, .ref h13, .ref h14, .ref h15, .ref h16, .ref h17, .ref h18, .ref h19, .int 0, .ref h20, .ref h21, .ref h22, .ref h23, .int 0, .int 0, .ref h24, .ref h25, .int (-1), .ref h26, .ref h27]))]) (va_runSN (As := [.int (-1), .int 0, .int 0]) (rest := []) ⟨hx, hb, hml, hown, hts⟩ (m_X12_in_18 l G K _) ⟨va_cnB (host := "MotionFloorModel") 3 hts (wGP t_ j_X12_in_18) rfl rfl rfl hE.2.2.2.2.2.2.2.2.2.1 (hw (.initialized RX12) (List.mem_of_getElem? (i := 1) rfl)) (by decide +kernel) ⟨Nat.le_of_ble_eq_true rfl, Nat.le_of_ble_eq_true rfl⟩, (hw (.static yX12_in) (List.mem_of_getElem? (i := 2) rfl)), trivial⟩ (wPS hK hE hPc hDc) rfl rfl hl.1 rfl (lv_room (Nat.le_of_ble_eq_true rfl)) dX11_isSeat_8 ⟨Nat.le_of_ble_eq_true rfl, Nat.le_of_ble_eq_true rfl⟩) hP hD hS hA [] [0] rfl rfl rfl (by decide) (fun r u H locs hw hP hD hS => ?_)
  rcases hw with ⟨rfl, rfl⟩
  have hP : va_P G vwCl [(h0, .inr (8, [.int 1, .int 0, .int (-1), .int 0, .int 0, .int (-1), .int 0, .int 0, .int 0, .int 0, .int 0, .ref h1, .ref h2, .ref h3, .ref h4, .ref h5, .ref h6, .ref h7, .ref h8, .ref h9, .ref h10, .ref h11, .ref h12, .ref h13, .ref h14, .ref h15, .ref h16, .ref h17, .ref h18, .ref h19, .int 0, .ref h20, .ref h21, .ref h22, .ref h23, .int 0, .int 0, .ref h24, .ref h25, .int (-1), .ref h26, .ref h27]))] _ := hP
  have hD : va_D A [(h0, .inr (8, [.int 1, .int 0, .int (-1), .int 0, .int 0, .int (-1), .int 0, .int 0, .int 0, .int 0, .int 0, .ref h1, .ref h2, .ref h3, .ref h4, .ref h5, .ref h6, .ref h7, .ref h8, .ref h9, .ref h10, .ref h11, .ref h12, .ref h13, .ref h14, .ref h15, .ref h16, .ref h17, .ref h18, .ref h19, .int 0, .ref h20, .ref h21, .ref h22, .ref h23, .int 0, .int 0, .ref h24, .ref h25, .int (-1), .ref h26, .ref h27]))] := hD
  have hP9 : va_P G vwCl [(h0, .inr (8, [.int 1, .int 0, .int (-1), .int 0, .int 0, .int (-1), .int 0, .int 0, .int 0, .int 0, .int 0, .ref h1, .ref h2, .ref h3, .ref h4, .ref h5, .ref h6, .ref h7, .ref h8, .ref h9, .ref h10, .ref h11, .ref h12, .ref h13, .ref h14, .ref h15, .ref h16, .ref h17, .ref h18, .ref h19, .int 0, .ref h20, .ref h21, .ref h22, .ref h23, .int 0, .int 0, .ref h24, .ref h25, .int (-1), .ref h26, .ref h27]))] _ := hP
  have hD9 : va_D A [(h0, .inr (8, [.int 1, .int 0, .int (-1), .int 0, .int 0, .int (-1), .int 0, .int 0, .int 0, .int 0, .int 0, .ref h1, .ref h2, .ref h3, .ref h4, .ref h5, .ref h6, .ref h7, .ref h8, .ref h9, .ref h10, .ref h11, .ref h12, .ref h13, .ref h14, .ref h15, .ref h16, .ref h17, .ref h18, .ref h19, .int 0, .ref h20, .ref h21, .ref h22, .ref h23, .int 0, .int 0, .ref h24, .ref h25, .int (-1), .ref h26, .ref h27]))] := hD
  exact W.zret (v := 0) (ty := .boolean) hx hb hr rfl (fun t ht hW => ⟨⟨0, _, rfl, ⟨rfl, rfl⟩, by rw [ht]; exact hP9, hD9⟩, hS.F ht⟩) hS.2.2 dX11_isSeat_11
def e_X11_isHere_0 : List Cond := [.methodLink RX11 140 yX11_isSeat, .instanceMethod yX11_isSeat, .selects RX11 yX11_isSeat yX11_isSeat, .initialized RX11]
def v_X11_isHere_0 : List Cond := .code yX11_isHere cX11_isHere 2 (some .boolean) :: (e_X11_isHere_0 ++ (v_X11_isSeat_2 ++ []))
theorem te_X11_isHere_0 : GoodIn lw_tbl e_X11_isHere_0 := wGc z354 (wGc z353 (wGc z352 (wGc z227 (wG0))))
theorem t_X11_isHere_0 : GoodIn lw_tbl v_X11_isHere_0 := wGc z648 (wGa te_X11_isHere_0 (wGa t_X11_isSeat_2 (wG0)))
set_option maxHeartbeats 4000000 in
set_option maxRecDepth 100000 in
theorem m_X11_isHere_0 (l : Launch) (G : va_G) (K : Nat → ClassId) (h0 h1 h2 h3 h4 h5 h6 h7 h8 h9 h10 h11 h12 h13 h14 h15 h16 h17 h18 h19 h20 h21 h22 h23 h24 h25 h26 h27 : Nat) (sz : Nat) : Met l yX11_isHere v_X11_isHere_0 ({ frames := 2, cells := 0, slots := 0, locals := 43 }) (va_Pc [.ref h0, .int (-1)] (wS G K sz [(h0, .inr (8, [.int 1, .int 0, .int (-1), .int 0, .int 0, .int (-1), .int 0, .int 0, .int 0, .int 0, .int 0, .ref h1, .ref h2, .ref h3, .ref h4, .ref h5, .ref h6, .ref h7, .ref h8, .ref h9, .ref h10, .ref h11, .ref h12, .ref h13, .ref h14, .ref h15, .ref h16, .ref h17, .ref h18, .ref h19, .int 0, .ref h20, .ref h21, .ref h22, .ref h23, .int 0, .int 0, .ref h24, .ref h25, .int (-1), .ref h26, .ref h27]))])) (va_Qi (fun (r : Int32) (u : va_W) => (0 = r ∧ u = [(h0, .inr (8, [.int 1, .int 0, .int (-1), .int 0, .int 0, .int (-1), .int 0, .int 0, .int 0, .int 0, .int 0, .ref h1, .ref h2, .ref h3, .ref h4, .ref h5, .ref h6, .ref h7, .ref h8, .ref h9, .ref h10, .ref h11, .ref h12, .ref h13, .ref h14, .ref h15, .ref h16, .ref h17, .ref h18, .ref h19, .int 0, .ref h20, .ref h21, .ref h22, .ref h23, .int 0, .int 0, .ref h24, .ref h25, .int (-1), .ref h26, .ref h27]))])) (wB G (va_A [(h0, .inr (8, [.int 1, .int 0, .int (-1), .int 0, .int 0, .int (-1), .int 0, .int 0, .int 0, .int 0, .int 0, .ref h1, .ref h2, .ref h3, .ref h4, .ref h5, .ref h6, .ref h7, .ref h8, .ref h9, .ref h10, .ref h11, .ref h12, .ref h13, .ref h14, .ref h15, .ref h16, .ref h17, .ref h18, .ref h19, .int 0, .ref h20, .ref h21, .ref h22, .ref h23, .int 0, .int 0, .ref h24, .ref h25, .int (-1), .ref h26, .ref h27]))] sz)) (va_A [(h0, .inr (8, [.int 1, .int 0, .int (-1), .int 0, .int 0, .int (-1), .int 0, .int 0, .int 0, .int 0, .int 0, .ref h1, .ref h2, .ref h3, .ref h4, .ref h5, .ref h6, .ref h7, .ref h8, .ref h9, .ref h10, .ref h11, .ref h12, .ref h13, .ref h14, .ref h15, .ref h16, .ref h17, .ref h18, .ref h19, .int 0, .ref h20, .ref h21, .ref h22, .ref h23, .int 0, .int 0, .ref h24, .ref h25, .int (-1), .ref h26, .ref h27]))] sz)) 0 0 (va_A [(h0, .inr (8, [.int 1, .int 0, .int (-1), .int 0, .int 0, .int (-1), .int 0, .int 0, .int 0, .int 0, .int 0, .ref h1, .ref h2, .ref h3, .ref h4, .ref h5, .ref h6, .ref h7, .ref h8, .ref h9, .ref h10, .ref h11, .ref h12, .ref h13, .ref h14, .ref h15, .ref h16, .ref h17, .ref h18, .ref h19, .int 0, .ref h20, .ref h21, .ref h22, .ref h23, .int 0, .int 0, .ref h24, .ref h25, .int (-1), .ref h26, .ref h27]))] sz) := by
  refine Met.ofW (cc := cX11_isHere) (maxL := 2) (ret := (some .boolean)) (by decide) rfl ?_
  intro p e s m args below meth c s₁ B hml hv
  obtain ⟨rfl, hsz, hP, hK, hD0, hE⟩ := hv
  have hx := B.exec
  have hb := B.bytes
  have hr := B.returns
  have hts := atoms_spec (ws := v_X11_isHere_0) B.pre
  have t_ := t_X11_isHere_0
  have mw : ∀ w ∈ e_X11_isHere_0, w ∈ v_X11_isHere_0 := fun w h => List.mem_cons_of_mem _ (List.mem_append_left _ h)
  have hw := fun w (h : w ∈ e_X11_isHere_0) => hts w (mw w h)
  have j_X11_isSeat_2 : ∀ w ∈ v_X11_isSeat_2, w ∈ v_X11_isHere_0 := fun w h => List.mem_cons_of_mem _ (List.mem_append_right _ (List.mem_append_left _ h))
  have hown : s.vm.findClass RX11 = some m.cls := findClass_of_methodNamed B.named
  have hlocks := B.notSynchronized
  subst hsz
  have hD := hD0.self (sz := s.heap.size)
  generalize hAe : va_A [(h0, .inr (8, [.int 1, .int 0, .int (-1), .int 0, .int 0, .int (-1), .int 0, .int 0, .int 0, .int 0, .int 0, .ref h1, .ref h2, .ref h3, .ref h4, .ref h5, .ref h6, .ref h7, .ref h8, .ref h9, .ref h10, .ref h11, .ref h12, .ref h13, .ref h14, .ref h15, .ref h16, .ref h17, .ref h18, .ref h19, .int 0, .ref h20, .ref h21, .ref h22, .ref h23, .int 0, .int 0, .ref h24, .ref h25, .int (-1), .ref h26, .ref h27]))] s.heap.size = A at hD ⊢
  have hA : ∀ q : Nat, s.heap.size ≤ q → A q := fun q h => by rw [← hAe]; exact Or.inr h
  have hS : va_S A s.heap s.heap [] := va_S.rf
  have hP : va_P G vwCl [(h0, .inr (8, [.int 1, .int 0, .int (-1), .int 0, .int 0, .int (-1), .int 0, .int 0, .int 0, .int 0, .int 0, .ref h1, .ref h2, .ref h3, .ref h4, .ref h5, .ref h6, .ref h7, .ref h8, .ref h9, .ref h10, .ref h11, .ref h12, .ref h13, .ref h14, .ref h15, .ref h16, .ref h17, .ref h18, .ref h19, .int 0, .ref h20, .ref h21, .ref h22, .ref h23, .int 0, .int 0, .ref h24, .ref h25, .int (-1), .ref h26, .ref h27]))] s.heap := hP
  have hl := lv_entry ([.ref h0, .int (-1)]) (n := 2) (Nat.le_of_ble_eq_true rfl)
  rw [lg_entry_eq]
  generalize (lg_sl ([.ref h0, .int (-1)]) ++ List.replicate (2 - (lg_sl ([.ref h0, .int (-1)])).length) Slot.unset).toArray = ls at hl ⊢
  have hl : lv_has ls 2 [(0, .ref h0), (1, .int (-1))] := hl
  refine lv_aload_n hx hb dX11_isHere_0 rfl (lv_at hl 0 rfl) ?_
  refine lv_iload_n hx hb dX11_isHere_1 rfl (lv_at hl 1 rfl) ?_
  have hPc := hP.sub (ws' := [(h0, .inr (8, [.int 1, .int 0, .int (-1), .int 0, .int 0, .int (-1), .int 0, .int 0, .int 0, .int 0, .int 0, .ref h1, .ref h2, .ref h3, .ref h4, .ref h5, .ref h6, .ref h7, .ref h8, .ref h9, .ref h10, .ref h11, .ref h12, .ref h13, .ref h14, .ref h15, .ref h16, .ref h17, .ref h18, .ref h19, .int 0, .ref h20, .ref h21, .ref h22, .ref h23, .int 0, .int 0, .ref h24, .ref h25, .int (-1), .ref h26, .ref h27]))]) [0] rfl
  have hDc := hD.sub (ws' := [(h0, .inr (8, [.int 1, .int 0, .int (-1), .int 0, .int 0, .int (-1), .int 0, .int 0, .int 0, .int 0, .int 0, .ref h1, .ref h2, .ref h3, .ref h4, .ref h5, .ref h6, .ref h7, .ref h8, .ref h9, .ref h10, .ref h11, .ref h12, .ref h13, .ref h14, .ref h15, .ref h16, .ref h17, .ref h18, .ref h19, .int 0, .ref h20, .ref h21, .ref h22, .ref h23, .int 0, .int 0, .ref h24, .ref h25, .int (-1), .ref h26, .ref h27]))]) [0] (by decide) rfl
  refine wGoi (wc := [(h0, .inr (8, [.int 1, .int 0, .int (-1), .int 0, .int 0, .int (-1), .int 0, .int 0, .int 0, .int 0, .int 0, .ref h1, .ref h2, .ref h3, .ref h4, .ref h5, .ref h6, .ref h7, .ref h8, .ref h9, .ref h10, .ref h11, .ref h12, .ref h13, .ref h14, .ref h15, .ref h16, .ref h17, .ref h18, .ref h19, .int 0, .ref h20, .ref h21, .ref h22, .ref h23, .int 0, .int 0, .ref h24, .ref h25, .int (-1), .ref h26, .ref h27]))]) (wr := []) (va_runV (As := [.int (-1)]) (rest := []) ⟨hx, hb, hml, hown, hts⟩ (m_X11_isSeat_2 l G K h0 h1 h2 h3 h4 h5 h6 h7 h8 h9 h10 h11 h12 h13 h14 h15 h16 h17 h18 h19 h20 h21 h22 h23 h24 h25 h26 h27 _) (cwV 1 hts (wGV t_ (mw (.methodLink RX11 140 yX11_isSeat) (List.mem_of_getElem? (i := 0) rfl)) (mw (.instanceMethod yX11_isSeat) (List.mem_of_getElem? (i := 1) rfl)) (mw (.selects RX11 yX11_isSeat yX11_isSeat) (List.mem_of_getElem? (i := 2) rfl)) (mw (.initialized RX11) (List.mem_of_getElem? (i := 3) rfl)) j_X11_isSeat_2) rfl rfl rfl (by decide +kernel) ⟨Nat.le_of_ble_eq_true rfl, Nat.le_of_ble_eq_true rfl⟩) (wPV hK hE hPc hDc 8 0 rfl rfl) rfl rfl hl.1 rfl (lv_room (Nat.le_of_ble_eq_true rfl)) dX11_isHere_2 ⟨Nat.le_of_ble_eq_true rfl, Nat.le_of_ble_eq_true rfl⟩) hP hD hS hA [0] [] rfl rfl rfl (by decide) (fun r u H locs hw hP hD hS => ?_)
  rcases hw with ⟨rfl, rfl⟩
  have hP : va_P G vwCl [(h0, .inr (8, [.int 1, .int 0, .int (-1), .int 0, .int 0, .int (-1), .int 0, .int 0, .int 0, .int 0, .int 0, .ref h1, .ref h2, .ref h3, .ref h4, .ref h5, .ref h6, .ref h7, .ref h8, .ref h9, .ref h10, .ref h11, .ref h12, .ref h13, .ref h14, .ref h15, .ref h16, .ref h17, .ref h18, .ref h19, .int 0, .ref h20, .ref h21, .ref h22, .ref h23, .int 0, .int 0, .ref h24, .ref h25, .int (-1), .ref h26, .ref h27]))] _ := hP
  have hD : va_D A [(h0, .inr (8, [.int 1, .int 0, .int (-1), .int 0, .int 0, .int (-1), .int 0, .int 0, .int 0, .int 0, .int 0, .ref h1, .ref h2, .ref h3, .ref h4, .ref h5, .ref h6, .ref h7, .ref h8, .ref h9, .ref h10, .ref h11, .ref h12, .ref h13, .ref h14, .ref h15, .ref h16, .ref h17, .ref h18, .ref h19, .int 0, .ref h20, .ref h21, .ref h22, .ref h23, .int 0, .int 0, .ref h24, .ref h25, .int (-1), .ref h26, .ref h27]))] := hD
  refine lv_if_eq (tgt := 21) hx hb dX11_isHere_5 (by decide) (fun _ => ?_) (fun c_ => absurd c_ (by decide))
  refine lv_iconst (v := 0) hx hb dX11_isHere_21 (by decide) ?_
  have hP9 : va_P G vwCl [(h0, .inr (8, [.int 1, .int 0, .int (-1), .int 0, .int 0, .int (-1), .int 0, .int 0, .int 0, .int 0, .int 0, .ref h1, .ref h2, .ref h3, .ref h4, .ref h5, .ref h6, .ref h7, .ref h8, .ref h9, .ref h10, .ref h11, .ref h12, .ref h13, .ref h14, .ref h15, .ref h16, .ref h17, .ref h18, .ref h19, .int 0, .ref h20, .ref h21, .ref h22, .ref h23, .int 0, .int 0, .ref h24, .ref h25, .int (-1), .ref h26, .ref h27]))] _ := hP
  have hD9 : va_D A [(h0, .inr (8, [.int 1, .int 0, .int (-1), .int 0, .int 0, .int (-1), .int 0, .int 0, .int 0, .int 0, .int 0, .ref h1, .ref h2, .ref h3, .ref h4, .ref h5, .ref h6, .ref h7, .ref h8, .ref h9, .ref h10, .ref h11, .ref h12, .ref h13, .ref h14, .ref h15, .ref h16, .ref h17, .ref h18, .ref h19, .int 0, .ref h20, .ref h21, .ref h22, .ref h23, .int 0, .int 0, .ref h24, .ref h25, .int (-1), .ref h26, .ref h27]))] := hD
  exact W.zret (v := 0) (ty := .boolean) hx hb hr rfl (fun t ht hW => ⟨⟨0, _, rfl, ⟨rfl, rfl⟩, by rw [ht]; exact hP9, hD9⟩, hS.F ht⟩) hS.2.2 dX11_isHere_22
def e_X11_reason_28 : List Cond := [.fieldLink RX11 103 "MotionFloorModel$Hall" "chair" "I", .methodLink RX11 178 yX11_isHere, .instanceMethod yX11_isHere, .selects RX11 yX11_isHere yX11_isHere, .initialized RX11]
def v_X11_reason_28 : List Cond := .code yX11_reason cX11_reason 6 (some .int) :: (e_X11_reason_28 ++ (wsX110 ++ (v_X11_isHere_0 ++ [])))
theorem te_X11_reason_28 : GoodIn lw_tbl e_X11_reason_28 := wGc z206 (wGc z651 (wGc z650 (wGc z649 (wGc z227 (wG0)))))
theorem t_X11_reason_28 : GoodIn lw_tbl v_X11_reason_28 := wGc z355 (wGa te_X11_reason_28 (wGa zcX11 (wGa t_X11_isHere_0 (wG0))))
set_option maxHeartbeats 4000000 in
set_option maxRecDepth 100000 in
theorem m_X11_reason_28 (l : Launch) (G : va_G) (K : Nat → ClassId) (h0 h1 h2 h3 h4 h5 h6 h7 h8 h9 h10 h11 h12 h13 h14 h15 h16 h17 h18 h19 h20 h21 h22 h23 h24 h25 h26 h27 : Nat) (sz : Nat) : Met l yX11_reason v_X11_reason_28 ({ frames := 3, cells := 0, slots := 0, locals := 64 }) (va_Pc [.ref h0, .int 19, .int 0, .int 0, .int 0, .int 0] (wS G K sz [(h0, .inr (8, [.int 1, .int 0, .int (-1), .int 0, .int 0, .int (-1), .int 0, .int 0, .int 0, .int 0, .int 0, .ref h1, .ref h2, .ref h3, .ref h4, .ref h5, .ref h6, .ref h7, .ref h8, .ref h9, .ref h10, .ref h11, .ref h12, .ref h13, .ref h14, .ref h15, .ref h16, .ref h17, .ref h18, .ref h19, .int 0, .ref h20, .ref h21, .ref h22, .ref h23, .int 0, .int 0, .ref h24, .ref h25, .int (-1), .ref h26, .ref h27]))])) (va_Qi (fun (r : Int32) (u : va_W) => (8 = r ∧ u = [(h0, .inr (8, [.int 1, .int 0, .int (-1), .int 0, .int 0, .int (-1), .int 0, .int 0, .int 0, .int 0, .int 0, .ref h1, .ref h2, .ref h3, .ref h4, .ref h5, .ref h6, .ref h7, .ref h8, .ref h9, .ref h10, .ref h11, .ref h12, .ref h13, .ref h14, .ref h15, .ref h16, .ref h17, .ref h18, .ref h19, .int 0, .ref h20, .ref h21, .ref h22, .ref h23, .int 0, .int 0, .ref h24, .ref h25, .int (-1), .ref h26, .ref h27]))])) (wB G (va_A [(h0, .inr (8, [.int 1, .int 0, .int (-1), .int 0, .int 0, .int (-1), .int 0, .int 0, .int 0, .int 0, .int 0, .ref h1, .ref h2, .ref h3, .ref h4, .ref h5, .ref h6, .ref h7, .ref h8, .ref h9, .ref h10, .ref h11, .ref h12, .ref h13, .ref h14, .ref h15, .ref h16, .ref h17, .ref h18, .ref h19, .int 0, .ref h20, .ref h21, .ref h22, .ref h23, .int 0, .int 0, .ref h24, .ref h25, .int (-1), .ref h26, .ref h27]))] sz)) (va_A [(h0, .inr (8, [.int 1, .int 0, .int (-1), .int 0, .int 0, .int (-1), .int 0, .int 0, .int 0, .int 0, .int 0, .ref h1, .ref h2, .ref h3, .ref h4, .ref h5, .ref h6, .ref h7, .ref h8, .ref h9, .ref h10, .ref h11, .ref h12, .ref h13, .ref h14, .ref h15, .ref h16, .ref h17, .ref h18, .ref h19, .int 0, .ref h20, .ref h21, .ref h22, .ref h23, .int 0, .int 0, .ref h24, .ref h25, .int (-1), .ref h26, .ref h27]))] sz)) 0 0 (va_A [(h0, .inr (8, [.int 1, .int 0, .int (-1), .int 0, .int 0, .int (-1), .int 0, .int 0, .int 0, .int 0, .int 0, .ref h1, .ref h2, .ref h3, .ref h4, .ref h5, .ref h6, .ref h7, .ref h8, .ref h9, .ref h10, .ref h11, .ref h12, .ref h13, .ref h14, .ref h15, .ref h16, .ref h17, .ref h18, .ref h19, .int 0, .ref h20, .ref h21, .ref h22, .ref h23, .int 0, .int 0, .ref h24, .ref h25, .int (-1), .ref h26, .ref h27]))] sz) := by
  refine Met.ofW (cc := cX11_reason) (maxL := 6) (ret := (some .int)) (by decide) rfl ?_
  intro p e s m args below meth c s₁ B hml hv
  obtain ⟨rfl, hsz, hP, hK, hD0, hE⟩ := hv
  have hx := B.exec
  have hb := B.bytes
  have hr := B.returns
  have hts := atoms_spec (ws := v_X11_reason_28) B.pre
  have t_ := t_X11_reason_28
  have mw : ∀ w ∈ e_X11_reason_28, w ∈ v_X11_reason_28 := fun w h => List.mem_cons_of_mem _ (List.mem_append_left _ h)
  have hw := fun w (h : w ∈ e_X11_reason_28) => hts w (mw w h)
  have iX11 : ∀ w ∈ wsX110, w ∈ v_X11_reason_28 := fun w h => List.mem_cons_of_mem _ (List.mem_append_right _ (List.mem_append_left _ h))
  have j_X11_isHere_0 : ∀ w ∈ v_X11_isHere_0, w ∈ v_X11_reason_28 := fun w h => List.mem_cons_of_mem _ (List.mem_append_right _ (List.mem_append_right _ (List.mem_append_left _ h)))
  have hown : s.vm.findClass RX11 = some m.cls := findClass_of_methodNamed B.named
  have hlocks := B.notSynchronized
  subst hsz
  have hD := hD0.self (sz := s.heap.size)
  generalize hAe : va_A [(h0, .inr (8, [.int 1, .int 0, .int (-1), .int 0, .int 0, .int (-1), .int 0, .int 0, .int 0, .int 0, .int 0, .ref h1, .ref h2, .ref h3, .ref h4, .ref h5, .ref h6, .ref h7, .ref h8, .ref h9, .ref h10, .ref h11, .ref h12, .ref h13, .ref h14, .ref h15, .ref h16, .ref h17, .ref h18, .ref h19, .int 0, .ref h20, .ref h21, .ref h22, .ref h23, .int 0, .int 0, .ref h24, .ref h25, .int (-1), .ref h26, .ref h27]))] s.heap.size = A at hD ⊢
  have hA : ∀ q : Nat, s.heap.size ≤ q → A q := fun q h => by rw [← hAe]; exact Or.inr h
  have hS : va_S A s.heap s.heap [] := va_S.rf
  have hP : va_P G vwCl [(h0, .inr (8, [.int 1, .int 0, .int (-1), .int 0, .int 0, .int (-1), .int 0, .int 0, .int 0, .int 0, .int 0, .ref h1, .ref h2, .ref h3, .ref h4, .ref h5, .ref h6, .ref h7, .ref h8, .ref h9, .ref h10, .ref h11, .ref h12, .ref h13, .ref h14, .ref h15, .ref h16, .ref h17, .ref h18, .ref h19, .int 0, .ref h20, .ref h21, .ref h22, .ref h23, .int 0, .int 0, .ref h24, .ref h25, .int (-1), .ref h26, .ref h27]))] s.heap := hP
  have hl := lv_entry ([.ref h0, .int 19, .int 0, .int 0, .int 0, .int 0]) (n := 6) (Nat.le_of_ble_eq_true rfl)
  rw [lg_entry_eq]
  generalize (lg_sl ([.ref h0, .int 19, .int 0, .int 0, .int 0, .int 0]) ++ List.replicate (6 - (lg_sl ([.ref h0, .int 19, .int 0, .int 0, .int 0, .int 0])).length) Slot.unset).toArray = ls at hl ⊢
  have hl : lv_has ls 6 [(0, .ref h0), (1, .int 19), (2, .int 0), (3, .int 0), (4, .int 0), (5, .int 0)] := hl
  refine lv_iload_n hx hb dX11_reason_0 rfl (lv_at hl 1 rfl) ?_
  refine lv_tableIn (off := 769) (tgt := 770) hx hb dX11_reason_1 (by decide) (by decide) (by decide) (by decide) ?_
  refine lv_aload_n hx hb dX11_reason_770 rfl (lv_at hl 0 rfl) ?_
  refine lv_aload_n hx hb dX11_reason_771 rfl (lv_at hl 0 rfl) ?_
  refine va_get (D := G) (ci := 8) (v := .int (-1)) (C := RX11) (T := TX11) (N := 42) hx hb hts iX11 hown hK hP 0 rfl rfl 2 (by decide) (hw (.fieldLink RX11 103 "MotionFloorModel$Hall" "chair" "I") (List.mem_of_getElem? (i := 0) rfl)) (fun _ h9 => h9) rfl dX11_reason_772 ?_
  have hPc := hP.sub (ws' := [(h0, .inr (8, [.int 1, .int 0, .int (-1), .int 0, .int 0, .int (-1), .int 0, .int 0, .int 0, .int 0, .int 0, .ref h1, .ref h2, .ref h3, .ref h4, .ref h5, .ref h6, .ref h7, .ref h8, .ref h9, .ref h10, .ref h11, .ref h12, .ref h13, .ref h14, .ref h15, .ref h16, .ref h17, .ref h18, .ref h19, .int 0, .ref h20, .ref h21, .ref h22, .ref h23, .int 0, .int 0, .ref h24, .ref h25, .int (-1), .ref h26, .ref h27]))]) [0] rfl
  have hDc := hD.sub (ws' := [(h0, .inr (8, [.int 1, .int 0, .int (-1), .int 0, .int 0, .int (-1), .int 0, .int 0, .int 0, .int 0, .int 0, .ref h1, .ref h2, .ref h3, .ref h4, .ref h5, .ref h6, .ref h7, .ref h8, .ref h9, .ref h10, .ref h11, .ref h12, .ref h13, .ref h14, .ref h15, .ref h16, .ref h17, .ref h18, .ref h19, .int 0, .ref h20, .ref h21, .ref h22, .ref h23, .int 0, .int 0, .ref h24, .ref h25, .int (-1), .ref h26, .ref h27]))]) [0] (by decide) rfl
  refine wGoi (wc := [(h0, .inr (8, [.int 1, .int 0, .int (-1), .int 0, .int 0, .int (-1), .int 0, .int 0, .int 0, .int 0, .int 0, .ref h1, .ref h2, .ref h3, .ref h4, .ref h5, .ref h6, .ref h7, .ref h8, .ref h9, .ref h10, .ref h11, .ref h12, .ref h13, .ref h14, .ref h15, .ref h16, .ref h17, .ref h18, .ref h19, .int 0, .ref h20, .ref h21, .ref h22, .ref h23, .int 0, .int 0, .ref h24, .ref h25, .int (-1), .ref h26, .ref h27]))]) (wr := []) (va_runV (As := [.int (-1)]) (rest := []) ⟨hx, hb, hml, hown, hts⟩ (m_X11_isHere_0 l G K h0 h1 h2 h3 h4 h5 h6 h7 h8 h9 h10 h11 h12 h13 h14 h15 h16 h17 h18 h19 h20 h21 h22 h23 h24 h25 h26 h27 _) (cwV 1 hts (wGV t_ (mw (.methodLink RX11 178 yX11_isHere) (List.mem_of_getElem? (i := 1) rfl)) (mw (.instanceMethod yX11_isHere) (List.mem_of_getElem? (i := 2) rfl)) (mw (.selects RX11 yX11_isHere yX11_isHere) (List.mem_of_getElem? (i := 3) rfl)) (mw (.initialized RX11) (List.mem_of_getElem? (i := 4) rfl)) j_X11_isHere_0) rfl rfl rfl (by decide +kernel) ⟨Nat.le_of_ble_eq_true rfl, Nat.le_of_ble_eq_true rfl⟩) (wPV hK hE hPc hDc 8 0 rfl rfl) rfl rfl hl.1 rfl (lv_room (Nat.le_of_ble_eq_true rfl)) dX11_reason_775 ⟨Nat.le_of_ble_eq_true rfl, Nat.le_of_ble_eq_true rfl⟩) hP hD hS hA [0] [] rfl rfl rfl (by decide) (fun r u H locs hw hP hD hS => ?_)
  rcases hw with ⟨rfl, rfl⟩
  have hP : va_P G vwCl [(h0, .inr (8, [.int 1, .int 0, .int (-1), .int 0, .int 0, .int (-1), .int 0, .int 0, .int 0, .int 0, .int 0, .ref h1, .ref h2, .ref h3, .ref h4, .ref h5, .ref h6, .ref h7, .ref h8, .ref h9, .ref h10, .ref h11, .ref h12, .ref h13, .ref h14, .ref h15, .ref h16, .ref h17, .ref h18, .ref h19, .int 0, .ref h20, .ref h21, .ref h22, .ref h23, .int 0, .int 0, .ref h24, .ref h25, .int (-1), .ref h26, .ref h27]))] _ := hP
  have hD : va_D A [(h0, .inr (8, [.int 1, .int 0, .int (-1), .int 0, .int 0, .int (-1), .int 0, .int 0, .int 0, .int 0, .int 0, .ref h1, .ref h2, .ref h3, .ref h4, .ref h5, .ref h6, .ref h7, .ref h8, .ref h9, .ref h10, .ref h11, .ref h12, .ref h13, .ref h14, .ref h15, .ref h16, .ref h17, .ref h18, .ref h19, .int 0, .ref h20, .ref h21, .ref h22, .ref h23, .int 0, .int 0, .ref h24, .ref h25, .int (-1), .ref h26, .ref h27]))] := hD
  refine lv_if_ne (tgt := 784) hx hb dX11_reason_778 (by decide) (fun c_ => absurd c_ (by decide)) (fun _ => ?_)
  refine lv_bipush (v := 8) hx hb dX11_reason_781 (by decide) ?_
  have hP9 : va_P G vwCl [(h0, .inr (8, [.int 1, .int 0, .int (-1), .int 0, .int 0, .int (-1), .int 0, .int 0, .int 0, .int 0, .int 0, .ref h1, .ref h2, .ref h3, .ref h4, .ref h5, .ref h6, .ref h7, .ref h8, .ref h9, .ref h10, .ref h11, .ref h12, .ref h13, .ref h14, .ref h15, .ref h16, .ref h17, .ref h18, .ref h19, .int 0, .ref h20, .ref h21, .ref h22, .ref h23, .int 0, .int 0, .ref h24, .ref h25, .int (-1), .ref h26, .ref h27]))] _ := hP
  have hD9 : va_D A [(h0, .inr (8, [.int 1, .int 0, .int (-1), .int 0, .int 0, .int (-1), .int 0, .int 0, .int 0, .int 0, .int 0, .ref h1, .ref h2, .ref h3, .ref h4, .ref h5, .ref h6, .ref h7, .ref h8, .ref h9, .ref h10, .ref h11, .ref h12, .ref h13, .ref h14, .ref h15, .ref h16, .ref h17, .ref h18, .ref h19, .int 0, .ref h20, .ref h21, .ref h22, .ref h23, .int 0, .int 0, .ref h24, .ref h25, .int (-1), .ref h26, .ref h27]))] := hD
  exact W.iret (v := 8) hx hb hr (fun t ht hW => ⟨⟨8, _, rfl, ⟨rfl, rfl⟩, by rw [ht]; exact hP9, hD9⟩, hS.F ht⟩) hS.2.2 dX11_reason_783
def e_X11_act_28 : List Cond := [.methodLink RX11 196 yX11_reason, .instanceMethod yX11_reason, .selects RX11 yX11_reason yX11_reason, .initialized RX11, .fieldLink RX11 127 "MotionFloorModel$Hall" "why" "I"]
def v_X11_act_28 : List Cond := .code yX11_act cX11_act 10 (some .int) :: (e_X11_act_28 ++ (wsX110 ++ (v_X11_reason_28 ++ [])))
theorem te_X11_act_28 : GoodIn lw_tbl e_X11_act_28 := wGc z364 (wGc z363 (wGc z362 (wGc z227 (wGc z198 (wG0)))))
theorem t_X11_act_28 : GoodIn lw_tbl v_X11_act_28 := wGc z365 (wGa te_X11_act_28 (wGa zcX11 (wGa t_X11_reason_28 (wG0))))
set_option maxHeartbeats 4000000 in
set_option maxRecDepth 100000 in
theorem m_X11_act_28 (l : Launch) (G : va_G) (K : Nat → ClassId) (h0 h1 h2 h3 h4 h5 h6 h7 h8 h9 h10 h11 h12 h13 h14 h15 h16 h17 h18 h19 h20 h21 h22 h23 h24 h25 h26 h27 : Nat) (sz : Nat) : Met l yX11_act v_X11_act_28 ({ frames := 4, cells := 0, slots := 0, locals := 89 }) (va_Pc [.ref h0, .int 19, .int 0, .int 0, .int 0, .int 0] (wS G K sz [(h0, .inr (8, [.int 1, .int 0, .int (-1), .int 0, .int 0, .int (-1), .int 0, .int 0, .int 0, .int 0, .int 0, .ref h1, .ref h2, .ref h3, .ref h4, .ref h5, .ref h6, .ref h7, .ref h8, .ref h9, .ref h10, .ref h11, .ref h12, .ref h13, .ref h14, .ref h15, .ref h16, .ref h17, .ref h18, .ref h19, .int 0, .ref h20, .ref h21, .ref h22, .ref h23, .int 0, .int 0, .ref h24, .ref h25, .int (-1), .ref h26, .ref h27]))])) (va_Qi (fun (r : Int32) (u : va_W) => ((-8) = r ∧ u = [(h0, .inr (8, [.int 1, .int 0, .int (-1), .int 0, .int 0, .int (-1), .int 0, .int 0, .int 0, .int 0, .int 8, .ref h1, .ref h2, .ref h3, .ref h4, .ref h5, .ref h6, .ref h7, .ref h8, .ref h9, .ref h10, .ref h11, .ref h12, .ref h13, .ref h14, .ref h15, .ref h16, .ref h17, .ref h18, .ref h19, .int 0, .ref h20, .ref h21, .ref h22, .ref h23, .int 0, .int 0, .ref h24, .ref h25, .int (-1), .ref h26, .ref h27]))])) (wB G (va_A [(h0, .inr (8, [.int 1, .int 0, .int (-1), .int 0, .int 0, .int (-1), .int 0, .int 0, .int 0, .int 0, .int 0, .ref h1, .ref h2, .ref h3, .ref h4, .ref h5, .ref h6, .ref h7, .ref h8, .ref h9, .ref h10, .ref h11, .ref h12, .ref h13, .ref h14, .ref h15, .ref h16, .ref h17, .ref h18, .ref h19, .int 0, .ref h20, .ref h21, .ref h22, .ref h23, .int 0, .int 0, .ref h24, .ref h25, .int (-1), .ref h26, .ref h27]))] sz)) (va_A [(h0, .inr (8, [.int 1, .int 0, .int (-1), .int 0, .int 0, .int (-1), .int 0, .int 0, .int 0, .int 0, .int 0, .ref h1, .ref h2, .ref h3, .ref h4, .ref h5, .ref h6, .ref h7, .ref h8, .ref h9, .ref h10, .ref h11, .ref h12, .ref h13, .ref h14, .ref h15, .ref h16, .ref h17, .ref h18, .ref h19, .int 0, .ref h20, .ref h21, .ref h22, .ref h23, .int 0, .int 0, .ref h24, .ref h25, .int (-1), .ref h26, .ref h27]))] sz)) 0 0 (va_A [(h0, .inr (8, [.int 1, .int 0, .int (-1), .int 0, .int 0, .int (-1), .int 0, .int 0, .int 0, .int 0, .int 0, .ref h1, .ref h2, .ref h3, .ref h4, .ref h5, .ref h6, .ref h7, .ref h8, .ref h9, .ref h10, .ref h11, .ref h12, .ref h13, .ref h14, .ref h15, .ref h16, .ref h17, .ref h18, .ref h19, .int 0, .ref h20, .ref h21, .ref h22, .ref h23, .int 0, .int 0, .ref h24, .ref h25, .int (-1), .ref h26, .ref h27]))] sz) := by
  refine Met.ofW (cc := cX11_act) (maxL := 10) (ret := (some .int)) (by decide) rfl ?_
  intro p e s m args below meth c s₁ B hml hv
  obtain ⟨rfl, hsz, hP, hK, hD0, hE⟩ := hv
  have hx := B.exec
  have hb := B.bytes
  have hr := B.returns
  have hts := atoms_spec (ws := v_X11_act_28) B.pre
  have t_ := t_X11_act_28
  have mw : ∀ w ∈ e_X11_act_28, w ∈ v_X11_act_28 := fun w h => List.mem_cons_of_mem _ (List.mem_append_left _ h)
  have hw := fun w (h : w ∈ e_X11_act_28) => hts w (mw w h)
  have iX11 : ∀ w ∈ wsX110, w ∈ v_X11_act_28 := fun w h => List.mem_cons_of_mem _ (List.mem_append_right _ (List.mem_append_left _ h))
  have j_X11_reason_28 : ∀ w ∈ v_X11_reason_28, w ∈ v_X11_act_28 := fun w h => List.mem_cons_of_mem _ (List.mem_append_right _ (List.mem_append_right _ (List.mem_append_left _ h)))
  have hown : s.vm.findClass RX11 = some m.cls := findClass_of_methodNamed B.named
  have hlocks := B.notSynchronized
  subst hsz
  have hD := hD0.self (sz := s.heap.size)
  generalize hAe : va_A [(h0, .inr (8, [.int 1, .int 0, .int (-1), .int 0, .int 0, .int (-1), .int 0, .int 0, .int 0, .int 0, .int 0, .ref h1, .ref h2, .ref h3, .ref h4, .ref h5, .ref h6, .ref h7, .ref h8, .ref h9, .ref h10, .ref h11, .ref h12, .ref h13, .ref h14, .ref h15, .ref h16, .ref h17, .ref h18, .ref h19, .int 0, .ref h20, .ref h21, .ref h22, .ref h23, .int 0, .int 0, .ref h24, .ref h25, .int (-1), .ref h26, .ref h27]))] s.heap.size = A at hD ⊢
  have hA : ∀ q : Nat, s.heap.size ≤ q → A q := fun q h => by rw [← hAe]; exact Or.inr h
  have hS : va_S A s.heap s.heap [] := va_S.rf
  have hP : va_P G vwCl [(h0, .inr (8, [.int 1, .int 0, .int (-1), .int 0, .int 0, .int (-1), .int 0, .int 0, .int 0, .int 0, .int 0, .ref h1, .ref h2, .ref h3, .ref h4, .ref h5, .ref h6, .ref h7, .ref h8, .ref h9, .ref h10, .ref h11, .ref h12, .ref h13, .ref h14, .ref h15, .ref h16, .ref h17, .ref h18, .ref h19, .int 0, .ref h20, .ref h21, .ref h22, .ref h23, .int 0, .int 0, .ref h24, .ref h25, .int (-1), .ref h26, .ref h27]))] s.heap := hP
  have hl := lv_entry ([.ref h0, .int 19, .int 0, .int 0, .int 0, .int 0]) (n := 10) (Nat.le_of_ble_eq_true rfl)
  rw [lg_entry_eq]
  generalize (lg_sl ([.ref h0, .int 19, .int 0, .int 0, .int 0, .int 0]) ++ List.replicate (10 - (lg_sl ([.ref h0, .int 19, .int 0, .int 0, .int 0, .int 0])).length) Slot.unset).toArray = ls at hl ⊢
  have hl : lv_has ls 10 [(0, .ref h0), (1, .int 19), (2, .int 0), (3, .int 0), (4, .int 0), (5, .int 0)] := hl
  refine lv_aload_n hx hb dX11_act_0 rfl (lv_at hl 0 rfl) ?_
  refine lv_iload_n hx hb dX11_act_1 rfl (lv_at hl 1 rfl) ?_
  refine lv_iload_n hx hb dX11_act_2 rfl (lv_at hl 2 rfl) ?_
  refine lv_iload_n hx hb dX11_act_3 rfl (lv_at hl 3 rfl) ?_
  refine lv_iload hx hb dX11_act_4 (lv_at hl 4 rfl) ?_
  refine lv_iload hx hb dX11_act_6 (lv_at hl 5 rfl) ?_
  have hPc := hP.sub (ws' := [(h0, .inr (8, [.int 1, .int 0, .int (-1), .int 0, .int 0, .int (-1), .int 0, .int 0, .int 0, .int 0, .int 0, .ref h1, .ref h2, .ref h3, .ref h4, .ref h5, .ref h6, .ref h7, .ref h8, .ref h9, .ref h10, .ref h11, .ref h12, .ref h13, .ref h14, .ref h15, .ref h16, .ref h17, .ref h18, .ref h19, .int 0, .ref h20, .ref h21, .ref h22, .ref h23, .int 0, .int 0, .ref h24, .ref h25, .int (-1), .ref h26, .ref h27]))]) [0] rfl
  have hDc := hD.sub (ws' := [(h0, .inr (8, [.int 1, .int 0, .int (-1), .int 0, .int 0, .int (-1), .int 0, .int 0, .int 0, .int 0, .int 0, .ref h1, .ref h2, .ref h3, .ref h4, .ref h5, .ref h6, .ref h7, .ref h8, .ref h9, .ref h10, .ref h11, .ref h12, .ref h13, .ref h14, .ref h15, .ref h16, .ref h17, .ref h18, .ref h19, .int 0, .ref h20, .ref h21, .ref h22, .ref h23, .int 0, .int 0, .ref h24, .ref h25, .int (-1), .ref h26, .ref h27]))]) [0] (by decide) rfl
  refine wGoi (wc := [(h0, .inr (8, [.int 1, .int 0, .int (-1), .int 0, .int 0, .int (-1), .int 0, .int 0, .int 0, .int 0, .int 0, .ref h1, .ref h2, .ref h3, .ref h4, .ref h5, .ref h6, .ref h7, .ref h8, .ref h9, .ref h10, .ref h11, .ref h12, .ref h13, .ref h14, .ref h15, .ref h16, .ref h17, .ref h18, .ref h19, .int 0, .ref h20, .ref h21, .ref h22, .ref h23, .int 0, .int 0, .ref h24, .ref h25, .int (-1), .ref h26, .ref h27]))]) (wr := []) (va_runV (As := [.int 19, .int 0, .int 0, .int 0, .int 0]) (rest := []) ⟨hx, hb, hml, hown, hts⟩ (m_X11_reason_28 l G K h0 h1 h2 h3 h4 h5 h6 h7 h8 h9 h10 h11 h12 h13 h14 h15 h16 h17 h18 h19 h20 h21 h22 h23 h24 h25 h26 h27 _) (cwV 5 hts (wGV t_ (mw (.methodLink RX11 196 yX11_reason) (List.mem_of_getElem? (i := 0) rfl)) (mw (.instanceMethod yX11_reason) (List.mem_of_getElem? (i := 1) rfl)) (mw (.selects RX11 yX11_reason yX11_reason) (List.mem_of_getElem? (i := 2) rfl)) (mw (.initialized RX11) (List.mem_of_getElem? (i := 3) rfl)) j_X11_reason_28) rfl rfl rfl (by decide +kernel) ⟨Nat.le_of_ble_eq_true rfl, Nat.le_of_ble_eq_true rfl⟩) (wPV hK hE hPc hDc 8 0 rfl rfl) rfl rfl hl.1 rfl (lv_room (Nat.le_of_ble_eq_true rfl)) dX11_act_8 ⟨Nat.le_of_ble_eq_true rfl, Nat.le_of_ble_eq_true rfl⟩) hP hD hS hA [0] [] rfl rfl rfl (by decide) (fun r u H locs hw hP hD hS => ?_)
  rcases hw with ⟨rfl, rfl⟩
  have hP : va_P G vwCl [(h0, .inr (8, [.int 1, .int 0, .int (-1), .int 0, .int 0, .int (-1), .int 0, .int 0, .int 0, .int 0, .int 0, .ref h1, .ref h2, .ref h3, .ref h4, .ref h5, .ref h6, .ref h7, .ref h8, .ref h9, .ref h10, .ref h11, .ref h12, .ref h13, .ref h14, .ref h15, .ref h16, .ref h17, .ref h18, .ref h19, .int 0, .ref h20, .ref h21, .ref h22, .ref h23, .int 0, .int 0, .ref h24, .ref h25, .int (-1), .ref h26, .ref h27]))] _ := hP
  have hD : va_D A [(h0, .inr (8, [.int 1, .int 0, .int (-1), .int 0, .int 0, .int (-1), .int 0, .int 0, .int 0, .int 0, .int 0, .ref h1, .ref h2, .ref h3, .ref h4, .ref h5, .ref h6, .ref h7, .ref h8, .ref h9, .ref h10, .ref h11, .ref h12, .ref h13, .ref h14, .ref h15, .ref h16, .ref h17, .ref h18, .ref h19, .int 0, .ref h20, .ref h21, .ref h22, .ref h23, .int 0, .int 0, .ref h24, .ref h25, .int (-1), .ref h26, .ref h27]))] := hD
  refine lv_istore (lv' := [(6, .int 8), (0, .ref h0), (1, .int 19), (2, .int 0), (3, .int 0), (4, .int 0), (5, .int 0)]) hx hb dX11_act_11 hl (by decide) rfl (fun ls hl => ?_)
  refine lv_iload hx hb dX11_act_13 (lv_at hl 0 rfl) ?_
  refine lv_if_ne (tgt := 32) hx hb dX11_act_15 (by decide) (fun _ => ?_) (fun c_ => absurd c_ (by decide))
  refine lv_aload_n hx hb dX11_act_32 rfl (lv_at hl 1 rfl) ?_
  refine lv_iload hx hb dX11_act_33 (lv_at hl 0 rfl) ?_
  refine va_put (D := G) (ci := 8) (v := .int 8) (ty := .int) (C := RX11) (T := TX11) (N := 42) hx hb hts iX11 tyX11 tyX11_ok nmX11 hown hK hP hD hS 0 rfl rfl 10 (by decide) (hw (.fieldLink RX11 127 "MotionFloorModel$Hall" "why" "I") (List.mem_of_getElem? (i := 4) rfl)) (fun _ h9 => h9) rfl (by decide +kernel) rfl rfl (Nat.le_of_ble_eq_true rfl) dX11_act_35 (fun H locs hP hD hS => ?_)
  have hP : va_P G vwCl [(h0, .inr (8, [.int 1, .int 0, .int (-1), .int 0, .int 0, .int (-1), .int 0, .int 0, .int 0, .int 0, .int 8, .ref h1, .ref h2, .ref h3, .ref h4, .ref h5, .ref h6, .ref h7, .ref h8, .ref h9, .ref h10, .ref h11, .ref h12, .ref h13, .ref h14, .ref h15, .ref h16, .ref h17, .ref h18, .ref h19, .int 0, .ref h20, .ref h21, .ref h22, .ref h23, .int 0, .int 0, .ref h24, .ref h25, .int (-1), .ref h26, .ref h27]))] _ := hP
  have hD : va_D A [(h0, .inr (8, [.int 1, .int 0, .int (-1), .int 0, .int 0, .int (-1), .int 0, .int 0, .int 0, .int 0, .int 8, .ref h1, .ref h2, .ref h3, .ref h4, .ref h5, .ref h6, .ref h7, .ref h8, .ref h9, .ref h10, .ref h11, .ref h12, .ref h13, .ref h14, .ref h15, .ref h16, .ref h17, .ref h18, .ref h19, .int 0, .ref h20, .ref h21, .ref h22, .ref h23, .int 0, .int 0, .ref h24, .ref h25, .int (-1), .ref h26, .ref h27]))] := hD
  refine lv_iload hx hb dX11_act_38 (lv_at hl 0 rfl) ?_
  refine lv_if_le (tgt := 47) hx hb dX11_act_40 (by decide) (fun c_ => absurd c_ (by decide)) (fun _ => ?_)
  refine lv_iload hx hb dX11_act_43 (lv_at hl 0 rfl) ?_
  refine lv_ineg hx hb dX11_act_45 ?_
  refine wTop (v1 := .int (-8)) (congrArg Value.int (by decide)) ?_
  have hP9 : va_P G vwCl [(h0, .inr (8, [.int 1, .int 0, .int (-1), .int 0, .int 0, .int (-1), .int 0, .int 0, .int 0, .int 0, .int 8, .ref h1, .ref h2, .ref h3, .ref h4, .ref h5, .ref h6, .ref h7, .ref h8, .ref h9, .ref h10, .ref h11, .ref h12, .ref h13, .ref h14, .ref h15, .ref h16, .ref h17, .ref h18, .ref h19, .int 0, .ref h20, .ref h21, .ref h22, .ref h23, .int 0, .int 0, .ref h24, .ref h25, .int (-1), .ref h26, .ref h27]))] _ := hP
  have hD9 : va_D A [(h0, .inr (8, [.int 1, .int 0, .int (-1), .int 0, .int 0, .int (-1), .int 0, .int 0, .int 0, .int 0, .int 8, .ref h1, .ref h2, .ref h3, .ref h4, .ref h5, .ref h6, .ref h7, .ref h8, .ref h9, .ref h10, .ref h11, .ref h12, .ref h13, .ref h14, .ref h15, .ref h16, .ref h17, .ref h18, .ref h19, .int 0, .ref h20, .ref h21, .ref h22, .ref h23, .int 0, .int 0, .ref h24, .ref h25, .int (-1), .ref h26, .ref h27]))] := hD
  exact W.iret (v := (-8)) hx hb hr (fun t ht hW => ⟨⟨(-8), _, rfl, ⟨rfl, rfl⟩, by rw [ht]; exact hP9, hD9⟩, hS.F ht⟩) hS.2.2 dX11_act_46
def e_X12_rule_0 : List Cond := [.fieldLink RX12 16 "MotionFloorModel" "hall" "LMotionFloorModel$Hall;", .methodLink RX12 40 yX11_act, .instanceMethod yX11_act, .selects RX11 yX11_act yX11_act, .initialized RX11]
def v_X12_rule_0 : List Cond := .code yX12_rule cX12_rule 1 (some .int) :: (e_X12_rule_0 ++ (wsX120 ++ (v_X11_act_28 ++ [])))
theorem te_X12_rule_0 : GoodIn lw_tbl e_X12_rule_0 := wGc z225 (wGc z368 (wGc z367 (wGc z366 (wGc z227 (wG0)))))
theorem t_X12_rule_0 : GoodIn lw_tbl v_X12_rule_0 := wGc z652 (wGa te_X12_rule_0 (wGa zcX12 (wGa t_X11_act_28 (wG0))))
set_option maxHeartbeats 4000000 in
set_option maxRecDepth 100000 in
theorem m_X12_rule_0 (l : Launch) (G : va_G) (K : Nat → ClassId) (h0 h1 h2 h3 h4 h5 h6 h7 h8 h9 h10 h11 h12 h13 h14 h15 h16 h17 h18 h19 h20 h21 h22 h23 h24 h25 h26 h27 h28 h29 h30 h31 h32 h33 : Nat) (sz : Nat) : Met l yX12_rule v_X12_rule_0 ({ frames := 5, cells := 0, slots := 0, locals := 118 }) (va_Pc [.ref h0] (wS G K sz [(h0, .inr (9, [.ref h1, .ref h2, .ref h3, .ref h4, .ref h5, .ref h6, .int 0])), (h1, .inr (8, [.int 1, .int 0, .int (-1), .int 0, .int 0, .int (-1), .int 0, .int 0, .int 0, .int 0, .int 0, .ref h7, .ref h8, .ref h9, .ref h10, .ref h11, .ref h12, .ref h13, .ref h14, .ref h15, .ref h16, .ref h17, .ref h18, .ref h19, .ref h20, .ref h21, .ref h22, .ref h23, .ref h24, .ref h25, .int 0, .ref h26, .ref h27, .ref h28, .ref h29, .int 0, .int 0, .ref h30, .ref h31, .int (-1), .ref h32, .ref h33]))])) (va_Qi (fun (r : Int32) (u : va_W) => ((-8) = r ∧ u = [(h0, .inr (9, [.ref h1, .ref h2, .ref h3, .ref h4, .ref h5, .ref h6, .int 0])), (h1, .inr (8, [.int 1, .int 0, .int (-1), .int 0, .int 0, .int (-1), .int 0, .int 0, .int 0, .int 0, .int 8, .ref h7, .ref h8, .ref h9, .ref h10, .ref h11, .ref h12, .ref h13, .ref h14, .ref h15, .ref h16, .ref h17, .ref h18, .ref h19, .ref h20, .ref h21, .ref h22, .ref h23, .ref h24, .ref h25, .int 0, .ref h26, .ref h27, .ref h28, .ref h29, .int 0, .int 0, .ref h30, .ref h31, .int (-1), .ref h32, .ref h33]))])) (wB G (va_A [(h0, .inr (9, [.ref h1, .ref h2, .ref h3, .ref h4, .ref h5, .ref h6, .int 0])), (h1, .inr (8, [.int 1, .int 0, .int (-1), .int 0, .int 0, .int (-1), .int 0, .int 0, .int 0, .int 0, .int 0, .ref h7, .ref h8, .ref h9, .ref h10, .ref h11, .ref h12, .ref h13, .ref h14, .ref h15, .ref h16, .ref h17, .ref h18, .ref h19, .ref h20, .ref h21, .ref h22, .ref h23, .ref h24, .ref h25, .int 0, .ref h26, .ref h27, .ref h28, .ref h29, .int 0, .int 0, .ref h30, .ref h31, .int (-1), .ref h32, .ref h33]))] sz)) (va_A [(h0, .inr (9, [.ref h1, .ref h2, .ref h3, .ref h4, .ref h5, .ref h6, .int 0])), (h1, .inr (8, [.int 1, .int 0, .int (-1), .int 0, .int 0, .int (-1), .int 0, .int 0, .int 0, .int 0, .int 0, .ref h7, .ref h8, .ref h9, .ref h10, .ref h11, .ref h12, .ref h13, .ref h14, .ref h15, .ref h16, .ref h17, .ref h18, .ref h19, .ref h20, .ref h21, .ref h22, .ref h23, .ref h24, .ref h25, .int 0, .ref h26, .ref h27, .ref h28, .ref h29, .int 0, .int 0, .ref h30, .ref h31, .int (-1), .ref h32, .ref h33]))] sz)) 0 0 (va_A [(h0, .inr (9, [.ref h1, .ref h2, .ref h3, .ref h4, .ref h5, .ref h6, .int 0])), (h1, .inr (8, [.int 1, .int 0, .int (-1), .int 0, .int 0, .int (-1), .int 0, .int 0, .int 0, .int 0, .int 0, .ref h7, .ref h8, .ref h9, .ref h10, .ref h11, .ref h12, .ref h13, .ref h14, .ref h15, .ref h16, .ref h17, .ref h18, .ref h19, .ref h20, .ref h21, .ref h22, .ref h23, .ref h24, .ref h25, .int 0, .ref h26, .ref h27, .ref h28, .ref h29, .int 0, .int 0, .ref h30, .ref h31, .int (-1), .ref h32, .ref h33]))] sz) := by
  refine Met.ofW (cc := cX12_rule) (maxL := 1) (ret := (some .int)) (by decide) rfl ?_
  intro p e s m args below meth c s₁ B hml hv
  obtain ⟨rfl, hsz, hP, hK, hD0, hE⟩ := hv
  have hx := B.exec
  have hb := B.bytes
  have hr := B.returns
  have hts := atoms_spec (ws := v_X12_rule_0) B.pre
  have t_ := t_X12_rule_0
  have mw : ∀ w ∈ e_X12_rule_0, w ∈ v_X12_rule_0 := fun w h => List.mem_cons_of_mem _ (List.mem_append_left _ h)
  have hw := fun w (h : w ∈ e_X12_rule_0) => hts w (mw w h)
  have iX12 : ∀ w ∈ wsX120, w ∈ v_X12_rule_0 := fun w h => List.mem_cons_of_mem _ (List.mem_append_right _ (List.mem_append_left _ h))
  have j_X11_act_28 : ∀ w ∈ v_X11_act_28, w ∈ v_X12_rule_0 := fun w h => List.mem_cons_of_mem _ (List.mem_append_right _ (List.mem_append_right _ (List.mem_append_left _ h)))
  have hown : s.vm.findClass RX12 = some m.cls := findClass_of_methodNamed B.named
  have hlocks := B.notSynchronized
  subst hsz
  have hD := hD0.self (sz := s.heap.size)
  generalize hAe : va_A [(h0, .inr (9, [.ref h1, .ref h2, .ref h3, .ref h4, .ref h5, .ref h6, .int 0])), (h1, .inr (8, [.int 1, .int 0, .int (-1), .int 0, .int 0, .int (-1), .int 0, .int 0, .int 0, .int 0, .int 0, .ref h7, .ref h8, .ref h9, .ref h10, .ref h11, .ref h12, .ref h13, .ref h14, .ref h15, .ref h16, .ref h17, .ref h18, .ref h19, .ref h20, .ref h21, .ref h22, .ref h23, .ref h24, .ref h25, .int 0, .ref h26, .ref h27, .ref h28, .ref h29, .int 0, .int 0, .ref h30, .ref h31, .int (-1), .ref h32, .ref h33]))] s.heap.size = A at hD ⊢
  have hA : ∀ q : Nat, s.heap.size ≤ q → A q := fun q h => by rw [← hAe]; exact Or.inr h
  have hS : va_S A s.heap s.heap [] := va_S.rf
  have hP : va_P G vwCl [(h0, .inr (9, [.ref h1, .ref h2, .ref h3, .ref h4, .ref h5, .ref h6, .int 0])), (h1, .inr (8, [.int 1, .int 0, .int (-1), .int 0, .int 0, .int (-1), .int 0, .int 0, .int 0, .int 0, .int 0, .ref h7, .ref h8, .ref h9, .ref h10, .ref h11, .ref h12, .ref h13, .ref h14, .ref h15, .ref h16, .ref h17, .ref h18, .ref h19, .ref h20, .ref h21, .ref h22, .ref h23, .ref h24, .ref h25, .int 0, .ref h26, .ref h27, .ref h28, .ref h29, .int 0, .int 0, .ref h30, .ref h31, .int (-1), .ref h32, .ref h33]))] s.heap := hP
  have hl := lv_entry ([.ref h0]) (n := 1) (Nat.le_of_ble_eq_true rfl)
  rw [lg_entry_eq]
  generalize (lg_sl ([.ref h0]) ++ List.replicate (1 - (lg_sl ([.ref h0])).length) Slot.unset).toArray = ls at hl ⊢
  have hl : lv_has ls 1 [(0, .ref h0)] := hl
  refine lv_aload_n hx hb dX12_rule_0 rfl (lv_at hl 0 rfl) ?_
  refine va_get (D := G) (ci := 9) (v := .ref h1) (C := RX12) (T := TX12) (N := 7) hx hb hts iX12 hown hK hP 0 rfl rfl 0 (by decide) (hw (.fieldLink RX12 16 "MotionFloorModel" "hall" "LMotionFloorModel$Hall;") (List.mem_of_getElem? (i := 0) rfl)) (fun _ h9 => h9) rfl dX12_rule_1 ?_
  refine lv_bipush (v := 19) hx hb dX12_rule_4 (by decide) ?_
  refine lv_iconst (v := 0) hx hb dX12_rule_6 (by decide) ?_
  refine lv_iconst (v := 0) hx hb dX12_rule_7 (by decide) ?_
  refine lv_iconst (v := 0) hx hb dX12_rule_8 (by decide) ?_
  refine lv_iconst (v := 0) hx hb dX12_rule_9 (by decide) ?_
  have hPc := hP.sub (ws' := [(h1, .inr (8, [.int 1, .int 0, .int (-1), .int 0, .int 0, .int (-1), .int 0, .int 0, .int 0, .int 0, .int 0, .ref h7, .ref h8, .ref h9, .ref h10, .ref h11, .ref h12, .ref h13, .ref h14, .ref h15, .ref h16, .ref h17, .ref h18, .ref h19, .ref h20, .ref h21, .ref h22, .ref h23, .ref h24, .ref h25, .int 0, .ref h26, .ref h27, .ref h28, .ref h29, .int 0, .int 0, .ref h30, .ref h31, .int (-1), .ref h32, .ref h33]))]) [1] rfl
  have hDc := hD.sub (ws' := [(h1, .inr (8, [.int 1, .int 0, .int (-1), .int 0, .int 0, .int (-1), .int 0, .int 0, .int 0, .int 0, .int 0, .ref h7, .ref h8, .ref h9, .ref h10, .ref h11, .ref h12, .ref h13, .ref h14, .ref h15, .ref h16, .ref h17, .ref h18, .ref h19, .ref h20, .ref h21, .ref h22, .ref h23, .ref h24, .ref h25, .int 0, .ref h26, .ref h27, .ref h28, .ref h29, .int 0, .int 0, .ref h30, .ref h31, .int (-1), .ref h32, .ref h33]))]) [1] (by decide) rfl
  refine wGoi (wc := [(h1, .inr (8, [.int 1, .int 0, .int (-1), .int 0, .int 0, .int (-1), .int 0, .int 0, .int 0, .int 0, .int 0, .ref h7, .ref h8, .ref h9, .ref h10, .ref h11, .ref h12, .ref h13, .ref h14, .ref h15, .ref h16, .ref h17, .ref h18, .ref h19, .ref h20, .ref h21, .ref h22, .ref h23, .ref h24, .ref h25, .int 0, .ref h26, .ref h27, .ref h28, .ref h29, .int 0, .int 0, .ref h30, .ref h31, .int (-1), .ref h32, .ref h33]))]) (wr := [(h0, .inr (9, [.ref h1, .ref h2, .ref h3, .ref h4, .ref h5, .ref h6, .int 0]))]) (va_runV (As := [.int 19, .int 0, .int 0, .int 0, .int 0]) (rest := []) ⟨hx, hb, hml, hown, hts⟩ (m_X11_act_28 l G K h1 h7 h8 h9 h10 h11 h12 h13 h14 h15 h16 h17 h18 h19 h20 h21 h22 h23 h24 h25 h26 h27 h28 h29 h30 h31 h32 h33 _) (cwV 5 hts (wGV t_ (mw (.methodLink RX12 40 yX11_act) (List.mem_of_getElem? (i := 1) rfl)) (mw (.instanceMethod yX11_act) (List.mem_of_getElem? (i := 2) rfl)) (mw (.selects RX11 yX11_act yX11_act) (List.mem_of_getElem? (i := 3) rfl)) (mw (.initialized RX11) (List.mem_of_getElem? (i := 4) rfl)) j_X11_act_28) rfl rfl rfl (by decide +kernel) ⟨Nat.le_of_ble_eq_true rfl, Nat.le_of_ble_eq_true rfl⟩) (wPV hK hE hPc hDc 8 0 rfl rfl) rfl rfl hl.1 rfl (lv_room (Nat.le_of_ble_eq_true rfl)) dX12_rule_10 ⟨Nat.le_of_ble_eq_true rfl, Nat.le_of_ble_eq_true rfl⟩) hP hD hS hA [1] [0] rfl rfl rfl (by decide) (fun r u H locs hw hP hD hS => ?_)
  rcases hw with ⟨rfl, rfl⟩
  have hP : va_P G vwCl [(h0, .inr (9, [.ref h1, .ref h2, .ref h3, .ref h4, .ref h5, .ref h6, .int 0])), (h1, .inr (8, [.int 1, .int 0, .int (-1), .int 0, .int 0, .int (-1), .int 0, .int 0, .int 0, .int 0, .int 8, .ref h7, .ref h8, .ref h9, .ref h10, .ref h11, .ref h12, .ref h13, .ref h14, .ref h15, .ref h16, .ref h17, .ref h18, .ref h19, .ref h20, .ref h21, .ref h22, .ref h23, .ref h24, .ref h25, .int 0, .ref h26, .ref h27, .ref h28, .ref h29, .int 0, .int 0, .ref h30, .ref h31, .int (-1), .ref h32, .ref h33]))] _ := hP
  have hD : va_D A [(h0, .inr (9, [.ref h1, .ref h2, .ref h3, .ref h4, .ref h5, .ref h6, .int 0])), (h1, .inr (8, [.int 1, .int 0, .int (-1), .int 0, .int 0, .int (-1), .int 0, .int 0, .int 0, .int 0, .int 8, .ref h7, .ref h8, .ref h9, .ref h10, .ref h11, .ref h12, .ref h13, .ref h14, .ref h15, .ref h16, .ref h17, .ref h18, .ref h19, .ref h20, .ref h21, .ref h22, .ref h23, .ref h24, .ref h25, .int 0, .ref h26, .ref h27, .ref h28, .ref h29, .int 0, .int 0, .ref h30, .ref h31, .int (-1), .ref h32, .ref h33]))] := hD
  have hP9 : va_P G vwCl [(h0, .inr (9, [.ref h1, .ref h2, .ref h3, .ref h4, .ref h5, .ref h6, .int 0])), (h1, .inr (8, [.int 1, .int 0, .int (-1), .int 0, .int 0, .int (-1), .int 0, .int 0, .int 0, .int 0, .int 8, .ref h7, .ref h8, .ref h9, .ref h10, .ref h11, .ref h12, .ref h13, .ref h14, .ref h15, .ref h16, .ref h17, .ref h18, .ref h19, .ref h20, .ref h21, .ref h22, .ref h23, .ref h24, .ref h25, .int 0, .ref h26, .ref h27, .ref h28, .ref h29, .int 0, .int 0, .ref h30, .ref h31, .int (-1), .ref h32, .ref h33]))] _ := hP
  have hD9 : va_D A [(h0, .inr (9, [.ref h1, .ref h2, .ref h3, .ref h4, .ref h5, .ref h6, .int 0])), (h1, .inr (8, [.int 1, .int 0, .int (-1), .int 0, .int 0, .int (-1), .int 0, .int 0, .int 0, .int 0, .int 8, .ref h7, .ref h8, .ref h9, .ref h10, .ref h11, .ref h12, .ref h13, .ref h14, .ref h15, .ref h16, .ref h17, .ref h18, .ref h19, .ref h20, .ref h21, .ref h22, .ref h23, .ref h24, .ref h25, .int 0, .ref h26, .ref h27, .ref h28, .ref h29, .int 0, .int 0, .ref h30, .ref h31, .int (-1), .ref h32, .ref h33]))] := hD
  exact W.iret (v := (-8)) hx hb hr (fun t ht hW => ⟨⟨(-8), _, rfl, ⟨rfl, rfl⟩, by rw [ht]; exact hP9, hD9⟩, hS.F ht⟩) hS.2.2 dX12_rule_13
def e_X8_againstOnMotion_5 : List Cond := [.fieldLink RX8 34 "MotionFloor$Assembly" "house" "LMotionFloor$House;", .fieldLink RX8 79 "MotionFloor$House" "chair" "I", .methodLink RX8 82 yX2_isThere, .instanceMethod yX2_isThere, .selects RX2 yX2_isThere yX2_isThere, .initialized RX2, .fieldLink RX8 86 "MotionFloor$Assembly" "pending" "LMotionFloor$Pile;", .methodLink RX8 90 yX5_top, .instanceMethod yX5_top, .selects RX5 yX5_top yX5_top, .initialized RX5]
def v_X8_againstOnMotion_5 : List Cond := .code yX8_againstOnMotion cX8_againstOnMotion 6 (some .int) :: (e_X8_againstOnMotion_5 ++ (wsX00 ++ (wsX20 ++ (v_X2_isThere_1 ++ (v_X5_top_0 ++ [])))))
theorem te_X8_againstOnMotion_5 : GoodIn lw_tbl e_X8_againstOnMotion_5 := wGc z300 (wGc z622 (wGc z292 (wGc z291 (wGc z290 (wGc z57 (wGc z389 (wGc z450 (wGc z324 (wGc z323 (wGc z26 (wG0)))))))))))
theorem t_X8_againstOnMotion_5 : GoodIn lw_tbl v_X8_againstOnMotion_5 := wGc z607 (wGa te_X8_againstOnMotion_5 (wGa zcX0 (wGa zcX2 (wGa t_X2_isThere_1 (wGa t_X5_top_0 (wG0))))))
set_option maxHeartbeats 4000000 in
set_option maxRecDepth 100000 in
theorem m_X8_againstOnMotion_5 (l : Launch) (G : va_G) (K : Nat → ClassId) (h0 h1 h2 h3 h4 h5 h6 h7 h8 h9 h10 : Nat) (p0 : Int32) (sz : Nat) : Met l yX8_againstOnMotion v_X8_againstOnMotion_5 ({ frames := 2, cells := 0, slots := 0, locals := 41 }) (va_Pc [.ref h0, .int 20, .int p0, .int 0] (wS G K sz [(h0, .inr (0, [.ref h1, .ref h2, .ref h3, .ref h4, .ref h5, .ref h6, .ref h7, .int 0, .int 0, .int 0, .null])), (h1, .inr (1, [.int 1, .ref h8, .int 0, .int (-1), .int 0, .int 0, .int (-1), .ref h9])), (h2, .inr (4, [.ref h10, .int 0]))])) (va_Qi (fun (r : Int32) (u : va_W) => (7 = r ∧ u = [(h0, .inr (0, [.ref h1, .ref h2, .ref h3, .ref h4, .ref h5, .ref h6, .ref h7, .int 0, .int 0, .int 0, .null])), (h1, .inr (1, [.int 1, .ref h8, .int 0, .int (-1), .int 0, .int 0, .int (-1), .ref h9])), (h2, .inr (4, [.ref h10, .int 0]))])) (wB G (va_A [(h0, .inr (0, [.ref h1, .ref h2, .ref h3, .ref h4, .ref h5, .ref h6, .ref h7, .int 0, .int 0, .int 0, .null])), (h1, .inr (1, [.int 1, .ref h8, .int 0, .int (-1), .int 0, .int 0, .int (-1), .ref h9])), (h2, .inr (4, [.ref h10, .int 0]))] sz)) (va_A [(h0, .inr (0, [.ref h1, .ref h2, .ref h3, .ref h4, .ref h5, .ref h6, .ref h7, .int 0, .int 0, .int 0, .null])), (h1, .inr (1, [.int 1, .ref h8, .int 0, .int (-1), .int 0, .int 0, .int (-1), .ref h9])), (h2, .inr (4, [.ref h10, .int 0]))] sz)) 0 0 (va_A [(h0, .inr (0, [.ref h1, .ref h2, .ref h3, .ref h4, .ref h5, .ref h6, .ref h7, .int 0, .int 0, .int 0, .null])), (h1, .inr (1, [.int 1, .ref h8, .int 0, .int (-1), .int 0, .int 0, .int (-1), .ref h9])), (h2, .inr (4, [.ref h10, .int 0]))] sz) := by
  refine Met.ofW (cc := cX8_againstOnMotion) (maxL := 6) (ret := (some .int)) (by decide) rfl ?_
  intro p e s m args below meth c s₁ B hml hv
  obtain ⟨rfl, hsz, hP, hK, hD0, hE⟩ := hv
  have hx := B.exec
  have hb := B.bytes
  have hr := B.returns
  have hts := atoms_spec (ws := v_X8_againstOnMotion_5) B.pre
  have t_ := t_X8_againstOnMotion_5
  have mw : ∀ w ∈ e_X8_againstOnMotion_5, w ∈ v_X8_againstOnMotion_5 := fun w h => List.mem_cons_of_mem _ (List.mem_append_left _ h)
  have hw := fun w (h : w ∈ e_X8_againstOnMotion_5) => hts w (mw w h)
  have iX0 : ∀ w ∈ wsX00, w ∈ v_X8_againstOnMotion_5 := fun w h => List.mem_cons_of_mem _ (List.mem_append_right _ (List.mem_append_left _ h))
  have iX2 : ∀ w ∈ wsX20, w ∈ v_X8_againstOnMotion_5 := fun w h => List.mem_cons_of_mem _ (List.mem_append_right _ (List.mem_append_right _ (List.mem_append_left _ h)))
  have j_X2_isThere_1 : ∀ w ∈ v_X2_isThere_1, w ∈ v_X8_againstOnMotion_5 := fun w h => List.mem_cons_of_mem _ (List.mem_append_right _ (List.mem_append_right _ (List.mem_append_right _ (List.mem_append_left _ h))))
  have j_X5_top_0 : ∀ w ∈ v_X5_top_0, w ∈ v_X8_againstOnMotion_5 := fun w h => List.mem_cons_of_mem _ (List.mem_append_right _ (List.mem_append_right _ (List.mem_append_right _ (List.mem_append_right _ (List.mem_append_left _ h)))))
  have hown : s.vm.findClass RX8 = some m.cls := findClass_of_methodNamed B.named
  have hlocks := B.notSynchronized
  subst hsz
  have hD := hD0.self (sz := s.heap.size)
  generalize hAe : va_A [(h0, .inr (0, [.ref h1, .ref h2, .ref h3, .ref h4, .ref h5, .ref h6, .ref h7, .int 0, .int 0, .int 0, .null])), (h1, .inr (1, [.int 1, .ref h8, .int 0, .int (-1), .int 0, .int 0, .int (-1), .ref h9])), (h2, .inr (4, [.ref h10, .int 0]))] s.heap.size = A at hD ⊢
  have hA : ∀ q : Nat, s.heap.size ≤ q → A q := fun q h => by rw [← hAe]; exact Or.inr h
  have hS : va_S A s.heap s.heap [] := va_S.rf
  have hP : va_P G vwCl [(h0, .inr (0, [.ref h1, .ref h2, .ref h3, .ref h4, .ref h5, .ref h6, .ref h7, .int 0, .int 0, .int 0, .null])), (h1, .inr (1, [.int 1, .ref h8, .int 0, .int (-1), .int 0, .int 0, .int (-1), .ref h9])), (h2, .inr (4, [.ref h10, .int 0]))] s.heap := hP
  have hl := lv_entry ([.ref h0, .int 20, .int p0, .int 0]) (n := 6) (Nat.le_of_ble_eq_true rfl)
  rw [lg_entry_eq]
  generalize (lg_sl ([.ref h0, .int 20, .int p0, .int 0]) ++ List.replicate (6 - (lg_sl ([.ref h0, .int 20, .int p0, .int 0])).length) Slot.unset).toArray = ls at hl ⊢
  have hl : lv_has ls 6 [(0, .ref h0), (1, .int 20), (2, .int p0), (3, .int 0)] := hl
  refine lv_iload_n hx hb dX8_againstOnMotion_0 rfl (lv_at hl 1 rfl) ?_
  refine lv_bipush (v := 15) hx hb dX8_againstOnMotion_1 (by decide) ?_
  refine lv_icmp_ne (tgt := 12) hx hb dX8_againstOnMotion_3 (by decide) (fun _ => ?_) (fun c_ => absurd c_ (by decide))
  refine lv_aload_n hx hb dX8_againstOnMotion_12 rfl (lv_at hl 0 rfl) ?_
  refine va_get (D := G) (ci := 0) (v := .ref h1) (C := RX0) (T := TX0) (N := 11) hx hb hts iX0 hown hK hP 0 rfl rfl 0 (by decide) (hw (.fieldLink RX8 34 "MotionFloor$Assembly" "house" "LMotionFloor$House;") (List.mem_of_getElem? (i := 0) rfl)) (fun _ h9 => h9) rfl dX8_againstOnMotion_13 ?_
  refine lv_aload_n hx hb dX8_againstOnMotion_16 rfl (lv_at hl 0 rfl) ?_
  refine va_get (D := G) (ci := 0) (v := .ref h1) (C := RX0) (T := TX0) (N := 11) hx hb hts iX0 hown hK hP 0 rfl rfl 0 (by decide) (hw (.fieldLink RX8 34 "MotionFloor$Assembly" "house" "LMotionFloor$House;") (List.mem_of_getElem? (i := 0) rfl)) (fun _ h9 => h9) rfl dX8_againstOnMotion_17 ?_
  refine va_get (D := G) (ci := 1) (v := .int (-1)) (C := RX2) (T := TX2) (N := 8) hx hb hts iX2 hown hK hP 1 rfl rfl 3 (by decide) (hw (.fieldLink RX8 79 "MotionFloor$House" "chair" "I") (List.mem_of_getElem? (i := 1) rfl)) (fun _ h9 => h9) rfl dX8_againstOnMotion_20 ?_
  have hPc := hP.sub (ws' := [(h1, .inr (1, [.int 1, .ref h8, .int 0, .int (-1), .int 0, .int 0, .int (-1), .ref h9]))]) [1] rfl
  have hDc := hD.sub (ws' := [(h1, .inr (1, [.int 1, .ref h8, .int 0, .int (-1), .int 0, .int 0, .int (-1), .ref h9]))]) [1] (by decide) rfl
  refine wGoi (wc := [(h1, .inr (1, [.int 1, .ref h8, .int 0, .int (-1), .int 0, .int 0, .int (-1), .ref h9]))]) (wr := [(h0, .inr (0, [.ref h1, .ref h2, .ref h3, .ref h4, .ref h5, .ref h6, .ref h7, .int 0, .int 0, .int 0, .null])), (h2, .inr (4, [.ref h10, .int 0]))]) (va_runV (As := [.int (-1)]) (rest := []) ⟨hx, hb, hml, hown, hts⟩ (m_X2_isThere_1 l G K h1 h8 h9 _) (cwV 1 hts (wGV t_ (mw (.methodLink RX8 82 yX2_isThere) (List.mem_of_getElem? (i := 2) rfl)) (mw (.instanceMethod yX2_isThere) (List.mem_of_getElem? (i := 3) rfl)) (mw (.selects RX2 yX2_isThere yX2_isThere) (List.mem_of_getElem? (i := 4) rfl)) (mw (.initialized RX2) (List.mem_of_getElem? (i := 5) rfl)) j_X2_isThere_1) rfl rfl rfl (by decide +kernel) ⟨Nat.le_of_ble_eq_true rfl, Nat.le_of_ble_eq_true rfl⟩) (wPV hK hE hPc hDc 1 0 rfl rfl) rfl rfl hl.1 rfl (lv_room (Nat.le_of_ble_eq_true rfl)) dX8_againstOnMotion_23 ⟨Nat.le_of_ble_eq_true rfl, Nat.le_of_ble_eq_true rfl⟩) hP hD hS hA [1] [0, 2] rfl rfl rfl (by decide) (fun r u H locs hw hP hD hS => ?_)
  rcases hw with ⟨rfl, rfl⟩
  have hP : va_P G vwCl [(h0, .inr (0, [.ref h1, .ref h2, .ref h3, .ref h4, .ref h5, .ref h6, .ref h7, .int 0, .int 0, .int 0, .null])), (h2, .inr (4, [.ref h10, .int 0])), (h1, .inr (1, [.int 1, .ref h8, .int 0, .int (-1), .int 0, .int 0, .int (-1), .ref h9]))] _ := hP
  have hD : va_D A [(h0, .inr (0, [.ref h1, .ref h2, .ref h3, .ref h4, .ref h5, .ref h6, .ref h7, .int 0, .int 0, .int 0, .null])), (h2, .inr (4, [.ref h10, .int 0])), (h1, .inr (1, [.int 1, .ref h8, .int 0, .int (-1), .int 0, .int 0, .int (-1), .ref h9]))] := hD
  refine lv_istore (lv' := [(4, .int 0), (0, .ref h0), (1, .int 20), (2, .int p0), (3, .int 0)]) hx hb dX8_againstOnMotion_26 hl (by decide) rfl (fun ls hl => ?_)
  refine lv_iload_n hx hb dX8_againstOnMotion_28 rfl (lv_at hl 2 rfl) ?_
  refine lv_bipush (v := 22) hx hb dX8_againstOnMotion_29 (by decide) ?_
  refine lv_icmp_ne (tgt := 46) hx hb dX8_againstOnMotion_31 (by decide) (fun _ => ?_) (fun c_ => absurd c_ (by decide))
  refine lv_iload_n hx hb dX8_againstOnMotion_46 rfl (lv_at hl 2 rfl) ?_
  refine lv_bipush (v := 19) hx hb dX8_againstOnMotion_47 (by decide) ?_
  refine lv_icmp_eq (tgt := 58) hx hb dX8_againstOnMotion_49 (by decide) (fun c_ => absurd c_ (by decide)) (fun _ => ?_)
  refine lv_iload_n hx hb dX8_againstOnMotion_52 rfl (lv_at hl 2 rfl) ?_
  refine lv_bipush (v := 21) hx hb dX8_againstOnMotion_53 (by decide) ?_
  refine lv_icmp_ne (tgt := 66) hx hb dX8_againstOnMotion_55 (by decide) (fun _ => ?_) (fun c_ => absurd c_ (by decide))
  refine lv_aload_n hx hb dX8_againstOnMotion_66 rfl (lv_at hl 1 rfl) ?_
  refine va_get (D := G) (ci := 0) (v := .ref h2) (C := RX0) (T := TX0) (N := 11) hx hb hts iX0 hown hK hP 0 rfl rfl 1 (by decide) (hw (.fieldLink RX8 86 "MotionFloor$Assembly" "pending" "LMotionFloor$Pile;") (List.mem_of_getElem? (i := 6) rfl)) (fun _ h9 => h9) rfl dX8_againstOnMotion_67 ?_
  have hPc := hP.sub (ws' := [(h2, .inr (4, [.ref h10, .int 0]))]) [1] rfl
  have hDc := hD.sub (ws' := [(h2, .inr (4, [.ref h10, .int 0]))]) [1] (by decide) rfl
  refine wGoq (wc := [(h2, .inr (4, [.ref h10, .int 0]))]) (wr := [(h0, .inr (0, [.ref h1, .ref h2, .ref h3, .ref h4, .ref h5, .ref h6, .ref h7, .int 0, .int 0, .int 0, .null])), (h1, .inr (1, [.int 1, .ref h8, .int 0, .int (-1), .int 0, .int 0, .int (-1), .ref h9]))]) (va_runV (As := []) (rest := []) ⟨hx, hb, hml, hown, hts⟩ (m_X5_top_0 l G K h2 h10 _) (cwV 0 hts (wGV t_ (mw (.methodLink RX8 90 yX5_top) (List.mem_of_getElem? (i := 7) rfl)) (mw (.instanceMethod yX5_top) (List.mem_of_getElem? (i := 8) rfl)) (mw (.selects RX5 yX5_top yX5_top) (List.mem_of_getElem? (i := 9) rfl)) (mw (.initialized RX5) (List.mem_of_getElem? (i := 10) rfl)) j_X5_top_0) rfl rfl rfl (by decide +kernel) ⟨Nat.le_of_ble_eq_true rfl, Nat.le_of_ble_eq_true rfl⟩) (wPV hK hE hPc hDc 4 0 rfl rfl) rfl rfl hl.1 rfl (lv_room (Nat.le_of_ble_eq_true rfl)) dX8_againstOnMotion_70 ⟨Nat.le_of_ble_eq_true rfl, Nat.le_of_ble_eq_true rfl⟩) hP hD hS hA [1] [0, 2] rfl rfl rfl (by decide) (fun r u H locs hw hP hD hS => ?_)
  rcases hw with ⟨rfl, rfl⟩
  have hP : va_P G vwCl [(h0, .inr (0, [.ref h1, .ref h2, .ref h3, .ref h4, .ref h5, .ref h6, .ref h7, .int 0, .int 0, .int 0, .null])), (h1, .inr (1, [.int 1, .ref h8, .int 0, .int (-1), .int 0, .int 0, .int (-1), .ref h9])), (h2, .inr (4, [.ref h10, .int 0]))] _ := hP
  have hD : va_D A [(h0, .inr (0, [.ref h1, .ref h2, .ref h3, .ref h4, .ref h5, .ref h6, .ref h7, .int 0, .int 0, .int 0, .null])), (h1, .inr (1, [.int 1, .ref h8, .int 0, .int (-1), .int 0, .int 0, .int (-1), .ref h9])), (h2, .inr (4, [.ref h10, .int 0]))] := hD
  refine wTop (v1 := .null) rfl ?_
  refine lv_astoreN (lv' := [(5, .null), (4, .int 0), (0, .ref h0), (1, .int 20), (2, .int p0), (3, .int 0)]) hx hb dX8_againstOnMotion_73 hl (by decide) rfl (fun ls hl => ?_)
  refine lv_aloadN hx hb dX8_againstOnMotion_75 (lv_at hl 0 rfl) ?_
  refine lv_ifnonnullN hx hb dX8_againstOnMotion_77 ?_
  refine lv_bipush (v := 7) hx hb dX8_againstOnMotion_80 (by decide) ?_
  have hP9 : va_P G vwCl [(h0, .inr (0, [.ref h1, .ref h2, .ref h3, .ref h4, .ref h5, .ref h6, .ref h7, .int 0, .int 0, .int 0, .null])), (h1, .inr (1, [.int 1, .ref h8, .int 0, .int (-1), .int 0, .int 0, .int (-1), .ref h9])), (h2, .inr (4, [.ref h10, .int 0]))] _ := hP
  have hD9 : va_D A [(h0, .inr (0, [.ref h1, .ref h2, .ref h3, .ref h4, .ref h5, .ref h6, .ref h7, .int 0, .int 0, .int 0, .null])), (h1, .inr (1, [.int 1, .ref h8, .int 0, .int (-1), .int 0, .int 0, .int (-1), .ref h9])), (h2, .inr (4, [.ref h10, .int 0]))] := hD
  exact W.iret (v := 7) hx hb hr (fun t ht hW => ⟨⟨7, _, rfl, ⟨rfl, rfl⟩, by rw [ht]; exact hP9, hD9⟩, hS.F ht⟩) hS.2.2 dX8_againstOnMotion_82
def e_X8_against_19 : List Cond := [.methodLink RX8 19 yX8_againstOnMotion, .static yX8_againstOnMotion, .initialized RX8]
def v_X8_against_19 : List Cond := .code yX8_against cX8_against 7 (some .int) :: (e_X8_against_19 ++ (v_X8_againstOnMotion_5 ++ []))
theorem te_X8_against_19 : GoodIn lw_tbl e_X8_against_19 := wGc z609 (wGc z608 (wGc z297 (wG0)))
theorem t_X8_against_19 : GoodIn lw_tbl v_X8_against_19 := wGc z310 (wGa te_X8_against_19 (wGa t_X8_againstOnMotion_5 (wG0)))
set_option maxHeartbeats 4000000 in
set_option maxRecDepth 100000 in
theorem m_X8_against_19 (l : Launch) (G : va_G) (K : Nat → ClassId) (h0 h1 h2 h3 h4 h5 h6 h7 h8 h9 h10 : Nat) (p0 : Int32) (sz : Nat) : Met l yX8_against v_X8_against_19 ({ frames := 3, cells := 0, slots := 0, locals := 66 }) (va_Pc [.ref h0, .int 20, .int p0, .int 0, .int 0, .int 0] (wS G K sz [(h0, .inr (0, [.ref h1, .ref h2, .ref h3, .ref h4, .ref h5, .ref h6, .ref h7, .int 0, .int 0, .int 0, .null])), (h1, .inr (1, [.int 1, .ref h8, .int 0, .int (-1), .int 0, .int 0, .int (-1), .ref h9])), (h2, .inr (4, [.ref h10, .int 0]))])) (va_Qi (fun (r : Int32) (u : va_W) => (7 = r ∧ u = [(h0, .inr (0, [.ref h1, .ref h2, .ref h3, .ref h4, .ref h5, .ref h6, .ref h7, .int 0, .int 0, .int 0, .null])), (h1, .inr (1, [.int 1, .ref h8, .int 0, .int (-1), .int 0, .int 0, .int (-1), .ref h9])), (h2, .inr (4, [.ref h10, .int 0]))])) (wB G (va_A [(h0, .inr (0, [.ref h1, .ref h2, .ref h3, .ref h4, .ref h5, .ref h6, .ref h7, .int 0, .int 0, .int 0, .null])), (h1, .inr (1, [.int 1, .ref h8, .int 0, .int (-1), .int 0, .int 0, .int (-1), .ref h9])), (h2, .inr (4, [.ref h10, .int 0]))] sz)) (va_A [(h0, .inr (0, [.ref h1, .ref h2, .ref h3, .ref h4, .ref h5, .ref h6, .ref h7, .int 0, .int 0, .int 0, .null])), (h1, .inr (1, [.int 1, .ref h8, .int 0, .int (-1), .int 0, .int 0, .int (-1), .ref h9])), (h2, .inr (4, [.ref h10, .int 0]))] sz)) 0 0 (va_A [(h0, .inr (0, [.ref h1, .ref h2, .ref h3, .ref h4, .ref h5, .ref h6, .ref h7, .int 0, .int 0, .int 0, .null])), (h1, .inr (1, [.int 1, .ref h8, .int 0, .int (-1), .int 0, .int 0, .int (-1), .ref h9])), (h2, .inr (4, [.ref h10, .int 0]))] sz) := by
  refine Met.ofW (cc := cX8_against) (maxL := 7) (ret := (some .int)) (by decide) rfl ?_
  intro p e s m args below meth c s₁ B hml hv
  obtain ⟨rfl, hsz, hP, hK, hD0, hE⟩ := hv
  have hx := B.exec
  have hb := B.bytes
  have hr := B.returns
  have hts := atoms_spec (ws := v_X8_against_19) B.pre
  have t_ := t_X8_against_19
  have mw : ∀ w ∈ e_X8_against_19, w ∈ v_X8_against_19 := fun w h => List.mem_cons_of_mem _ (List.mem_append_left _ h)
  have hw := fun w (h : w ∈ e_X8_against_19) => hts w (mw w h)
  have j_X8_againstOnMotion_5 : ∀ w ∈ v_X8_againstOnMotion_5, w ∈ v_X8_against_19 := fun w h => List.mem_cons_of_mem _ (List.mem_append_right _ (List.mem_append_left _ h))
  have hown : s.vm.findClass RX8 = some m.cls := findClass_of_methodNamed B.named
  have hlocks := B.notSynchronized
  subst hsz
  have hD := hD0.self (sz := s.heap.size)
  generalize hAe : va_A [(h0, .inr (0, [.ref h1, .ref h2, .ref h3, .ref h4, .ref h5, .ref h6, .ref h7, .int 0, .int 0, .int 0, .null])), (h1, .inr (1, [.int 1, .ref h8, .int 0, .int (-1), .int 0, .int 0, .int (-1), .ref h9])), (h2, .inr (4, [.ref h10, .int 0]))] s.heap.size = A at hD ⊢
  have hA : ∀ q : Nat, s.heap.size ≤ q → A q := fun q h => by rw [← hAe]; exact Or.inr h
  have hS : va_S A s.heap s.heap [] := va_S.rf
  have hP : va_P G vwCl [(h0, .inr (0, [.ref h1, .ref h2, .ref h3, .ref h4, .ref h5, .ref h6, .ref h7, .int 0, .int 0, .int 0, .null])), (h1, .inr (1, [.int 1, .ref h8, .int 0, .int (-1), .int 0, .int 0, .int (-1), .ref h9])), (h2, .inr (4, [.ref h10, .int 0]))] s.heap := hP
  have hl := lv_entry ([.ref h0, .int 20, .int p0, .int 0, .int 0, .int 0]) (n := 7) (Nat.le_of_ble_eq_true rfl)
  rw [lg_entry_eq]
  generalize (lg_sl ([.ref h0, .int 20, .int p0, .int 0, .int 0, .int 0]) ++ List.replicate (7 - (lg_sl ([.ref h0, .int 20, .int p0, .int 0, .int 0, .int 0])).length) Slot.unset).toArray = ls at hl ⊢
  have hl : lv_has ls 7 [(0, .ref h0), (1, .int 20), (2, .int p0), (3, .int 0), (4, .int 0), (5, .int 0)] := hl
  refine lv_iload_n hx hb dX8_against_0 rfl (lv_at hl 1 rfl) ?_
  refine lv_bipush (v := 9) hx hb dX8_against_1 (by decide) ?_
  refine lv_icmp_gt (tgt := 18) hx hb dX8_against_3 (by decide) (fun _ => ?_) (fun c_ => absurd c_ (by decide))
  refine lv_iload_n hx hb dX8_against_18 rfl (lv_at hl 1 rfl) ?_
  refine lv_bipush (v := 14) hx hb dX8_against_19 (by decide) ?_
  refine lv_icmp_gt (tgt := 40) hx hb dX8_against_21 (by decide) (fun _ => ?_) (fun c_ => absurd c_ (by decide))
  refine lv_aload_n hx hb dX8_against_40 rfl (lv_at hl 0 rfl) ?_
  refine lv_iload_n hx hb dX8_against_41 rfl (lv_at hl 1 rfl) ?_
  refine lv_iload_n hx hb dX8_against_42 rfl (lv_at hl 2 rfl) ?_
  refine lv_iload_n hx hb dX8_against_43 rfl (lv_at hl 3 rfl) ?_
  have hPc := hP.sub (ws' := [(h0, .inr (0, [.ref h1, .ref h2, .ref h3, .ref h4, .ref h5, .ref h6, .ref h7, .int 0, .int 0, .int 0, .null])), (h1, .inr (1, [.int 1, .ref h8, .int 0, .int (-1), .int 0, .int 0, .int (-1), .ref h9])), (h2, .inr (4, [.ref h10, .int 0]))]) [0, 1, 2] rfl
  have hDc := hD.sub (ws' := [(h0, .inr (0, [.ref h1, .ref h2, .ref h3, .ref h4, .ref h5, .ref h6, .ref h7, .int 0, .int 0, .int 0, .null])), (h1, .inr (1, [.int 1, .ref h8, .int 0, .int (-1), .int 0, .int 0, .int (-1), .ref h9])), (h2, .inr (4, [.ref h10, .int 0]))]) [0, 1, 2] (by decide) rfl
  refine wGoi (wc := [(h0, .inr (0, [.ref h1, .ref h2, .ref h3, .ref h4, .ref h5, .ref h6, .ref h7, .int 0, .int 0, .int 0, .null])), (h1, .inr (1, [.int 1, .ref h8, .int 0, .int (-1), .int 0, .int 0, .int (-1), .ref h9])), (h2, .inr (4, [.ref h10, .int 0]))]) (wr := []) (va_runS (As := [.ref h0, .int 20, .int p0, .int 0]) (rest := []) ⟨hx, hb, hml, hown, hts⟩ (m_X8_againstOnMotion_5 l G K h0 h1 h2 h3 h4 h5 h6 h7 h8 h9 h10 p0 _) (va_cwS 4 hts (wGS t_ (mw (.methodLink RX8 19 yX8_againstOnMotion) (List.mem_of_getElem? (i := 0) rfl)) (mw (.static yX8_againstOnMotion) (List.mem_of_getElem? (i := 1) rfl)) (mw (.initialized RX8) (List.mem_of_getElem? (i := 2) rfl)) j_X8_againstOnMotion_5) rfl rfl rfl (by decide +kernel) ⟨Nat.le_of_ble_eq_true rfl, Nat.le_of_ble_eq_true rfl⟩) (wPS hK hE hPc hDc) rfl rfl hl.1 rfl (lv_room (Nat.le_of_ble_eq_true rfl)) dX8_against_44 ⟨Nat.le_of_ble_eq_true rfl, Nat.le_of_ble_eq_true rfl⟩) hP hD hS hA [0, 1, 2] [] rfl rfl rfl (by decide) (fun r u H locs hw hP hD hS => ?_)
  rcases hw with ⟨rfl, rfl⟩
  have hP : va_P G vwCl [(h0, .inr (0, [.ref h1, .ref h2, .ref h3, .ref h4, .ref h5, .ref h6, .ref h7, .int 0, .int 0, .int 0, .null])), (h1, .inr (1, [.int 1, .ref h8, .int 0, .int (-1), .int 0, .int 0, .int (-1), .ref h9])), (h2, .inr (4, [.ref h10, .int 0]))] _ := hP
  have hD : va_D A [(h0, .inr (0, [.ref h1, .ref h2, .ref h3, .ref h4, .ref h5, .ref h6, .ref h7, .int 0, .int 0, .int 0, .null])), (h1, .inr (1, [.int 1, .ref h8, .int 0, .int (-1), .int 0, .int 0, .int (-1), .ref h9])), (h2, .inr (4, [.ref h10, .int 0]))] := hD
  refine lv_istore (lv' := [(6, .int 7), (0, .ref h0), (1, .int 20), (2, .int p0), (3, .int 0), (4, .int 0), (5, .int 0)]) hx hb dX8_against_47 hl (by decide) rfl (fun ls hl => ?_)
  refine lv_iload hx hb dX8_against_49 (lv_at hl 0 rfl) ?_
  refine lv_if_ne (tgt := 69) hx hb dX8_against_51 (by decide) (fun _ => ?_) (fun c_ => absurd c_ (by decide))
  refine lv_iload hx hb dX8_against_69 (lv_at hl 0 rfl) ?_
  have hP9 : va_P G vwCl [(h0, .inr (0, [.ref h1, .ref h2, .ref h3, .ref h4, .ref h5, .ref h6, .ref h7, .int 0, .int 0, .int 0, .null])), (h1, .inr (1, [.int 1, .ref h8, .int 0, .int (-1), .int 0, .int 0, .int (-1), .ref h9])), (h2, .inr (4, [.ref h10, .int 0]))] _ := hP
  have hD9 : va_D A [(h0, .inr (0, [.ref h1, .ref h2, .ref h3, .ref h4, .ref h5, .ref h6, .ref h7, .int 0, .int 0, .int 0, .null])), (h1, .inr (1, [.int 1, .ref h8, .int 0, .int (-1), .int 0, .int 0, .int (-1), .ref h9])), (h2, .inr (4, [.ref h10, .int 0]))] := hD
  exact W.iret (v := 7) hx hb hr (fun t ht hW => ⟨⟨7, _, rfl, ⟨rfl, rfl⟩, by rw [ht]; exact hP9, hD9⟩, hS.F ht⟩) hS.2.2 dX8_against_71
def e_X0_enact_19 : List Cond := [.methodLink RX0 155 yX8_against, .static yX8_against, .initialized RX8, .fieldLink RX0 73 "MotionFloor$Assembly" "reason" "I"]
def v_X0_enact_19 : List Cond := .code yX0_enact cX0_enact 7 (some .int) :: (e_X0_enact_19 ++ (wsX00 ++ (v_X8_against_19 ++ [])))
theorem te_X0_enact_19 : GoodIn lw_tbl e_X0_enact_19 := wGc z345 (wGc z344 (wGc z297 (wGc z263 (wG0))))
theorem t_X0_enact_19 : GoodIn lw_tbl v_X0_enact_19 := wGc z346 (wGa te_X0_enact_19 (wGa zcX0 (wGa t_X8_against_19 (wG0))))
set_option maxHeartbeats 4000000 in
set_option maxRecDepth 100000 in
theorem m_X0_enact_19 (l : Launch) (G : va_G) (K : Nat → ClassId) (h0 h1 h2 h3 h4 h5 h6 h7 h8 h9 h10 : Nat) (p0 : Int32) (sz : Nat) : Met l yX0_enact v_X0_enact_19 ({ frames := 4, cells := 0, slots := 0, locals := 92 }) (va_Pc [.ref h0, .int 20, .int p0, .int 0, .int 0, .int 0] (wS G K sz [(h0, .inr (0, [.ref h1, .ref h2, .ref h3, .ref h4, .ref h5, .ref h6, .ref h7, .int 0, .int 0, .int 0, .null])), (h1, .inr (1, [.int 1, .ref h8, .int 0, .int (-1), .int 0, .int 0, .int (-1), .ref h9])), (h2, .inr (4, [.ref h10, .int 0]))])) (va_Qi (fun (r : Int32) (u : va_W) => ((-7) = r ∧ u = [(h0, .inr (0, [.ref h1, .ref h2, .ref h3, .ref h4, .ref h5, .ref h6, .ref h7, .int 0, .int 0, .int 7, .null])), (h1, .inr (1, [.int 1, .ref h8, .int 0, .int (-1), .int 0, .int 0, .int (-1), .ref h9])), (h2, .inr (4, [.ref h10, .int 0]))])) (wB G (va_A [(h0, .inr (0, [.ref h1, .ref h2, .ref h3, .ref h4, .ref h5, .ref h6, .ref h7, .int 0, .int 0, .int 0, .null])), (h1, .inr (1, [.int 1, .ref h8, .int 0, .int (-1), .int 0, .int 0, .int (-1), .ref h9])), (h2, .inr (4, [.ref h10, .int 0]))] sz)) (va_A [(h0, .inr (0, [.ref h1, .ref h2, .ref h3, .ref h4, .ref h5, .ref h6, .ref h7, .int 0, .int 0, .int 0, .null])), (h1, .inr (1, [.int 1, .ref h8, .int 0, .int (-1), .int 0, .int 0, .int (-1), .ref h9])), (h2, .inr (4, [.ref h10, .int 0]))] sz)) 0 0 (va_A [(h0, .inr (0, [.ref h1, .ref h2, .ref h3, .ref h4, .ref h5, .ref h6, .ref h7, .int 0, .int 0, .int 0, .null])), (h1, .inr (1, [.int 1, .ref h8, .int 0, .int (-1), .int 0, .int 0, .int (-1), .ref h9])), (h2, .inr (4, [.ref h10, .int 0]))] sz) := by
  refine Met.ofW (cc := cX0_enact) (maxL := 7) (ret := (some .int)) (by decide) rfl ?_
  intro p e s m args below meth c s₁ B hml hv
  obtain ⟨rfl, hsz, hP, hK, hD0, hE⟩ := hv
  have hx := B.exec
  have hb := B.bytes
  have hr := B.returns
  have hts := atoms_spec (ws := v_X0_enact_19) B.pre
  have t_ := t_X0_enact_19
  have mw : ∀ w ∈ e_X0_enact_19, w ∈ v_X0_enact_19 := fun w h => List.mem_cons_of_mem _ (List.mem_append_left _ h)
  have hw := fun w (h : w ∈ e_X0_enact_19) => hts w (mw w h)
  have iX0 : ∀ w ∈ wsX00, w ∈ v_X0_enact_19 := fun w h => List.mem_cons_of_mem _ (List.mem_append_right _ (List.mem_append_left _ h))
  have j_X8_against_19 : ∀ w ∈ v_X8_against_19, w ∈ v_X0_enact_19 := fun w h => List.mem_cons_of_mem _ (List.mem_append_right _ (List.mem_append_right _ (List.mem_append_left _ h)))
  have hown : s.vm.findClass RX0 = some m.cls := findClass_of_methodNamed B.named
  have hlocks := B.notSynchronized
  subst hsz
  have hD := hD0.self (sz := s.heap.size)
  generalize hAe : va_A [(h0, .inr (0, [.ref h1, .ref h2, .ref h3, .ref h4, .ref h5, .ref h6, .ref h7, .int 0, .int 0, .int 0, .null])), (h1, .inr (1, [.int 1, .ref h8, .int 0, .int (-1), .int 0, .int 0, .int (-1), .ref h9])), (h2, .inr (4, [.ref h10, .int 0]))] s.heap.size = A at hD ⊢
  have hA : ∀ q : Nat, s.heap.size ≤ q → A q := fun q h => by rw [← hAe]; exact Or.inr h
  have hS : va_S A s.heap s.heap [] := va_S.rf
  have hP : va_P G vwCl [(h0, .inr (0, [.ref h1, .ref h2, .ref h3, .ref h4, .ref h5, .ref h6, .ref h7, .int 0, .int 0, .int 0, .null])), (h1, .inr (1, [.int 1, .ref h8, .int 0, .int (-1), .int 0, .int 0, .int (-1), .ref h9])), (h2, .inr (4, [.ref h10, .int 0]))] s.heap := hP
  have hl := lv_entry ([.ref h0, .int 20, .int p0, .int 0, .int 0, .int 0]) (n := 7) (Nat.le_of_ble_eq_true rfl)
  rw [lg_entry_eq]
  generalize (lg_sl ([.ref h0, .int 20, .int p0, .int 0, .int 0, .int 0]) ++ List.replicate (7 - (lg_sl ([.ref h0, .int 20, .int p0, .int 0, .int 0, .int 0])).length) Slot.unset).toArray = ls at hl ⊢
  have hl : lv_has ls 7 [(0, .ref h0), (1, .int 20), (2, .int p0), (3, .int 0), (4, .int 0), (5, .int 0)] := hl
  refine lv_aload_n hx hb dX0_enact_0 rfl (lv_at hl 0 rfl) ?_
  refine lv_aload_n hx hb dX0_enact_1 rfl (lv_at hl 0 rfl) ?_
  refine lv_iload_n hx hb dX0_enact_2 rfl (lv_at hl 1 rfl) ?_
  refine lv_iload_n hx hb dX0_enact_3 rfl (lv_at hl 2 rfl) ?_
  refine lv_iload_n hx hb dX0_enact_4 rfl (lv_at hl 3 rfl) ?_
  refine lv_iload hx hb dX0_enact_5 (lv_at hl 4 rfl) ?_
  refine lv_iload hx hb dX0_enact_7 (lv_at hl 5 rfl) ?_
  have hPc := hP.sub (ws' := [(h0, .inr (0, [.ref h1, .ref h2, .ref h3, .ref h4, .ref h5, .ref h6, .ref h7, .int 0, .int 0, .int 0, .null])), (h1, .inr (1, [.int 1, .ref h8, .int 0, .int (-1), .int 0, .int 0, .int (-1), .ref h9])), (h2, .inr (4, [.ref h10, .int 0]))]) [0, 1, 2] rfl
  have hDc := hD.sub (ws' := [(h0, .inr (0, [.ref h1, .ref h2, .ref h3, .ref h4, .ref h5, .ref h6, .ref h7, .int 0, .int 0, .int 0, .null])), (h1, .inr (1, [.int 1, .ref h8, .int 0, .int (-1), .int 0, .int 0, .int (-1), .ref h9])), (h2, .inr (4, [.ref h10, .int 0]))]) [0, 1, 2] (by decide) rfl
  refine wGoi (wc := [(h0, .inr (0, [.ref h1, .ref h2, .ref h3, .ref h4, .ref h5, .ref h6, .ref h7, .int 0, .int 0, .int 0, .null])), (h1, .inr (1, [.int 1, .ref h8, .int 0, .int (-1), .int 0, .int 0, .int (-1), .ref h9])), (h2, .inr (4, [.ref h10, .int 0]))]) (wr := []) (va_runS (As := [.ref h0, .int 20, .int p0, .int 0, .int 0, .int 0]) (rest := [.ref h0]) ⟨hx, hb, hml, hown, hts⟩ (m_X8_against_19 l G K h0 h1 h2 h3 h4 h5 h6 h7 h8 h9 h10 p0 _) (va_cwS 6 hts (wGS t_ (mw (.methodLink RX0 155 yX8_against) (List.mem_of_getElem? (i := 0) rfl)) (mw (.static yX8_against) (List.mem_of_getElem? (i := 1) rfl)) (mw (.initialized RX8) (List.mem_of_getElem? (i := 2) rfl)) j_X8_against_19) rfl rfl rfl (by decide +kernel) ⟨Nat.le_of_ble_eq_true rfl, Nat.le_of_ble_eq_true rfl⟩) (wPS hK hE hPc hDc) rfl rfl hl.1 rfl (lv_room (Nat.le_of_ble_eq_true rfl)) dX0_enact_9 ⟨Nat.le_of_ble_eq_true rfl, Nat.le_of_ble_eq_true rfl⟩) hP hD hS hA [0, 1, 2] [] rfl rfl rfl (by decide) (fun r u H locs hw hP hD hS => ?_)
  rcases hw with ⟨rfl, rfl⟩
  have hP : va_P G vwCl [(h0, .inr (0, [.ref h1, .ref h2, .ref h3, .ref h4, .ref h5, .ref h6, .ref h7, .int 0, .int 0, .int 0, .null])), (h1, .inr (1, [.int 1, .ref h8, .int 0, .int (-1), .int 0, .int 0, .int (-1), .ref h9])), (h2, .inr (4, [.ref h10, .int 0]))] _ := hP
  have hD : va_D A [(h0, .inr (0, [.ref h1, .ref h2, .ref h3, .ref h4, .ref h5, .ref h6, .ref h7, .int 0, .int 0, .int 0, .null])), (h1, .inr (1, [.int 1, .ref h8, .int 0, .int (-1), .int 0, .int 0, .int (-1), .ref h9])), (h2, .inr (4, [.ref h10, .int 0]))] := hD
  refine va_put (D := G) (ci := 0) (v := .int 7) (ty := .int) (C := RX0) (T := TX0) (N := 11) hx hb hts iX0 tyX0 tyX0_ok nmX0 hown hK hP hD hS 0 rfl rfl 9 (by decide) (hw (.fieldLink RX0 73 "MotionFloor$Assembly" "reason" "I") (List.mem_of_getElem? (i := 3) rfl)) (fun _ h9 => h9) rfl (by decide +kernel) rfl rfl (Nat.le_of_ble_eq_true rfl) dX0_enact_12 (fun H locs hP hD hS => ?_)
  have hP : va_P G vwCl [(h0, .inr (0, [.ref h1, .ref h2, .ref h3, .ref h4, .ref h5, .ref h6, .ref h7, .int 0, .int 0, .int 7, .null])), (h1, .inr (1, [.int 1, .ref h8, .int 0, .int (-1), .int 0, .int 0, .int (-1), .ref h9])), (h2, .inr (4, [.ref h10, .int 0]))] _ := hP
  have hD : va_D A [(h0, .inr (0, [.ref h1, .ref h2, .ref h3, .ref h4, .ref h5, .ref h6, .ref h7, .int 0, .int 0, .int 7, .null])), (h1, .inr (1, [.int 1, .ref h8, .int 0, .int (-1), .int 0, .int 0, .int (-1), .ref h9])), (h2, .inr (4, [.ref h10, .int 0]))] := hD
  refine lv_aload_n hx hb dX0_enact_15 rfl (lv_at hl 0 rfl) ?_
  refine va_get (D := G) (ci := 0) (v := .int 7) (C := RX0) (T := TX0) (N := 11) hx hb hts iX0 hown hK hP 0 rfl rfl 9 (by decide) (hw (.fieldLink RX0 73 "MotionFloor$Assembly" "reason" "I") (List.mem_of_getElem? (i := 3) rfl)) (fun _ h9 => h9) rfl dX0_enact_16 ?_
  refine lv_if_eq (tgt := 28) hx hb dX0_enact_19 (by decide) (fun c_ => absurd c_ (by decide)) (fun _ => ?_)
  refine lv_aload_n hx hb dX0_enact_22 rfl (lv_at hl 0 rfl) ?_
  refine va_get (D := G) (ci := 0) (v := .int 7) (C := RX0) (T := TX0) (N := 11) hx hb hts iX0 hown hK hP 0 rfl rfl 9 (by decide) (hw (.fieldLink RX0 73 "MotionFloor$Assembly" "reason" "I") (List.mem_of_getElem? (i := 3) rfl)) (fun _ h9 => h9) rfl dX0_enact_23 ?_
  refine lv_ineg hx hb dX0_enact_26 ?_
  refine wTop (v1 := .int (-7)) (congrArg Value.int (by decide)) ?_
  have hP9 : va_P G vwCl [(h0, .inr (0, [.ref h1, .ref h2, .ref h3, .ref h4, .ref h5, .ref h6, .ref h7, .int 0, .int 0, .int 7, .null])), (h1, .inr (1, [.int 1, .ref h8, .int 0, .int (-1), .int 0, .int 0, .int (-1), .ref h9])), (h2, .inr (4, [.ref h10, .int 0]))] _ := hP
  have hD9 : va_D A [(h0, .inr (0, [.ref h1, .ref h2, .ref h3, .ref h4, .ref h5, .ref h6, .ref h7, .int 0, .int 0, .int 7, .null])), (h1, .inr (1, [.int 1, .ref h8, .int 0, .int (-1), .int 0, .int 0, .int (-1), .ref h9])), (h2, .inr (4, [.ref h10, .int 0]))] := hD
  exact W.iret (v := (-7)) hx hb hr (fun t ht hW => ⟨⟨(-7), _, rfl, ⟨rfl, rfl⟩, by rw [ht]; exact hP9, hD9⟩, hS.F ht⟩) hS.2.2 dX0_enact_27
def e_X10_appeal_0 : List Cond := [.fieldLink RX10 10 "MotionFloor" "now" "LMotionFloor$Assembly;", .methodLink RX10 32 yX0_enact, .instanceMethod yX0_enact, .selects RX0 yX0_enact yX0_enact, .initialized RX0]
def v_X10_appeal_0 : List Cond := .code yX10_appeal cX10_appeal 2 (some .int) :: (e_X10_appeal_0 ++ (wsX100 ++ (v_X0_enact_19 ++ [])))
theorem te_X10_appeal_0 : GoodIn lw_tbl e_X10_appeal_0 := wGc z115 (wGc z349 (wGc z348 (wGc z347 (wGc z118 (wG0)))))
theorem t_X10_appeal_0 : GoodIn lw_tbl v_X10_appeal_0 := wGc z659 (wGa te_X10_appeal_0 (wGa zcX10 (wGa t_X0_enact_19 (wG0))))
set_option maxHeartbeats 4000000 in
set_option maxRecDepth 100000 in
theorem m_X10_appeal_0 (l : Launch) (G : va_G) (K : Nat → ClassId) (h0 h1 h2 h3 h4 h5 h6 h7 h8 h9 h10 h11 h12 h13 : Nat) (p0 : Int32) (sz : Nat) : Met l yX10_appeal v_X10_appeal_0 ({ frames := 5, cells := 0, slots := 0, locals := 118 }) (va_Pc [.ref h0, .int p0] (wS G K sz [(h0, .inr (7, [.ref h1, .ref h4, .null, .null, .ref h5])), (h1, .inr (0, [.ref h2, .ref h3, .ref h6, .ref h7, .ref h8, .ref h9, .ref h10, .int 0, .int 0, .int 0, .null])), (h2, .inr (1, [.int 1, .ref h11, .int 0, .int (-1), .int 0, .int 0, .int (-1), .ref h12])), (h3, .inr (4, [.ref h13, .int 0]))])) (va_Qi (fun (r : Int32) (u : va_W) => ((-7) = r ∧ u = [(h0, .inr (7, [.ref h1, .ref h4, .null, .null, .ref h5])), (h1, .inr (0, [.ref h2, .ref h3, .ref h6, .ref h7, .ref h8, .ref h9, .ref h10, .int 0, .int 0, .int 7, .null])), (h2, .inr (1, [.int 1, .ref h11, .int 0, .int (-1), .int 0, .int 0, .int (-1), .ref h12])), (h3, .inr (4, [.ref h13, .int 0]))])) (wB G (va_A [(h0, .inr (7, [.ref h1, .ref h4, .null, .null, .ref h5])), (h1, .inr (0, [.ref h2, .ref h3, .ref h6, .ref h7, .ref h8, .ref h9, .ref h10, .int 0, .int 0, .int 0, .null])), (h2, .inr (1, [.int 1, .ref h11, .int 0, .int (-1), .int 0, .int 0, .int (-1), .ref h12])), (h3, .inr (4, [.ref h13, .int 0]))] sz)) (va_A [(h0, .inr (7, [.ref h1, .ref h4, .null, .null, .ref h5])), (h1, .inr (0, [.ref h2, .ref h3, .ref h6, .ref h7, .ref h8, .ref h9, .ref h10, .int 0, .int 0, .int 0, .null])), (h2, .inr (1, [.int 1, .ref h11, .int 0, .int (-1), .int 0, .int 0, .int (-1), .ref h12])), (h3, .inr (4, [.ref h13, .int 0]))] sz)) 0 0 (va_A [(h0, .inr (7, [.ref h1, .ref h4, .null, .null, .ref h5])), (h1, .inr (0, [.ref h2, .ref h3, .ref h6, .ref h7, .ref h8, .ref h9, .ref h10, .int 0, .int 0, .int 0, .null])), (h2, .inr (1, [.int 1, .ref h11, .int 0, .int (-1), .int 0, .int 0, .int (-1), .ref h12])), (h3, .inr (4, [.ref h13, .int 0]))] sz) := by
  refine Met.ofW (cc := cX10_appeal) (maxL := 2) (ret := (some .int)) (by decide) rfl ?_
  intro p e s m args below meth c s₁ B hml hv
  obtain ⟨rfl, hsz, hP, hK, hD0, hE⟩ := hv
  have hx := B.exec
  have hb := B.bytes
  have hr := B.returns
  have hts := atoms_spec (ws := v_X10_appeal_0) B.pre
  have t_ := t_X10_appeal_0
  have mw : ∀ w ∈ e_X10_appeal_0, w ∈ v_X10_appeal_0 := fun w h => List.mem_cons_of_mem _ (List.mem_append_left _ h)
  have hw := fun w (h : w ∈ e_X10_appeal_0) => hts w (mw w h)
  have iX10 : ∀ w ∈ wsX100, w ∈ v_X10_appeal_0 := fun w h => List.mem_cons_of_mem _ (List.mem_append_right _ (List.mem_append_left _ h))
  have j_X0_enact_19 : ∀ w ∈ v_X0_enact_19, w ∈ v_X10_appeal_0 := fun w h => List.mem_cons_of_mem _ (List.mem_append_right _ (List.mem_append_right _ (List.mem_append_left _ h)))
  have hown : s.vm.findClass RX10 = some m.cls := findClass_of_methodNamed B.named
  have hlocks := B.notSynchronized
  subst hsz
  have hD := hD0.self (sz := s.heap.size)
  generalize hAe : va_A [(h0, .inr (7, [.ref h1, .ref h4, .null, .null, .ref h5])), (h1, .inr (0, [.ref h2, .ref h3, .ref h6, .ref h7, .ref h8, .ref h9, .ref h10, .int 0, .int 0, .int 0, .null])), (h2, .inr (1, [.int 1, .ref h11, .int 0, .int (-1), .int 0, .int 0, .int (-1), .ref h12])), (h3, .inr (4, [.ref h13, .int 0]))] s.heap.size = A at hD ⊢
  have hA : ∀ q : Nat, s.heap.size ≤ q → A q := fun q h => by rw [← hAe]; exact Or.inr h
  have hS : va_S A s.heap s.heap [] := va_S.rf
  have hP : va_P G vwCl [(h0, .inr (7, [.ref h1, .ref h4, .null, .null, .ref h5])), (h1, .inr (0, [.ref h2, .ref h3, .ref h6, .ref h7, .ref h8, .ref h9, .ref h10, .int 0, .int 0, .int 0, .null])), (h2, .inr (1, [.int 1, .ref h11, .int 0, .int (-1), .int 0, .int 0, .int (-1), .ref h12])), (h3, .inr (4, [.ref h13, .int 0]))] s.heap := hP
  have hl := lv_entry ([.ref h0, .int p0]) (n := 2) (Nat.le_of_ble_eq_true rfl)
  rw [lg_entry_eq]
  generalize (lg_sl ([.ref h0, .int p0]) ++ List.replicate (2 - (lg_sl ([.ref h0, .int p0])).length) Slot.unset).toArray = ls at hl ⊢
  have hl : lv_has ls 2 [(0, .ref h0), (1, .int p0)] := hl
  refine lv_aload_n hx hb dX10_appeal_0 rfl (lv_at hl 0 rfl) ?_
  refine va_get (D := G) (ci := 7) (v := .ref h1) (C := RX10) (T := TX10) (N := 5) hx hb hts iX10 hown hK hP 0 rfl rfl 0 (by decide) (hw (.fieldLink RX10 10 "MotionFloor" "now" "LMotionFloor$Assembly;") (List.mem_of_getElem? (i := 0) rfl)) (fun _ h9 => h9) rfl dX10_appeal_1 ?_
  refine lv_bipush (v := 20) hx hb dX10_appeal_4 (by decide) ?_
  refine lv_iload_n hx hb dX10_appeal_6 rfl (lv_at hl 1 rfl) ?_
  refine lv_iconst (v := 0) hx hb dX10_appeal_7 (by decide) ?_
  refine lv_iconst (v := 0) hx hb dX10_appeal_8 (by decide) ?_
  refine lv_iconst (v := 0) hx hb dX10_appeal_9 (by decide) ?_
  have hPc := hP.sub (ws' := [(h1, .inr (0, [.ref h2, .ref h3, .ref h6, .ref h7, .ref h8, .ref h9, .ref h10, .int 0, .int 0, .int 0, .null])), (h2, .inr (1, [.int 1, .ref h11, .int 0, .int (-1), .int 0, .int 0, .int (-1), .ref h12])), (h3, .inr (4, [.ref h13, .int 0]))]) [1, 2, 3] rfl
  have hDc := hD.sub (ws' := [(h1, .inr (0, [.ref h2, .ref h3, .ref h6, .ref h7, .ref h8, .ref h9, .ref h10, .int 0, .int 0, .int 0, .null])), (h2, .inr (1, [.int 1, .ref h11, .int 0, .int (-1), .int 0, .int 0, .int (-1), .ref h12])), (h3, .inr (4, [.ref h13, .int 0]))]) [1, 2, 3] (by decide) rfl
  refine wGoi (wc := [(h1, .inr (0, [.ref h2, .ref h3, .ref h6, .ref h7, .ref h8, .ref h9, .ref h10, .int 0, .int 0, .int 0, .null])), (h2, .inr (1, [.int 1, .ref h11, .int 0, .int (-1), .int 0, .int 0, .int (-1), .ref h12])), (h3, .inr (4, [.ref h13, .int 0]))]) (wr := [(h0, .inr (7, [.ref h1, .ref h4, .null, .null, .ref h5]))]) (va_runV (As := [.int 20, .int p0, .int 0, .int 0, .int 0]) (rest := []) ⟨hx, hb, hml, hown, hts⟩ (m_X0_enact_19 l G K h1 h2 h3 h6 h7 h8 h9 h10 h11 h12 h13 p0 _) (cwV 5 hts (wGV t_ (mw (.methodLink RX10 32 yX0_enact) (List.mem_of_getElem? (i := 1) rfl)) (mw (.instanceMethod yX0_enact) (List.mem_of_getElem? (i := 2) rfl)) (mw (.selects RX0 yX0_enact yX0_enact) (List.mem_of_getElem? (i := 3) rfl)) (mw (.initialized RX0) (List.mem_of_getElem? (i := 4) rfl)) j_X0_enact_19) rfl rfl rfl (by decide +kernel) ⟨Nat.le_of_ble_eq_true rfl, Nat.le_of_ble_eq_true rfl⟩) (wPV hK hE hPc hDc 0 0 rfl rfl) rfl rfl hl.1 rfl (lv_room (Nat.le_of_ble_eq_true rfl)) dX10_appeal_10 ⟨Nat.le_of_ble_eq_true rfl, Nat.le_of_ble_eq_true rfl⟩) hP hD hS hA [1, 2, 3] [0] rfl rfl rfl (by decide) (fun r u H locs hw hP hD hS => ?_)
  rcases hw with ⟨rfl, rfl⟩
  have hP : va_P G vwCl [(h0, .inr (7, [.ref h1, .ref h4, .null, .null, .ref h5])), (h1, .inr (0, [.ref h2, .ref h3, .ref h6, .ref h7, .ref h8, .ref h9, .ref h10, .int 0, .int 0, .int 7, .null])), (h2, .inr (1, [.int 1, .ref h11, .int 0, .int (-1), .int 0, .int 0, .int (-1), .ref h12])), (h3, .inr (4, [.ref h13, .int 0]))] _ := hP
  have hD : va_D A [(h0, .inr (7, [.ref h1, .ref h4, .null, .null, .ref h5])), (h1, .inr (0, [.ref h2, .ref h3, .ref h6, .ref h7, .ref h8, .ref h9, .ref h10, .int 0, .int 0, .int 7, .null])), (h2, .inr (1, [.int 1, .ref h11, .int 0, .int (-1), .int 0, .int 0, .int (-1), .ref h12])), (h3, .inr (4, [.ref h13, .int 0]))] := hD
  have hP9 : va_P G vwCl [(h0, .inr (7, [.ref h1, .ref h4, .null, .null, .ref h5])), (h1, .inr (0, [.ref h2, .ref h3, .ref h6, .ref h7, .ref h8, .ref h9, .ref h10, .int 0, .int 0, .int 7, .null])), (h2, .inr (1, [.int 1, .ref h11, .int 0, .int (-1), .int 0, .int 0, .int (-1), .ref h12])), (h3, .inr (4, [.ref h13, .int 0]))] _ := hP
  have hD9 : va_D A [(h0, .inr (7, [.ref h1, .ref h4, .null, .null, .ref h5])), (h1, .inr (0, [.ref h2, .ref h3, .ref h6, .ref h7, .ref h8, .ref h9, .ref h10, .int 0, .int 0, .int 7, .null])), (h2, .inr (1, [.int 1, .ref h11, .int 0, .int (-1), .int 0, .int 0, .int (-1), .ref h12])), (h3, .inr (4, [.ref h13, .int 0]))] := hD
  exact W.iret (v := (-7)) hx hb hr (fun t ht hW => ⟨⟨(-7), _, rfl, ⟨rfl, rfl⟩, by rw [ht]; exact hP9, hD9⟩, hS.F ht⟩) hS.2.2 dX10_appeal_13
def e_X11_reason_29 : List Cond := [.fieldLink RX11 115 "MotionFloorModel$Hall" "pending" "I"]
def v_X11_reason_29 : List Cond := .code yX11_reason cX11_reason 6 (some .int) :: (e_X11_reason_29 ++ (wsX110 ++ []))
theorem te_X11_reason_29 : GoodIn lw_tbl e_X11_reason_29 := wGc z202 (wG0)
theorem t_X11_reason_29 : GoodIn lw_tbl v_X11_reason_29 := wGc z355 (wGa te_X11_reason_29 (wGa zcX11 (wG0)))
set_option maxHeartbeats 4000000 in
set_option maxRecDepth 100000 in
theorem m_X11_reason_29 (l : Launch) (G : va_G) (K : Nat → ClassId) (h0 h1 h2 h3 h4 h5 h6 h7 h8 h9 h10 h11 h12 h13 h14 h15 h16 h17 h18 h19 h20 h21 h22 h23 h24 h25 h26 h27 : Nat) (p0 : Int32) (sz : Nat) : Met l yX11_reason v_X11_reason_29 ({ frames := 0, cells := 0, slots := 0, locals := 0 }) (va_Pc [.ref h0, .int 20, .int p0, .int 0, .int 0, .int 0] (wS G K sz [(h0, .inr (8, [.int 1, .int 0, .int (-1), .int 0, .int 0, .int (-1), .int 0, .int 0, .int 0, .int 0, .int 0, .ref h1, .ref h2, .ref h3, .ref h4, .ref h5, .ref h6, .ref h7, .ref h8, .ref h9, .ref h10, .ref h11, .ref h12, .ref h13, .ref h14, .ref h15, .ref h16, .ref h17, .ref h18, .ref h19, .int 0, .ref h20, .ref h21, .ref h22, .ref h23, .int 0, .int 0, .ref h24, .ref h25, .int (-1), .ref h26, .ref h27]))])) (va_Qi (fun (r : Int32) (u : va_W) => (7 = r ∧ u = [(h0, .inr (8, [.int 1, .int 0, .int (-1), .int 0, .int 0, .int (-1), .int 0, .int 0, .int 0, .int 0, .int 0, .ref h1, .ref h2, .ref h3, .ref h4, .ref h5, .ref h6, .ref h7, .ref h8, .ref h9, .ref h10, .ref h11, .ref h12, .ref h13, .ref h14, .ref h15, .ref h16, .ref h17, .ref h18, .ref h19, .int 0, .ref h20, .ref h21, .ref h22, .ref h23, .int 0, .int 0, .ref h24, .ref h25, .int (-1), .ref h26, .ref h27]))])) (wB G (va_A [(h0, .inr (8, [.int 1, .int 0, .int (-1), .int 0, .int 0, .int (-1), .int 0, .int 0, .int 0, .int 0, .int 0, .ref h1, .ref h2, .ref h3, .ref h4, .ref h5, .ref h6, .ref h7, .ref h8, .ref h9, .ref h10, .ref h11, .ref h12, .ref h13, .ref h14, .ref h15, .ref h16, .ref h17, .ref h18, .ref h19, .int 0, .ref h20, .ref h21, .ref h22, .ref h23, .int 0, .int 0, .ref h24, .ref h25, .int (-1), .ref h26, .ref h27]))] sz)) (va_A [(h0, .inr (8, [.int 1, .int 0, .int (-1), .int 0, .int 0, .int (-1), .int 0, .int 0, .int 0, .int 0, .int 0, .ref h1, .ref h2, .ref h3, .ref h4, .ref h5, .ref h6, .ref h7, .ref h8, .ref h9, .ref h10, .ref h11, .ref h12, .ref h13, .ref h14, .ref h15, .ref h16, .ref h17, .ref h18, .ref h19, .int 0, .ref h20, .ref h21, .ref h22, .ref h23, .int 0, .int 0, .ref h24, .ref h25, .int (-1), .ref h26, .ref h27]))] sz)) 0 0 (va_A [(h0, .inr (8, [.int 1, .int 0, .int (-1), .int 0, .int 0, .int (-1), .int 0, .int 0, .int 0, .int 0, .int 0, .ref h1, .ref h2, .ref h3, .ref h4, .ref h5, .ref h6, .ref h7, .ref h8, .ref h9, .ref h10, .ref h11, .ref h12, .ref h13, .ref h14, .ref h15, .ref h16, .ref h17, .ref h18, .ref h19, .int 0, .ref h20, .ref h21, .ref h22, .ref h23, .int 0, .int 0, .ref h24, .ref h25, .int (-1), .ref h26, .ref h27]))] sz) := by
  refine Met.ofW (cc := cX11_reason) (maxL := 6) (ret := (some .int)) (by decide) rfl ?_
  intro p e s m args below meth c s₁ B hml hv
  obtain ⟨rfl, hsz, hP, hK, hD0, hE⟩ := hv
  have hx := B.exec
  have hb := B.bytes
  have hr := B.returns
  have hts := atoms_spec (ws := v_X11_reason_29) B.pre
  have t_ := t_X11_reason_29
  have mw : ∀ w ∈ e_X11_reason_29, w ∈ v_X11_reason_29 := fun w h => List.mem_cons_of_mem _ (List.mem_append_left _ h)
  have hw := fun w (h : w ∈ e_X11_reason_29) => hts w (mw w h)
  have iX11 : ∀ w ∈ wsX110, w ∈ v_X11_reason_29 := fun w h => List.mem_cons_of_mem _ (List.mem_append_right _ (List.mem_append_left _ h))
  have hown : s.vm.findClass RX11 = some m.cls := findClass_of_methodNamed B.named
  have hlocks := B.notSynchronized
  subst hsz
  have hD := hD0.self (sz := s.heap.size)
  generalize hAe : va_A [(h0, .inr (8, [.int 1, .int 0, .int (-1), .int 0, .int 0, .int (-1), .int 0, .int 0, .int 0, .int 0, .int 0, .ref h1, .ref h2, .ref h3, .ref h4, .ref h5, .ref h6, .ref h7, .ref h8, .ref h9, .ref h10, .ref h11, .ref h12, .ref h13, .ref h14, .ref h15, .ref h16, .ref h17, .ref h18, .ref h19, .int 0, .ref h20, .ref h21, .ref h22, .ref h23, .int 0, .int 0, .ref h24, .ref h25, .int (-1), .ref h26, .ref h27]))] s.heap.size = A at hD ⊢
  have hA : ∀ q : Nat, s.heap.size ≤ q → A q := fun q h => by rw [← hAe]; exact Or.inr h
  have hS : va_S A s.heap s.heap [] := va_S.rf
  have hP : va_P G vwCl [(h0, .inr (8, [.int 1, .int 0, .int (-1), .int 0, .int 0, .int (-1), .int 0, .int 0, .int 0, .int 0, .int 0, .ref h1, .ref h2, .ref h3, .ref h4, .ref h5, .ref h6, .ref h7, .ref h8, .ref h9, .ref h10, .ref h11, .ref h12, .ref h13, .ref h14, .ref h15, .ref h16, .ref h17, .ref h18, .ref h19, .int 0, .ref h20, .ref h21, .ref h22, .ref h23, .int 0, .int 0, .ref h24, .ref h25, .int (-1), .ref h26, .ref h27]))] s.heap := hP
  have hl := lv_entry ([.ref h0, .int 20, .int p0, .int 0, .int 0, .int 0]) (n := 6) (Nat.le_of_ble_eq_true rfl)
  rw [lg_entry_eq]
  generalize (lg_sl ([.ref h0, .int 20, .int p0, .int 0, .int 0, .int 0]) ++ List.replicate (6 - (lg_sl ([.ref h0, .int 20, .int p0, .int 0, .int 0, .int 0])).length) Slot.unset).toArray = ls at hl ⊢
  have hl : lv_has ls 6 [(0, .ref h0), (1, .int 20), (2, .int p0), (3, .int 0), (4, .int 0), (5, .int 0)] := hl
  refine lv_iload_n hx hb dX11_reason_0 rfl (lv_at hl 1 rfl) ?_
  refine lv_tableIn (off := 826) (tgt := 827) hx hb dX11_reason_1 (by decide) (by decide) (by decide) (by decide) ?_
  refine lv_aload_n hx hb dX11_reason_827 rfl (lv_at hl 0 rfl) ?_
  refine va_get (D := G) (ci := 8) (v := .int 0) (C := RX11) (T := TX11) (N := 42) hx hb hts iX11 hown hK hP 0 rfl rfl 6 (by decide) (hw (.fieldLink RX11 115 "MotionFloorModel$Hall" "pending" "I") (List.mem_of_getElem? (i := 0) rfl)) (fun _ h9 => h9) rfl dX11_reason_828 ?_
  refine lv_if_ne (tgt := 837) hx hb dX11_reason_831 (by decide) (fun c_ => absurd c_ (by decide)) (fun _ => ?_)
  refine lv_bipush (v := 7) hx hb dX11_reason_834 (by decide) ?_
  have hP9 : va_P G vwCl [(h0, .inr (8, [.int 1, .int 0, .int (-1), .int 0, .int 0, .int (-1), .int 0, .int 0, .int 0, .int 0, .int 0, .ref h1, .ref h2, .ref h3, .ref h4, .ref h5, .ref h6, .ref h7, .ref h8, .ref h9, .ref h10, .ref h11, .ref h12, .ref h13, .ref h14, .ref h15, .ref h16, .ref h17, .ref h18, .ref h19, .int 0, .ref h20, .ref h21, .ref h22, .ref h23, .int 0, .int 0, .ref h24, .ref h25, .int (-1), .ref h26, .ref h27]))] _ := hP
  have hD9 : va_D A [(h0, .inr (8, [.int 1, .int 0, .int (-1), .int 0, .int 0, .int (-1), .int 0, .int 0, .int 0, .int 0, .int 0, .ref h1, .ref h2, .ref h3, .ref h4, .ref h5, .ref h6, .ref h7, .ref h8, .ref h9, .ref h10, .ref h11, .ref h12, .ref h13, .ref h14, .ref h15, .ref h16, .ref h17, .ref h18, .ref h19, .int 0, .ref h20, .ref h21, .ref h22, .ref h23, .int 0, .int 0, .ref h24, .ref h25, .int (-1), .ref h26, .ref h27]))] := hD
  exact W.iret (v := 7) hx hb hr (fun t ht hW => ⟨⟨7, _, rfl, ⟨rfl, rfl⟩, by rw [ht]; exact hP9, hD9⟩, hS.F ht⟩) hS.2.2 dX11_reason_836
def e_X11_act_29 : List Cond := [.methodLink RX11 196 yX11_reason, .instanceMethod yX11_reason, .selects RX11 yX11_reason yX11_reason, .initialized RX11, .fieldLink RX11 127 "MotionFloorModel$Hall" "why" "I"]
def v_X11_act_29 : List Cond := .code yX11_act cX11_act 10 (some .int) :: (e_X11_act_29 ++ (wsX110 ++ (v_X11_reason_29 ++ [])))
theorem te_X11_act_29 : GoodIn lw_tbl e_X11_act_29 := wGc z364 (wGc z363 (wGc z362 (wGc z227 (wGc z198 (wG0)))))
theorem t_X11_act_29 : GoodIn lw_tbl v_X11_act_29 := wGc z365 (wGa te_X11_act_29 (wGa zcX11 (wGa t_X11_reason_29 (wG0))))
set_option maxHeartbeats 4000000 in
set_option maxRecDepth 100000 in
theorem m_X11_act_29 (l : Launch) (G : va_G) (K : Nat → ClassId) (h0 h1 h2 h3 h4 h5 h6 h7 h8 h9 h10 h11 h12 h13 h14 h15 h16 h17 h18 h19 h20 h21 h22 h23 h24 h25 h26 h27 : Nat) (p0 : Int32) (sz : Nat) : Met l yX11_act v_X11_act_29 ({ frames := 1, cells := 0, slots := 0, locals := 25 }) (va_Pc [.ref h0, .int 20, .int p0, .int 0, .int 0, .int 0] (wS G K sz [(h0, .inr (8, [.int 1, .int 0, .int (-1), .int 0, .int 0, .int (-1), .int 0, .int 0, .int 0, .int 0, .int 0, .ref h1, .ref h2, .ref h3, .ref h4, .ref h5, .ref h6, .ref h7, .ref h8, .ref h9, .ref h10, .ref h11, .ref h12, .ref h13, .ref h14, .ref h15, .ref h16, .ref h17, .ref h18, .ref h19, .int 0, .ref h20, .ref h21, .ref h22, .ref h23, .int 0, .int 0, .ref h24, .ref h25, .int (-1), .ref h26, .ref h27]))])) (va_Qi (fun (r : Int32) (u : va_W) => ((-7) = r ∧ u = [(h0, .inr (8, [.int 1, .int 0, .int (-1), .int 0, .int 0, .int (-1), .int 0, .int 0, .int 0, .int 0, .int 7, .ref h1, .ref h2, .ref h3, .ref h4, .ref h5, .ref h6, .ref h7, .ref h8, .ref h9, .ref h10, .ref h11, .ref h12, .ref h13, .ref h14, .ref h15, .ref h16, .ref h17, .ref h18, .ref h19, .int 0, .ref h20, .ref h21, .ref h22, .ref h23, .int 0, .int 0, .ref h24, .ref h25, .int (-1), .ref h26, .ref h27]))])) (wB G (va_A [(h0, .inr (8, [.int 1, .int 0, .int (-1), .int 0, .int 0, .int (-1), .int 0, .int 0, .int 0, .int 0, .int 0, .ref h1, .ref h2, .ref h3, .ref h4, .ref h5, .ref h6, .ref h7, .ref h8, .ref h9, .ref h10, .ref h11, .ref h12, .ref h13, .ref h14, .ref h15, .ref h16, .ref h17, .ref h18, .ref h19, .int 0, .ref h20, .ref h21, .ref h22, .ref h23, .int 0, .int 0, .ref h24, .ref h25, .int (-1), .ref h26, .ref h27]))] sz)) (va_A [(h0, .inr (8, [.int 1, .int 0, .int (-1), .int 0, .int 0, .int (-1), .int 0, .int 0, .int 0, .int 0, .int 0, .ref h1, .ref h2, .ref h3, .ref h4, .ref h5, .ref h6, .ref h7, .ref h8, .ref h9, .ref h10, .ref h11, .ref h12, .ref h13, .ref h14, .ref h15, .ref h16, .ref h17, .ref h18, .ref h19, .int 0, .ref h20, .ref h21, .ref h22, .ref h23, .int 0, .int 0, .ref h24, .ref h25, .int (-1), .ref h26, .ref h27]))] sz)) 0 0 (va_A [(h0, .inr (8, [.int 1, .int 0, .int (-1), .int 0, .int 0, .int (-1), .int 0, .int 0, .int 0, .int 0, .int 0, .ref h1, .ref h2, .ref h3, .ref h4, .ref h5, .ref h6, .ref h7, .ref h8, .ref h9, .ref h10, .ref h11, .ref h12, .ref h13, .ref h14, .ref h15, .ref h16, .ref h17, .ref h18, .ref h19, .int 0, .ref h20, .ref h21, .ref h22, .ref h23, .int 0, .int 0, .ref h24, .ref h25, .int (-1), .ref h26, .ref h27]))] sz) := by
  refine Met.ofW (cc := cX11_act) (maxL := 10) (ret := (some .int)) (by decide) rfl ?_
  intro p e s m args below meth c s₁ B hml hv
  obtain ⟨rfl, hsz, hP, hK, hD0, hE⟩ := hv
  have hx := B.exec
  have hb := B.bytes
  have hr := B.returns
  have hts := atoms_spec (ws := v_X11_act_29) B.pre
  have t_ := t_X11_act_29
  have mw : ∀ w ∈ e_X11_act_29, w ∈ v_X11_act_29 := fun w h => List.mem_cons_of_mem _ (List.mem_append_left _ h)
  have hw := fun w (h : w ∈ e_X11_act_29) => hts w (mw w h)
  have iX11 : ∀ w ∈ wsX110, w ∈ v_X11_act_29 := fun w h => List.mem_cons_of_mem _ (List.mem_append_right _ (List.mem_append_left _ h))
  have j_X11_reason_29 : ∀ w ∈ v_X11_reason_29, w ∈ v_X11_act_29 := fun w h => List.mem_cons_of_mem _ (List.mem_append_right _ (List.mem_append_right _ (List.mem_append_left _ h)))
  have hown : s.vm.findClass RX11 = some m.cls := findClass_of_methodNamed B.named
  have hlocks := B.notSynchronized
  subst hsz
  have hD := hD0.self (sz := s.heap.size)
  generalize hAe : va_A [(h0, .inr (8, [.int 1, .int 0, .int (-1), .int 0, .int 0, .int (-1), .int 0, .int 0, .int 0, .int 0, .int 0, .ref h1, .ref h2, .ref h3, .ref h4, .ref h5, .ref h6, .ref h7, .ref h8, .ref h9, .ref h10, .ref h11, .ref h12, .ref h13, .ref h14, .ref h15, .ref h16, .ref h17, .ref h18, .ref h19, .int 0, .ref h20, .ref h21, .ref h22, .ref h23, .int 0, .int 0, .ref h24, .ref h25, .int (-1), .ref h26, .ref h27]))] s.heap.size = A at hD ⊢
  have hA : ∀ q : Nat, s.heap.size ≤ q → A q := fun q h => by rw [← hAe]; exact Or.inr h
  have hS : va_S A s.heap s.heap [] := va_S.rf
  have hP : va_P G vwCl [(h0, .inr (8, [.int 1, .int 0, .int (-1), .int 0, .int 0, .int (-1), .int 0, .int 0, .int 0, .int 0, .int 0, .ref h1, .ref h2, .ref h3, .ref h4, .ref h5, .ref h6, .ref h7, .ref h8, .ref h9, .ref h10, .ref h11, .ref h12, .ref h13, .ref h14, .ref h15, .ref h16, .ref h17, .ref h18, .ref h19, .int 0, .ref h20, .ref h21, .ref h22, .ref h23, .int 0, .int 0, .ref h24, .ref h25, .int (-1), .ref h26, .ref h27]))] s.heap := hP
  have hl := lv_entry ([.ref h0, .int 20, .int p0, .int 0, .int 0, .int 0]) (n := 10) (Nat.le_of_ble_eq_true rfl)
  rw [lg_entry_eq]
  generalize (lg_sl ([.ref h0, .int 20, .int p0, .int 0, .int 0, .int 0]) ++ List.replicate (10 - (lg_sl ([.ref h0, .int 20, .int p0, .int 0, .int 0, .int 0])).length) Slot.unset).toArray = ls at hl ⊢
  have hl : lv_has ls 10 [(0, .ref h0), (1, .int 20), (2, .int p0), (3, .int 0), (4, .int 0), (5, .int 0)] := hl
  refine lv_aload_n hx hb dX11_act_0 rfl (lv_at hl 0 rfl) ?_
  refine lv_iload_n hx hb dX11_act_1 rfl (lv_at hl 1 rfl) ?_
  refine lv_iload_n hx hb dX11_act_2 rfl (lv_at hl 2 rfl) ?_
  refine lv_iload_n hx hb dX11_act_3 rfl (lv_at hl 3 rfl) ?_
  refine lv_iload hx hb dX11_act_4 (lv_at hl 4 rfl) ?_
  refine lv_iload hx hb dX11_act_6 (lv_at hl 5 rfl) ?_
  have hPc := hP.sub (ws' := [(h0, .inr (8, [.int 1, .int 0, .int (-1), .int 0, .int 0, .int (-1), .int 0, .int 0, .int 0, .int 0, .int 0, .ref h1, .ref h2, .ref h3, .ref h4, .ref h5, .ref h6, .ref h7, .ref h8, .ref h9, .ref h10, .ref h11, .ref h12, .ref h13, .ref h14, .ref h15, .ref h16, .ref h17, .ref h18, .ref h19, .int 0, .ref h20, .ref h21, .ref h22, .ref h23, .int 0, .int 0, .ref h24, .ref h25, .int (-1), .ref h26, .ref h27]))]) [0] rfl
  have hDc := hD.sub (ws' := [(h0, .inr (8, [.int 1, .int 0, .int (-1), .int 0, .int 0, .int (-1), .int 0, .int 0, .int 0, .int 0, .int 0, .ref h1, .ref h2, .ref h3, .ref h4, .ref h5, .ref h6, .ref h7, .ref h8, .ref h9, .ref h10, .ref h11, .ref h12, .ref h13, .ref h14, .ref h15, .ref h16, .ref h17, .ref h18, .ref h19, .int 0, .ref h20, .ref h21, .ref h22, .ref h23, .int 0, .int 0, .ref h24, .ref h25, .int (-1), .ref h26, .ref h27]))]) [0] (by decide) rfl
  refine wGoi (wc := [(h0, .inr (8, [.int 1, .int 0, .int (-1), .int 0, .int 0, .int (-1), .int 0, .int 0, .int 0, .int 0, .int 0, .ref h1, .ref h2, .ref h3, .ref h4, .ref h5, .ref h6, .ref h7, .ref h8, .ref h9, .ref h10, .ref h11, .ref h12, .ref h13, .ref h14, .ref h15, .ref h16, .ref h17, .ref h18, .ref h19, .int 0, .ref h20, .ref h21, .ref h22, .ref h23, .int 0, .int 0, .ref h24, .ref h25, .int (-1), .ref h26, .ref h27]))]) (wr := []) (va_runV (As := [.int 20, .int p0, .int 0, .int 0, .int 0]) (rest := []) ⟨hx, hb, hml, hown, hts⟩ (m_X11_reason_29 l G K h0 h1 h2 h3 h4 h5 h6 h7 h8 h9 h10 h11 h12 h13 h14 h15 h16 h17 h18 h19 h20 h21 h22 h23 h24 h25 h26 h27 p0 _) (cwV 5 hts (wGV t_ (mw (.methodLink RX11 196 yX11_reason) (List.mem_of_getElem? (i := 0) rfl)) (mw (.instanceMethod yX11_reason) (List.mem_of_getElem? (i := 1) rfl)) (mw (.selects RX11 yX11_reason yX11_reason) (List.mem_of_getElem? (i := 2) rfl)) (mw (.initialized RX11) (List.mem_of_getElem? (i := 3) rfl)) j_X11_reason_29) rfl rfl rfl (by decide +kernel) ⟨Nat.le_of_ble_eq_true rfl, Nat.le_of_ble_eq_true rfl⟩) (wPV hK hE hPc hDc 8 0 rfl rfl) rfl rfl hl.1 rfl (lv_room (Nat.le_of_ble_eq_true rfl)) dX11_act_8 ⟨Nat.le_of_ble_eq_true rfl, Nat.le_of_ble_eq_true rfl⟩) hP hD hS hA [0] [] rfl rfl rfl (by decide) (fun r u H locs hw hP hD hS => ?_)
  rcases hw with ⟨rfl, rfl⟩
  have hP : va_P G vwCl [(h0, .inr (8, [.int 1, .int 0, .int (-1), .int 0, .int 0, .int (-1), .int 0, .int 0, .int 0, .int 0, .int 0, .ref h1, .ref h2, .ref h3, .ref h4, .ref h5, .ref h6, .ref h7, .ref h8, .ref h9, .ref h10, .ref h11, .ref h12, .ref h13, .ref h14, .ref h15, .ref h16, .ref h17, .ref h18, .ref h19, .int 0, .ref h20, .ref h21, .ref h22, .ref h23, .int 0, .int 0, .ref h24, .ref h25, .int (-1), .ref h26, .ref h27]))] _ := hP
  have hD : va_D A [(h0, .inr (8, [.int 1, .int 0, .int (-1), .int 0, .int 0, .int (-1), .int 0, .int 0, .int 0, .int 0, .int 0, .ref h1, .ref h2, .ref h3, .ref h4, .ref h5, .ref h6, .ref h7, .ref h8, .ref h9, .ref h10, .ref h11, .ref h12, .ref h13, .ref h14, .ref h15, .ref h16, .ref h17, .ref h18, .ref h19, .int 0, .ref h20, .ref h21, .ref h22, .ref h23, .int 0, .int 0, .ref h24, .ref h25, .int (-1), .ref h26, .ref h27]))] := hD
  refine lv_istore (lv' := [(6, .int 7), (0, .ref h0), (1, .int 20), (2, .int p0), (3, .int 0), (4, .int 0), (5, .int 0)]) hx hb dX11_act_11 hl (by decide) rfl (fun ls hl => ?_)
  refine lv_iload hx hb dX11_act_13 (lv_at hl 0 rfl) ?_
  refine lv_if_ne (tgt := 32) hx hb dX11_act_15 (by decide) (fun _ => ?_) (fun c_ => absurd c_ (by decide))
  refine lv_aload_n hx hb dX11_act_32 rfl (lv_at hl 1 rfl) ?_
  refine lv_iload hx hb dX11_act_33 (lv_at hl 0 rfl) ?_
  refine va_put (D := G) (ci := 8) (v := .int 7) (ty := .int) (C := RX11) (T := TX11) (N := 42) hx hb hts iX11 tyX11 tyX11_ok nmX11 hown hK hP hD hS 0 rfl rfl 10 (by decide) (hw (.fieldLink RX11 127 "MotionFloorModel$Hall" "why" "I") (List.mem_of_getElem? (i := 4) rfl)) (fun _ h9 => h9) rfl (by decide +kernel) rfl rfl (Nat.le_of_ble_eq_true rfl) dX11_act_35 (fun H locs hP hD hS => ?_)
  have hP : va_P G vwCl [(h0, .inr (8, [.int 1, .int 0, .int (-1), .int 0, .int 0, .int (-1), .int 0, .int 0, .int 0, .int 0, .int 7, .ref h1, .ref h2, .ref h3, .ref h4, .ref h5, .ref h6, .ref h7, .ref h8, .ref h9, .ref h10, .ref h11, .ref h12, .ref h13, .ref h14, .ref h15, .ref h16, .ref h17, .ref h18, .ref h19, .int 0, .ref h20, .ref h21, .ref h22, .ref h23, .int 0, .int 0, .ref h24, .ref h25, .int (-1), .ref h26, .ref h27]))] _ := hP
  have hD : va_D A [(h0, .inr (8, [.int 1, .int 0, .int (-1), .int 0, .int 0, .int (-1), .int 0, .int 0, .int 0, .int 0, .int 7, .ref h1, .ref h2, .ref h3, .ref h4, .ref h5, .ref h6, .ref h7, .ref h8, .ref h9, .ref h10, .ref h11, .ref h12, .ref h13, .ref h14, .ref h15, .ref h16, .ref h17, .ref h18, .ref h19, .int 0, .ref h20, .ref h21, .ref h22, .ref h23, .int 0, .int 0, .ref h24, .ref h25, .int (-1), .ref h26, .ref h27]))] := hD
  refine lv_iload hx hb dX11_act_38 (lv_at hl 0 rfl) ?_
  refine lv_if_le (tgt := 47) hx hb dX11_act_40 (by decide) (fun c_ => absurd c_ (by decide)) (fun _ => ?_)
  refine lv_iload hx hb dX11_act_43 (lv_at hl 0 rfl) ?_
  refine lv_ineg hx hb dX11_act_45 ?_
  refine wTop (v1 := .int (-7)) (congrArg Value.int (by decide)) ?_
  have hP9 : va_P G vwCl [(h0, .inr (8, [.int 1, .int 0, .int (-1), .int 0, .int 0, .int (-1), .int 0, .int 0, .int 0, .int 0, .int 7, .ref h1, .ref h2, .ref h3, .ref h4, .ref h5, .ref h6, .ref h7, .ref h8, .ref h9, .ref h10, .ref h11, .ref h12, .ref h13, .ref h14, .ref h15, .ref h16, .ref h17, .ref h18, .ref h19, .int 0, .ref h20, .ref h21, .ref h22, .ref h23, .int 0, .int 0, .ref h24, .ref h25, .int (-1), .ref h26, .ref h27]))] _ := hP
  have hD9 : va_D A [(h0, .inr (8, [.int 1, .int 0, .int (-1), .int 0, .int 0, .int (-1), .int 0, .int 0, .int 0, .int 0, .int 7, .ref h1, .ref h2, .ref h3, .ref h4, .ref h5, .ref h6, .ref h7, .ref h8, .ref h9, .ref h10, .ref h11, .ref h12, .ref h13, .ref h14, .ref h15, .ref h16, .ref h17, .ref h18, .ref h19, .int 0, .ref h20, .ref h21, .ref h22, .ref h23, .int 0, .int 0, .ref h24, .ref h25, .int (-1), .ref h26, .ref h27]))] := hD
  exact W.iret (v := (-7)) hx hb hr (fun t ht hW => ⟨⟨(-7), _, rfl, ⟨rfl, rfl⟩, by rw [ht]; exact hP9, hD9⟩, hS.F ht⟩) hS.2.2 dX11_act_46
def e_X12_appeal_0 : List Cond := [.fieldLink RX12 16 "MotionFloorModel" "hall" "LMotionFloorModel$Hall;", .methodLink RX12 40 yX11_act, .instanceMethod yX11_act, .selects RX11 yX11_act yX11_act, .initialized RX11]
def v_X12_appeal_0 : List Cond := .code yX12_appeal cX12_appeal 2 (some .int) :: (e_X12_appeal_0 ++ (wsX120 ++ (v_X11_act_29 ++ [])))
theorem te_X12_appeal_0 : GoodIn lw_tbl e_X12_appeal_0 := wGc z225 (wGc z368 (wGc z367 (wGc z366 (wGc z227 (wG0)))))
theorem t_X12_appeal_0 : GoodIn lw_tbl v_X12_appeal_0 := wGc z660 (wGa te_X12_appeal_0 (wGa zcX12 (wGa t_X11_act_29 (wG0))))
set_option maxHeartbeats 4000000 in
set_option maxRecDepth 100000 in
theorem m_X12_appeal_0 (l : Launch) (G : va_G) (K : Nat → ClassId) (h0 h1 h2 h3 h4 h5 h6 h7 h8 h9 h10 h11 h12 h13 h14 h15 h16 h17 h18 h19 h20 h21 h22 h23 h24 h25 h26 h27 h28 h29 h30 h31 h32 h33 : Nat) (p0 : Int32) (sz : Nat) : Met l yX12_appeal v_X12_appeal_0 ({ frames := 2, cells := 0, slots := 0, locals := 54 }) (va_Pc [.ref h0, .int p0] (wS G K sz [(h0, .inr (9, [.ref h1, .ref h2, .ref h3, .ref h4, .ref h5, .ref h6, .int 0])), (h1, .inr (8, [.int 1, .int 0, .int (-1), .int 0, .int 0, .int (-1), .int 0, .int 0, .int 0, .int 0, .int 0, .ref h7, .ref h8, .ref h9, .ref h10, .ref h11, .ref h12, .ref h13, .ref h14, .ref h15, .ref h16, .ref h17, .ref h18, .ref h19, .ref h20, .ref h21, .ref h22, .ref h23, .ref h24, .ref h25, .int 0, .ref h26, .ref h27, .ref h28, .ref h29, .int 0, .int 0, .ref h30, .ref h31, .int (-1), .ref h32, .ref h33]))])) (va_Qi (fun (r : Int32) (u : va_W) => ((-7) = r ∧ u = [(h0, .inr (9, [.ref h1, .ref h2, .ref h3, .ref h4, .ref h5, .ref h6, .int 0])), (h1, .inr (8, [.int 1, .int 0, .int (-1), .int 0, .int 0, .int (-1), .int 0, .int 0, .int 0, .int 0, .int 7, .ref h7, .ref h8, .ref h9, .ref h10, .ref h11, .ref h12, .ref h13, .ref h14, .ref h15, .ref h16, .ref h17, .ref h18, .ref h19, .ref h20, .ref h21, .ref h22, .ref h23, .ref h24, .ref h25, .int 0, .ref h26, .ref h27, .ref h28, .ref h29, .int 0, .int 0, .ref h30, .ref h31, .int (-1), .ref h32, .ref h33]))])) (wB G (va_A [(h0, .inr (9, [.ref h1, .ref h2, .ref h3, .ref h4, .ref h5, .ref h6, .int 0])), (h1, .inr (8, [.int 1, .int 0, .int (-1), .int 0, .int 0, .int (-1), .int 0, .int 0, .int 0, .int 0, .int 0, .ref h7, .ref h8, .ref h9, .ref h10, .ref h11, .ref h12, .ref h13, .ref h14, .ref h15, .ref h16, .ref h17, .ref h18, .ref h19, .ref h20, .ref h21, .ref h22, .ref h23, .ref h24, .ref h25, .int 0, .ref h26, .ref h27, .ref h28, .ref h29, .int 0, .int 0, .ref h30, .ref h31, .int (-1), .ref h32, .ref h33]))] sz)) (va_A [(h0, .inr (9, [.ref h1, .ref h2, .ref h3, .ref h4, .ref h5, .ref h6, .int 0])), (h1, .inr (8, [.int 1, .int 0, .int (-1), .int 0, .int 0, .int (-1), .int 0, .int 0, .int 0, .int 0, .int 0, .ref h7, .ref h8, .ref h9, .ref h10, .ref h11, .ref h12, .ref h13, .ref h14, .ref h15, .ref h16, .ref h17, .ref h18, .ref h19, .ref h20, .ref h21, .ref h22, .ref h23, .ref h24, .ref h25, .int 0, .ref h26, .ref h27, .ref h28, .ref h29, .int 0, .int 0, .ref h30, .ref h31, .int (-1), .ref h32, .ref h33]))] sz)) 0 0 (va_A [(h0, .inr (9, [.ref h1, .ref h2, .ref h3, .ref h4, .ref h5, .ref h6, .int 0])), (h1, .inr (8, [.int 1, .int 0, .int (-1), .int 0, .int 0, .int (-1), .int 0, .int 0, .int 0, .int 0, .int 0, .ref h7, .ref h8, .ref h9, .ref h10, .ref h11, .ref h12, .ref h13, .ref h14, .ref h15, .ref h16, .ref h17, .ref h18, .ref h19, .ref h20, .ref h21, .ref h22, .ref h23, .ref h24, .ref h25, .int 0, .ref h26, .ref h27, .ref h28, .ref h29, .int 0, .int 0, .ref h30, .ref h31, .int (-1), .ref h32, .ref h33]))] sz) := by
  refine Met.ofW (cc := cX12_appeal) (maxL := 2) (ret := (some .int)) (by decide) rfl ?_
  intro p e s m args below meth c s₁ B hml hv
  obtain ⟨rfl, hsz, hP, hK, hD0, hE⟩ := hv
  have hx := B.exec
  have hb := B.bytes
  have hr := B.returns
  have hts := atoms_spec (ws := v_X12_appeal_0) B.pre
  have t_ := t_X12_appeal_0
  have mw : ∀ w ∈ e_X12_appeal_0, w ∈ v_X12_appeal_0 := fun w h => List.mem_cons_of_mem _ (List.mem_append_left _ h)
  have hw := fun w (h : w ∈ e_X12_appeal_0) => hts w (mw w h)
  have iX12 : ∀ w ∈ wsX120, w ∈ v_X12_appeal_0 := fun w h => List.mem_cons_of_mem _ (List.mem_append_right _ (List.mem_append_left _ h))
  have j_X11_act_29 : ∀ w ∈ v_X11_act_29, w ∈ v_X12_appeal_0 := fun w h => List.mem_cons_of_mem _ (List.mem_append_right _ (List.mem_append_right _ (List.mem_append_left _ h)))
  have hown : s.vm.findClass RX12 = some m.cls := findClass_of_methodNamed B.named
  have hlocks := B.notSynchronized
  subst hsz
  have hD := hD0.self (sz := s.heap.size)
  generalize hAe : va_A [(h0, .inr (9, [.ref h1, .ref h2, .ref h3, .ref h4, .ref h5, .ref h6, .int 0])), (h1, .inr (8, [.int 1, .int 0, .int (-1), .int 0, .int 0, .int (-1), .int 0, .int 0, .int 0, .int 0, .int 0, .ref h7, .ref h8, .ref h9, .ref h10, .ref h11, .ref h12, .ref h13, .ref h14, .ref h15, .ref h16, .ref h17, .ref h18, .ref h19, .ref h20, .ref h21, .ref h22, .ref h23, .ref h24, .ref h25, .int 0, .ref h26, .ref h27, .ref h28, .ref h29, .int 0, .int 0, .ref h30, .ref h31, .int (-1), .ref h32, .ref h33]))] s.heap.size = A at hD ⊢
  have hA : ∀ q : Nat, s.heap.size ≤ q → A q := fun q h => by rw [← hAe]; exact Or.inr h
  have hS : va_S A s.heap s.heap [] := va_S.rf
  have hP : va_P G vwCl [(h0, .inr (9, [.ref h1, .ref h2, .ref h3, .ref h4, .ref h5, .ref h6, .int 0])), (h1, .inr (8, [.int 1, .int 0, .int (-1), .int 0, .int 0, .int (-1), .int 0, .int 0, .int 0, .int 0, .int 0, .ref h7, .ref h8, .ref h9, .ref h10, .ref h11, .ref h12, .ref h13, .ref h14, .ref h15, .ref h16, .ref h17, .ref h18, .ref h19, .ref h20, .ref h21, .ref h22, .ref h23, .ref h24, .ref h25, .int 0, .ref h26, .ref h27, .ref h28, .ref h29, .int 0, .int 0, .ref h30, .ref h31, .int (-1), .ref h32, .ref h33]))] s.heap := hP
  have hl := lv_entry ([.ref h0, .int p0]) (n := 2) (Nat.le_of_ble_eq_true rfl)
  rw [lg_entry_eq]
  generalize (lg_sl ([.ref h0, .int p0]) ++ List.replicate (2 - (lg_sl ([.ref h0, .int p0])).length) Slot.unset).toArray = ls at hl ⊢
  have hl : lv_has ls 2 [(0, .ref h0), (1, .int p0)] := hl
  refine lv_aload_n hx hb dX12_appeal_0 rfl (lv_at hl 0 rfl) ?_
  refine va_get (D := G) (ci := 9) (v := .ref h1) (C := RX12) (T := TX12) (N := 7) hx hb hts iX12 hown hK hP 0 rfl rfl 0 (by decide) (hw (.fieldLink RX12 16 "MotionFloorModel" "hall" "LMotionFloorModel$Hall;") (List.mem_of_getElem? (i := 0) rfl)) (fun _ h9 => h9) rfl dX12_appeal_1 ?_
  refine lv_bipush (v := 20) hx hb dX12_appeal_4 (by decide) ?_
  refine lv_iload_n hx hb dX12_appeal_6 rfl (lv_at hl 1 rfl) ?_
  refine lv_iconst (v := 0) hx hb dX12_appeal_7 (by decide) ?_
  refine lv_iconst (v := 0) hx hb dX12_appeal_8 (by decide) ?_
  refine lv_iconst (v := 0) hx hb dX12_appeal_9 (by decide) ?_
  have hPc := hP.sub (ws' := [(h1, .inr (8, [.int 1, .int 0, .int (-1), .int 0, .int 0, .int (-1), .int 0, .int 0, .int 0, .int 0, .int 0, .ref h7, .ref h8, .ref h9, .ref h10, .ref h11, .ref h12, .ref h13, .ref h14, .ref h15, .ref h16, .ref h17, .ref h18, .ref h19, .ref h20, .ref h21, .ref h22, .ref h23, .ref h24, .ref h25, .int 0, .ref h26, .ref h27, .ref h28, .ref h29, .int 0, .int 0, .ref h30, .ref h31, .int (-1), .ref h32, .ref h33]))]) [1] rfl
  have hDc := hD.sub (ws' := [(h1, .inr (8, [.int 1, .int 0, .int (-1), .int 0, .int 0, .int (-1), .int 0, .int 0, .int 0, .int 0, .int 0, .ref h7, .ref h8, .ref h9, .ref h10, .ref h11, .ref h12, .ref h13, .ref h14, .ref h15, .ref h16, .ref h17, .ref h18, .ref h19, .ref h20, .ref h21, .ref h22, .ref h23, .ref h24, .ref h25, .int 0, .ref h26, .ref h27, .ref h28, .ref h29, .int 0, .int 0, .ref h30, .ref h31, .int (-1), .ref h32, .ref h33]))]) [1] (by decide) rfl
  refine wGoi (wc := [(h1, .inr (8, [.int 1, .int 0, .int (-1), .int 0, .int 0, .int (-1), .int 0, .int 0, .int 0, .int 0, .int 0, .ref h7, .ref h8, .ref h9, .ref h10, .ref h11, .ref h12, .ref h13, .ref h14, .ref h15, .ref h16, .ref h17, .ref h18, .ref h19, .ref h20, .ref h21, .ref h22, .ref h23, .ref h24, .ref h25, .int 0, .ref h26, .ref h27, .ref h28, .ref h29, .int 0, .int 0, .ref h30, .ref h31, .int (-1), .ref h32, .ref h33]))]) (wr := [(h0, .inr (9, [.ref h1, .ref h2, .ref h3, .ref h4, .ref h5, .ref h6, .int 0]))]) (va_runV (As := [.int 20, .int p0, .int 0, .int 0, .int 0]) (rest := []) ⟨hx, hb, hml, hown, hts⟩ (m_X11_act_29 l G K h1 h7 h8 h9 h10 h11 h12 h13 h14 h15 h16 h17 h18 h19 h20 h21 h22 h23 h24 h25 h26 h27 h28 h29 h30 h31 h32 h33 p0 _) (cwV 5 hts (wGV t_ (mw (.methodLink RX12 40 yX11_act) (List.mem_of_getElem? (i := 1) rfl)) (mw (.instanceMethod yX11_act) (List.mem_of_getElem? (i := 2) rfl)) (mw (.selects RX11 yX11_act yX11_act) (List.mem_of_getElem? (i := 3) rfl)) (mw (.initialized RX11) (List.mem_of_getElem? (i := 4) rfl)) j_X11_act_29) rfl rfl rfl (by decide +kernel) ⟨Nat.le_of_ble_eq_true rfl, Nat.le_of_ble_eq_true rfl⟩) (wPV hK hE hPc hDc 8 0 rfl rfl) rfl rfl hl.1 rfl (lv_room (Nat.le_of_ble_eq_true rfl)) dX12_appeal_10 ⟨Nat.le_of_ble_eq_true rfl, Nat.le_of_ble_eq_true rfl⟩) hP hD hS hA [1] [0] rfl rfl rfl (by decide) (fun r u H locs hw hP hD hS => ?_)
  rcases hw with ⟨rfl, rfl⟩
  have hP : va_P G vwCl [(h0, .inr (9, [.ref h1, .ref h2, .ref h3, .ref h4, .ref h5, .ref h6, .int 0])), (h1, .inr (8, [.int 1, .int 0, .int (-1), .int 0, .int 0, .int (-1), .int 0, .int 0, .int 0, .int 0, .int 7, .ref h7, .ref h8, .ref h9, .ref h10, .ref h11, .ref h12, .ref h13, .ref h14, .ref h15, .ref h16, .ref h17, .ref h18, .ref h19, .ref h20, .ref h21, .ref h22, .ref h23, .ref h24, .ref h25, .int 0, .ref h26, .ref h27, .ref h28, .ref h29, .int 0, .int 0, .ref h30, .ref h31, .int (-1), .ref h32, .ref h33]))] _ := hP
  have hD : va_D A [(h0, .inr (9, [.ref h1, .ref h2, .ref h3, .ref h4, .ref h5, .ref h6, .int 0])), (h1, .inr (8, [.int 1, .int 0, .int (-1), .int 0, .int 0, .int (-1), .int 0, .int 0, .int 0, .int 0, .int 7, .ref h7, .ref h8, .ref h9, .ref h10, .ref h11, .ref h12, .ref h13, .ref h14, .ref h15, .ref h16, .ref h17, .ref h18, .ref h19, .ref h20, .ref h21, .ref h22, .ref h23, .ref h24, .ref h25, .int 0, .ref h26, .ref h27, .ref h28, .ref h29, .int 0, .int 0, .ref h30, .ref h31, .int (-1), .ref h32, .ref h33]))] := hD
  have hP9 : va_P G vwCl [(h0, .inr (9, [.ref h1, .ref h2, .ref h3, .ref h4, .ref h5, .ref h6, .int 0])), (h1, .inr (8, [.int 1, .int 0, .int (-1), .int 0, .int 0, .int (-1), .int 0, .int 0, .int 0, .int 0, .int 7, .ref h7, .ref h8, .ref h9, .ref h10, .ref h11, .ref h12, .ref h13, .ref h14, .ref h15, .ref h16, .ref h17, .ref h18, .ref h19, .ref h20, .ref h21, .ref h22, .ref h23, .ref h24, .ref h25, .int 0, .ref h26, .ref h27, .ref h28, .ref h29, .int 0, .int 0, .ref h30, .ref h31, .int (-1), .ref h32, .ref h33]))] _ := hP
  have hD9 : va_D A [(h0, .inr (9, [.ref h1, .ref h2, .ref h3, .ref h4, .ref h5, .ref h6, .int 0])), (h1, .inr (8, [.int 1, .int 0, .int (-1), .int 0, .int 0, .int (-1), .int 0, .int 0, .int 0, .int 0, .int 7, .ref h7, .ref h8, .ref h9, .ref h10, .ref h11, .ref h12, .ref h13, .ref h14, .ref h15, .ref h16, .ref h17, .ref h18, .ref h19, .ref h20, .ref h21, .ref h22, .ref h23, .ref h24, .ref h25, .int 0, .ref h26, .ref h27, .ref h28, .ref h29, .int 0, .int 0, .ref h30, .ref h31, .int (-1), .ref h32, .ref h33]))] := hD
  exact W.iret (v := (-7)) hx hb hr (fun t ht hW => ⟨⟨(-7), _, rfl, ⟨rfl, rfl⟩, by rw [ht]; exact hP9, hD9⟩, hS.F ht⟩) hS.2.2 dX12_appeal_13
def e_X8_againstOnMotion_6 : List Cond := [.fieldLink RX8 34 "MotionFloor$Assembly" "house" "LMotionFloor$House;", .fieldLink RX8 79 "MotionFloor$House" "chair" "I", .methodLink RX8 82 yX2_isThere, .instanceMethod yX2_isThere, .selects RX2 yX2_isThere yX2_isThere, .initialized RX2]
def v_X8_againstOnMotion_6 : List Cond := .code yX8_againstOnMotion cX8_againstOnMotion 6 (some .int) :: (e_X8_againstOnMotion_6 ++ (wsX00 ++ (wsX20 ++ (v_X2_isThere_1 ++ []))))
theorem te_X8_againstOnMotion_6 : GoodIn lw_tbl e_X8_againstOnMotion_6 := wGc z300 (wGc z622 (wGc z292 (wGc z291 (wGc z290 (wGc z57 (wG0))))))
theorem t_X8_againstOnMotion_6 : GoodIn lw_tbl v_X8_againstOnMotion_6 := wGc z607 (wGa te_X8_againstOnMotion_6 (wGa zcX0 (wGa zcX2 (wGa t_X2_isThere_1 (wG0)))))
set_option maxHeartbeats 4000000 in
set_option maxRecDepth 100000 in
theorem m_X8_againstOnMotion_6 (l : Launch) (G : va_G) (K : Nat → ClassId) (h0 h1 h2 h3 h4 h5 h6 h7 h8 h9 : Nat) (sz : Nat) : Met l yX8_againstOnMotion v_X8_againstOnMotion_6 ({ frames := 1, cells := 0, slots := 0, locals := 21 }) (va_Pc [.ref h0, .int 21, .int 0, .int 0] (wS G K sz [(h0, .inr (0, [.ref h1, .ref h2, .ref h3, .ref h4, .ref h5, .ref h6, .ref h7, .int 0, .int 0, .int 0, .null])), (h1, .inr (1, [.int 1, .ref h8, .int 0, .int (-1), .int 0, .int 0, .int (-1), .ref h9]))])) (va_Qi (fun (r : Int32) (u : va_W) => (8 = r ∧ u = [(h0, .inr (0, [.ref h1, .ref h2, .ref h3, .ref h4, .ref h5, .ref h6, .ref h7, .int 0, .int 0, .int 0, .null])), (h1, .inr (1, [.int 1, .ref h8, .int 0, .int (-1), .int 0, .int 0, .int (-1), .ref h9]))])) (wB G (va_A [(h0, .inr (0, [.ref h1, .ref h2, .ref h3, .ref h4, .ref h5, .ref h6, .ref h7, .int 0, .int 0, .int 0, .null])), (h1, .inr (1, [.int 1, .ref h8, .int 0, .int (-1), .int 0, .int 0, .int (-1), .ref h9]))] sz)) (va_A [(h0, .inr (0, [.ref h1, .ref h2, .ref h3, .ref h4, .ref h5, .ref h6, .ref h7, .int 0, .int 0, .int 0, .null])), (h1, .inr (1, [.int 1, .ref h8, .int 0, .int (-1), .int 0, .int 0, .int (-1), .ref h9]))] sz)) 0 0 (va_A [(h0, .inr (0, [.ref h1, .ref h2, .ref h3, .ref h4, .ref h5, .ref h6, .ref h7, .int 0, .int 0, .int 0, .null])), (h1, .inr (1, [.int 1, .ref h8, .int 0, .int (-1), .int 0, .int 0, .int (-1), .ref h9]))] sz) := by
  refine Met.ofW (cc := cX8_againstOnMotion) (maxL := 6) (ret := (some .int)) (by decide) rfl ?_
  intro p e s m args below meth c s₁ B hml hv
  obtain ⟨rfl, hsz, hP, hK, hD0, hE⟩ := hv
  have hx := B.exec
  have hb := B.bytes
  have hr := B.returns
  have hts := atoms_spec (ws := v_X8_againstOnMotion_6) B.pre
  have t_ := t_X8_againstOnMotion_6
  have mw : ∀ w ∈ e_X8_againstOnMotion_6, w ∈ v_X8_againstOnMotion_6 := fun w h => List.mem_cons_of_mem _ (List.mem_append_left _ h)
  have hw := fun w (h : w ∈ e_X8_againstOnMotion_6) => hts w (mw w h)
  have iX0 : ∀ w ∈ wsX00, w ∈ v_X8_againstOnMotion_6 := fun w h => List.mem_cons_of_mem _ (List.mem_append_right _ (List.mem_append_left _ h))
  have iX2 : ∀ w ∈ wsX20, w ∈ v_X8_againstOnMotion_6 := fun w h => List.mem_cons_of_mem _ (List.mem_append_right _ (List.mem_append_right _ (List.mem_append_left _ h)))
  have j_X2_isThere_1 : ∀ w ∈ v_X2_isThere_1, w ∈ v_X8_againstOnMotion_6 := fun w h => List.mem_cons_of_mem _ (List.mem_append_right _ (List.mem_append_right _ (List.mem_append_right _ (List.mem_append_left _ h))))
  have hown : s.vm.findClass RX8 = some m.cls := findClass_of_methodNamed B.named
  have hlocks := B.notSynchronized
  subst hsz
  have hD := hD0.self (sz := s.heap.size)
  generalize hAe : va_A [(h0, .inr (0, [.ref h1, .ref h2, .ref h3, .ref h4, .ref h5, .ref h6, .ref h7, .int 0, .int 0, .int 0, .null])), (h1, .inr (1, [.int 1, .ref h8, .int 0, .int (-1), .int 0, .int 0, .int (-1), .ref h9]))] s.heap.size = A at hD ⊢
  have hA : ∀ q : Nat, s.heap.size ≤ q → A q := fun q h => by rw [← hAe]; exact Or.inr h
  have hS : va_S A s.heap s.heap [] := va_S.rf
  have hP : va_P G vwCl [(h0, .inr (0, [.ref h1, .ref h2, .ref h3, .ref h4, .ref h5, .ref h6, .ref h7, .int 0, .int 0, .int 0, .null])), (h1, .inr (1, [.int 1, .ref h8, .int 0, .int (-1), .int 0, .int 0, .int (-1), .ref h9]))] s.heap := hP
  have hl := lv_entry ([.ref h0, .int 21, .int 0, .int 0]) (n := 6) (Nat.le_of_ble_eq_true rfl)
  rw [lg_entry_eq]
  generalize (lg_sl ([.ref h0, .int 21, .int 0, .int 0]) ++ List.replicate (6 - (lg_sl ([.ref h0, .int 21, .int 0, .int 0])).length) Slot.unset).toArray = ls at hl ⊢
  have hl : lv_has ls 6 [(0, .ref h0), (1, .int 21), (2, .int 0), (3, .int 0)] := hl
  refine lv_iload_n hx hb dX8_againstOnMotion_0 rfl (lv_at hl 1 rfl) ?_
  refine lv_bipush (v := 15) hx hb dX8_againstOnMotion_1 (by decide) ?_
  refine lv_icmp_ne (tgt := 12) hx hb dX8_againstOnMotion_3 (by decide) (fun _ => ?_) (fun c_ => absurd c_ (by decide))
  refine lv_aload_n hx hb dX8_againstOnMotion_12 rfl (lv_at hl 0 rfl) ?_
  refine va_get (D := G) (ci := 0) (v := .ref h1) (C := RX0) (T := TX0) (N := 11) hx hb hts iX0 hown hK hP 0 rfl rfl 0 (by decide) (hw (.fieldLink RX8 34 "MotionFloor$Assembly" "house" "LMotionFloor$House;") (List.mem_of_getElem? (i := 0) rfl)) (fun _ h9 => h9) rfl dX8_againstOnMotion_13 ?_
  refine lv_aload_n hx hb dX8_againstOnMotion_16 rfl (lv_at hl 0 rfl) ?_
  refine va_get (D := G) (ci := 0) (v := .ref h1) (C := RX0) (T := TX0) (N := 11) hx hb hts iX0 hown hK hP 0 rfl rfl 0 (by decide) (hw (.fieldLink RX8 34 "MotionFloor$Assembly" "house" "LMotionFloor$House;") (List.mem_of_getElem? (i := 0) rfl)) (fun _ h9 => h9) rfl dX8_againstOnMotion_17 ?_
  refine va_get (D := G) (ci := 1) (v := .int (-1)) (C := RX2) (T := TX2) (N := 8) hx hb hts iX2 hown hK hP 1 rfl rfl 3 (by decide) (hw (.fieldLink RX8 79 "MotionFloor$House" "chair" "I") (List.mem_of_getElem? (i := 1) rfl)) (fun _ h9 => h9) rfl dX8_againstOnMotion_20 ?_
  have hPc := hP.sub (ws' := [(h1, .inr (1, [.int 1, .ref h8, .int 0, .int (-1), .int 0, .int 0, .int (-1), .ref h9]))]) [1] rfl
  have hDc := hD.sub (ws' := [(h1, .inr (1, [.int 1, .ref h8, .int 0, .int (-1), .int 0, .int 0, .int (-1), .ref h9]))]) [1] (by decide) rfl
  refine wGoi (wc := [(h1, .inr (1, [.int 1, .ref h8, .int 0, .int (-1), .int 0, .int 0, .int (-1), .ref h9]))]) (wr := [(h0, .inr (0, [.ref h1, .ref h2, .ref h3, .ref h4, .ref h5, .ref h6, .ref h7, .int 0, .int 0, .int 0, .null]))]) (va_runV (As := [.int (-1)]) (rest := []) ⟨hx, hb, hml, hown, hts⟩ (m_X2_isThere_1 l G K h1 h8 h9 _) (cwV 1 hts (wGV t_ (mw (.methodLink RX8 82 yX2_isThere) (List.mem_of_getElem? (i := 2) rfl)) (mw (.instanceMethod yX2_isThere) (List.mem_of_getElem? (i := 3) rfl)) (mw (.selects RX2 yX2_isThere yX2_isThere) (List.mem_of_getElem? (i := 4) rfl)) (mw (.initialized RX2) (List.mem_of_getElem? (i := 5) rfl)) j_X2_isThere_1) rfl rfl rfl (by decide +kernel) ⟨Nat.le_of_ble_eq_true rfl, Nat.le_of_ble_eq_true rfl⟩) (wPV hK hE hPc hDc 1 0 rfl rfl) rfl rfl hl.1 rfl (lv_room (Nat.le_of_ble_eq_true rfl)) dX8_againstOnMotion_23 ⟨Nat.le_of_ble_eq_true rfl, Nat.le_of_ble_eq_true rfl⟩) hP hD hS hA [1] [0] rfl rfl rfl (by decide) (fun r u H locs hw hP hD hS => ?_)
  rcases hw with ⟨rfl, rfl⟩
  have hP : va_P G vwCl [(h0, .inr (0, [.ref h1, .ref h2, .ref h3, .ref h4, .ref h5, .ref h6, .ref h7, .int 0, .int 0, .int 0, .null])), (h1, .inr (1, [.int 1, .ref h8, .int 0, .int (-1), .int 0, .int 0, .int (-1), .ref h9]))] _ := hP
  have hD : va_D A [(h0, .inr (0, [.ref h1, .ref h2, .ref h3, .ref h4, .ref h5, .ref h6, .ref h7, .int 0, .int 0, .int 0, .null])), (h1, .inr (1, [.int 1, .ref h8, .int 0, .int (-1), .int 0, .int 0, .int (-1), .ref h9]))] := hD
  refine lv_istore (lv' := [(4, .int 0), (0, .ref h0), (1, .int 21), (2, .int 0), (3, .int 0)]) hx hb dX8_againstOnMotion_26 hl (by decide) rfl (fun ls hl => ?_)
  refine lv_iload_n hx hb dX8_againstOnMotion_28 rfl (lv_at hl 2 rfl) ?_
  refine lv_bipush (v := 22) hx hb dX8_againstOnMotion_29 (by decide) ?_
  refine lv_icmp_ne (tgt := 46) hx hb dX8_againstOnMotion_31 (by decide) (fun _ => ?_) (fun c_ => absurd c_ (by decide))
  refine lv_iload_n hx hb dX8_againstOnMotion_46 rfl (lv_at hl 2 rfl) ?_
  refine lv_bipush (v := 19) hx hb dX8_againstOnMotion_47 (by decide) ?_
  refine lv_icmp_eq (tgt := 58) hx hb dX8_againstOnMotion_49 (by decide) (fun c_ => absurd c_ (by decide)) (fun _ => ?_)
  refine lv_iload_n hx hb dX8_againstOnMotion_52 rfl (lv_at hl 2 rfl) ?_
  refine lv_bipush (v := 21) hx hb dX8_againstOnMotion_53 (by decide) ?_
  refine lv_icmp_ne (tgt := 66) hx hb dX8_againstOnMotion_55 (by decide) (fun c_ => absurd c_ (by decide)) (fun _ => ?_)
  refine lv_iload hx hb dX8_againstOnMotion_58 (lv_at hl 0 rfl) ?_
  refine lv_if_ne (tgt := 66) hx hb dX8_againstOnMotion_60 (by decide) (fun c_ => absurd c_ (by decide)) (fun _ => ?_)
  refine lv_bipush (v := 8) hx hb dX8_againstOnMotion_63 (by decide) ?_
  have hP9 : va_P G vwCl [(h0, .inr (0, [.ref h1, .ref h2, .ref h3, .ref h4, .ref h5, .ref h6, .ref h7, .int 0, .int 0, .int 0, .null])), (h1, .inr (1, [.int 1, .ref h8, .int 0, .int (-1), .int 0, .int 0, .int (-1), .ref h9]))] _ := hP
  have hD9 : va_D A [(h0, .inr (0, [.ref h1, .ref h2, .ref h3, .ref h4, .ref h5, .ref h6, .ref h7, .int 0, .int 0, .int 0, .null])), (h1, .inr (1, [.int 1, .ref h8, .int 0, .int (-1), .int 0, .int 0, .int (-1), .ref h9]))] := hD
  exact W.iret (v := 8) hx hb hr (fun t ht hW => ⟨⟨8, _, rfl, ⟨rfl, rfl⟩, by rw [ht]; exact hP9, hD9⟩, hS.F ht⟩) hS.2.2 dX8_againstOnMotion_65
def e_X8_against_20 : List Cond := [.methodLink RX8 19 yX8_againstOnMotion, .static yX8_againstOnMotion, .initialized RX8]
def v_X8_against_20 : List Cond := .code yX8_against cX8_against 7 (some .int) :: (e_X8_against_20 ++ (v_X8_againstOnMotion_6 ++ []))
theorem te_X8_against_20 : GoodIn lw_tbl e_X8_against_20 := wGc z609 (wGc z608 (wGc z297 (wG0)))
theorem t_X8_against_20 : GoodIn lw_tbl v_X8_against_20 := wGc z310 (wGa te_X8_against_20 (wGa t_X8_againstOnMotion_6 (wG0)))
set_option maxHeartbeats 4000000 in
set_option maxRecDepth 100000 in
theorem m_X8_against_20 (l : Launch) (G : va_G) (K : Nat → ClassId) (h0 h1 h2 h3 h4 h5 h6 h7 h8 h9 : Nat) (sz : Nat) : Met l yX8_against v_X8_against_20 ({ frames := 2, cells := 0, slots := 0, locals := 46 }) (va_Pc [.ref h0, .int 21, .int 0, .int 0, .int 0, .int 0] (wS G K sz [(h0, .inr (0, [.ref h1, .ref h2, .ref h3, .ref h4, .ref h5, .ref h6, .ref h7, .int 0, .int 0, .int 0, .null])), (h1, .inr (1, [.int 1, .ref h8, .int 0, .int (-1), .int 0, .int 0, .int (-1), .ref h9]))])) (va_Qi (fun (r : Int32) (u : va_W) => (8 = r ∧ u = [(h0, .inr (0, [.ref h1, .ref h2, .ref h3, .ref h4, .ref h5, .ref h6, .ref h7, .int 0, .int 0, .int 0, .null])), (h1, .inr (1, [.int 1, .ref h8, .int 0, .int (-1), .int 0, .int 0, .int (-1), .ref h9]))])) (wB G (va_A [(h0, .inr (0, [.ref h1, .ref h2, .ref h3, .ref h4, .ref h5, .ref h6, .ref h7, .int 0, .int 0, .int 0, .null])), (h1, .inr (1, [.int 1, .ref h8, .int 0, .int (-1), .int 0, .int 0, .int (-1), .ref h9]))] sz)) (va_A [(h0, .inr (0, [.ref h1, .ref h2, .ref h3, .ref h4, .ref h5, .ref h6, .ref h7, .int 0, .int 0, .int 0, .null])), (h1, .inr (1, [.int 1, .ref h8, .int 0, .int (-1), .int 0, .int 0, .int (-1), .ref h9]))] sz)) 0 0 (va_A [(h0, .inr (0, [.ref h1, .ref h2, .ref h3, .ref h4, .ref h5, .ref h6, .ref h7, .int 0, .int 0, .int 0, .null])), (h1, .inr (1, [.int 1, .ref h8, .int 0, .int (-1), .int 0, .int 0, .int (-1), .ref h9]))] sz) := by
  refine Met.ofW (cc := cX8_against) (maxL := 7) (ret := (some .int)) (by decide) rfl ?_
  intro p e s m args below meth c s₁ B hml hv
  obtain ⟨rfl, hsz, hP, hK, hD0, hE⟩ := hv
  have hx := B.exec
  have hb := B.bytes
  have hr := B.returns
  have hts := atoms_spec (ws := v_X8_against_20) B.pre
  have t_ := t_X8_against_20
  have mw : ∀ w ∈ e_X8_against_20, w ∈ v_X8_against_20 := fun w h => List.mem_cons_of_mem _ (List.mem_append_left _ h)
  have hw := fun w (h : w ∈ e_X8_against_20) => hts w (mw w h)
  have j_X8_againstOnMotion_6 : ∀ w ∈ v_X8_againstOnMotion_6, w ∈ v_X8_against_20 := fun w h => List.mem_cons_of_mem _ (List.mem_append_right _ (List.mem_append_left _ h))
  have hown : s.vm.findClass RX8 = some m.cls := findClass_of_methodNamed B.named
  have hlocks := B.notSynchronized
  subst hsz
  have hD := hD0.self (sz := s.heap.size)
  generalize hAe : va_A [(h0, .inr (0, [.ref h1, .ref h2, .ref h3, .ref h4, .ref h5, .ref h6, .ref h7, .int 0, .int 0, .int 0, .null])), (h1, .inr (1, [.int 1, .ref h8, .int 0, .int (-1), .int 0, .int 0, .int (-1), .ref h9]))] s.heap.size = A at hD ⊢
  have hA : ∀ q : Nat, s.heap.size ≤ q → A q := fun q h => by rw [← hAe]; exact Or.inr h
  have hS : va_S A s.heap s.heap [] := va_S.rf
  have hP : va_P G vwCl [(h0, .inr (0, [.ref h1, .ref h2, .ref h3, .ref h4, .ref h5, .ref h6, .ref h7, .int 0, .int 0, .int 0, .null])), (h1, .inr (1, [.int 1, .ref h8, .int 0, .int (-1), .int 0, .int 0, .int (-1), .ref h9]))] s.heap := hP
  have hl := lv_entry ([.ref h0, .int 21, .int 0, .int 0, .int 0, .int 0]) (n := 7) (Nat.le_of_ble_eq_true rfl)
  rw [lg_entry_eq]
  generalize (lg_sl ([.ref h0, .int 21, .int 0, .int 0, .int 0, .int 0]) ++ List.replicate (7 - (lg_sl ([.ref h0, .int 21, .int 0, .int 0, .int 0, .int 0])).length) Slot.unset).toArray = ls at hl ⊢
  have hl : lv_has ls 7 [(0, .ref h0), (1, .int 21), (2, .int 0), (3, .int 0), (4, .int 0), (5, .int 0)] := hl
  refine lv_iload_n hx hb dX8_against_0 rfl (lv_at hl 1 rfl) ?_
  refine lv_bipush (v := 9) hx hb dX8_against_1 (by decide) ?_
  refine lv_icmp_gt (tgt := 18) hx hb dX8_against_3 (by decide) (fun _ => ?_) (fun c_ => absurd c_ (by decide))
  refine lv_iload_n hx hb dX8_against_18 rfl (lv_at hl 1 rfl) ?_
  refine lv_bipush (v := 14) hx hb dX8_against_19 (by decide) ?_
  refine lv_icmp_gt (tgt := 40) hx hb dX8_against_21 (by decide) (fun _ => ?_) (fun c_ => absurd c_ (by decide))
  refine lv_aload_n hx hb dX8_against_40 rfl (lv_at hl 0 rfl) ?_
  refine lv_iload_n hx hb dX8_against_41 rfl (lv_at hl 1 rfl) ?_
  refine lv_iload_n hx hb dX8_against_42 rfl (lv_at hl 2 rfl) ?_
  refine lv_iload_n hx hb dX8_against_43 rfl (lv_at hl 3 rfl) ?_
  have hPc := hP.sub (ws' := [(h0, .inr (0, [.ref h1, .ref h2, .ref h3, .ref h4, .ref h5, .ref h6, .ref h7, .int 0, .int 0, .int 0, .null])), (h1, .inr (1, [.int 1, .ref h8, .int 0, .int (-1), .int 0, .int 0, .int (-1), .ref h9]))]) [0, 1] rfl
  have hDc := hD.sub (ws' := [(h0, .inr (0, [.ref h1, .ref h2, .ref h3, .ref h4, .ref h5, .ref h6, .ref h7, .int 0, .int 0, .int 0, .null])), (h1, .inr (1, [.int 1, .ref h8, .int 0, .int (-1), .int 0, .int 0, .int (-1), .ref h9]))]) [0, 1] (by decide) rfl
  refine wGoi (wc := [(h0, .inr (0, [.ref h1, .ref h2, .ref h3, .ref h4, .ref h5, .ref h6, .ref h7, .int 0, .int 0, .int 0, .null])), (h1, .inr (1, [.int 1, .ref h8, .int 0, .int (-1), .int 0, .int 0, .int (-1), .ref h9]))]) (wr := []) (va_runS (As := [.ref h0, .int 21, .int 0, .int 0]) (rest := []) ⟨hx, hb, hml, hown, hts⟩ (m_X8_againstOnMotion_6 l G K h0 h1 h2 h3 h4 h5 h6 h7 h8 h9 _) (va_cwS 4 hts (wGS t_ (mw (.methodLink RX8 19 yX8_againstOnMotion) (List.mem_of_getElem? (i := 0) rfl)) (mw (.static yX8_againstOnMotion) (List.mem_of_getElem? (i := 1) rfl)) (mw (.initialized RX8) (List.mem_of_getElem? (i := 2) rfl)) j_X8_againstOnMotion_6) rfl rfl rfl (by decide +kernel) ⟨Nat.le_of_ble_eq_true rfl, Nat.le_of_ble_eq_true rfl⟩) (wPS hK hE hPc hDc) rfl rfl hl.1 rfl (lv_room (Nat.le_of_ble_eq_true rfl)) dX8_against_44 ⟨Nat.le_of_ble_eq_true rfl, Nat.le_of_ble_eq_true rfl⟩) hP hD hS hA [0, 1] [] rfl rfl rfl (by decide) (fun r u H locs hw hP hD hS => ?_)
  rcases hw with ⟨rfl, rfl⟩
  have hP : va_P G vwCl [(h0, .inr (0, [.ref h1, .ref h2, .ref h3, .ref h4, .ref h5, .ref h6, .ref h7, .int 0, .int 0, .int 0, .null])), (h1, .inr (1, [.int 1, .ref h8, .int 0, .int (-1), .int 0, .int 0, .int (-1), .ref h9]))] _ := hP
  have hD : va_D A [(h0, .inr (0, [.ref h1, .ref h2, .ref h3, .ref h4, .ref h5, .ref h6, .ref h7, .int 0, .int 0, .int 0, .null])), (h1, .inr (1, [.int 1, .ref h8, .int 0, .int (-1), .int 0, .int 0, .int (-1), .ref h9]))] := hD
  refine lv_istore (lv' := [(6, .int 8), (0, .ref h0), (1, .int 21), (2, .int 0), (3, .int 0), (4, .int 0), (5, .int 0)]) hx hb dX8_against_47 hl (by decide) rfl (fun ls hl => ?_)
  refine lv_iload hx hb dX8_against_49 (lv_at hl 0 rfl) ?_
  refine lv_if_ne (tgt := 69) hx hb dX8_against_51 (by decide) (fun _ => ?_) (fun c_ => absurd c_ (by decide))
  refine lv_iload hx hb dX8_against_69 (lv_at hl 0 rfl) ?_
  have hP9 : va_P G vwCl [(h0, .inr (0, [.ref h1, .ref h2, .ref h3, .ref h4, .ref h5, .ref h6, .ref h7, .int 0, .int 0, .int 0, .null])), (h1, .inr (1, [.int 1, .ref h8, .int 0, .int (-1), .int 0, .int 0, .int (-1), .ref h9]))] _ := hP
  have hD9 : va_D A [(h0, .inr (0, [.ref h1, .ref h2, .ref h3, .ref h4, .ref h5, .ref h6, .ref h7, .int 0, .int 0, .int 0, .null])), (h1, .inr (1, [.int 1, .ref h8, .int 0, .int (-1), .int 0, .int 0, .int (-1), .ref h9]))] := hD
  exact W.iret (v := 8) hx hb hr (fun t ht hW => ⟨⟨8, _, rfl, ⟨rfl, rfl⟩, by rw [ht]; exact hP9, hD9⟩, hS.F ht⟩) hS.2.2 dX8_against_71
def e_X0_enact_20 : List Cond := [.methodLink RX0 155 yX8_against, .static yX8_against, .initialized RX8, .fieldLink RX0 73 "MotionFloor$Assembly" "reason" "I"]
def v_X0_enact_20 : List Cond := .code yX0_enact cX0_enact 7 (some .int) :: (e_X0_enact_20 ++ (wsX00 ++ (v_X8_against_20 ++ [])))
theorem te_X0_enact_20 : GoodIn lw_tbl e_X0_enact_20 := wGc z345 (wGc z344 (wGc z297 (wGc z263 (wG0))))
theorem t_X0_enact_20 : GoodIn lw_tbl v_X0_enact_20 := wGc z346 (wGa te_X0_enact_20 (wGa zcX0 (wGa t_X8_against_20 (wG0))))
set_option maxHeartbeats 4000000 in
set_option maxRecDepth 100000 in
theorem m_X0_enact_20 (l : Launch) (G : va_G) (K : Nat → ClassId) (h0 h1 h2 h3 h4 h5 h6 h7 h8 h9 : Nat) (sz : Nat) : Met l yX0_enact v_X0_enact_20 ({ frames := 3, cells := 0, slots := 0, locals := 72 }) (va_Pc [.ref h0, .int 21, .int 0, .int 0, .int 0, .int 0] (wS G K sz [(h0, .inr (0, [.ref h1, .ref h2, .ref h3, .ref h4, .ref h5, .ref h6, .ref h7, .int 0, .int 0, .int 0, .null])), (h1, .inr (1, [.int 1, .ref h8, .int 0, .int (-1), .int 0, .int 0, .int (-1), .ref h9]))])) (va_Qi (fun (r : Int32) (u : va_W) => ((-8) = r ∧ u = [(h0, .inr (0, [.ref h1, .ref h2, .ref h3, .ref h4, .ref h5, .ref h6, .ref h7, .int 0, .int 0, .int 8, .null])), (h1, .inr (1, [.int 1, .ref h8, .int 0, .int (-1), .int 0, .int 0, .int (-1), .ref h9]))])) (wB G (va_A [(h0, .inr (0, [.ref h1, .ref h2, .ref h3, .ref h4, .ref h5, .ref h6, .ref h7, .int 0, .int 0, .int 0, .null])), (h1, .inr (1, [.int 1, .ref h8, .int 0, .int (-1), .int 0, .int 0, .int (-1), .ref h9]))] sz)) (va_A [(h0, .inr (0, [.ref h1, .ref h2, .ref h3, .ref h4, .ref h5, .ref h6, .ref h7, .int 0, .int 0, .int 0, .null])), (h1, .inr (1, [.int 1, .ref h8, .int 0, .int (-1), .int 0, .int 0, .int (-1), .ref h9]))] sz)) 0 0 (va_A [(h0, .inr (0, [.ref h1, .ref h2, .ref h3, .ref h4, .ref h5, .ref h6, .ref h7, .int 0, .int 0, .int 0, .null])), (h1, .inr (1, [.int 1, .ref h8, .int 0, .int (-1), .int 0, .int 0, .int (-1), .ref h9]))] sz) := by
  refine Met.ofW (cc := cX0_enact) (maxL := 7) (ret := (some .int)) (by decide) rfl ?_
  intro p e s m args below meth c s₁ B hml hv
  obtain ⟨rfl, hsz, hP, hK, hD0, hE⟩ := hv
  have hx := B.exec
  have hb := B.bytes
  have hr := B.returns
  have hts := atoms_spec (ws := v_X0_enact_20) B.pre
  have t_ := t_X0_enact_20
  have mw : ∀ w ∈ e_X0_enact_20, w ∈ v_X0_enact_20 := fun w h => List.mem_cons_of_mem _ (List.mem_append_left _ h)
  have hw := fun w (h : w ∈ e_X0_enact_20) => hts w (mw w h)
  have iX0 : ∀ w ∈ wsX00, w ∈ v_X0_enact_20 := fun w h => List.mem_cons_of_mem _ (List.mem_append_right _ (List.mem_append_left _ h))
  have j_X8_against_20 : ∀ w ∈ v_X8_against_20, w ∈ v_X0_enact_20 := fun w h => List.mem_cons_of_mem _ (List.mem_append_right _ (List.mem_append_right _ (List.mem_append_left _ h)))
  have hown : s.vm.findClass RX0 = some m.cls := findClass_of_methodNamed B.named
  have hlocks := B.notSynchronized
  subst hsz
  have hD := hD0.self (sz := s.heap.size)
  generalize hAe : va_A [(h0, .inr (0, [.ref h1, .ref h2, .ref h3, .ref h4, .ref h5, .ref h6, .ref h7, .int 0, .int 0, .int 0, .null])), (h1, .inr (1, [.int 1, .ref h8, .int 0, .int (-1), .int 0, .int 0, .int (-1), .ref h9]))] s.heap.size = A at hD ⊢
  have hA : ∀ q : Nat, s.heap.size ≤ q → A q := fun q h => by rw [← hAe]; exact Or.inr h
  have hS : va_S A s.heap s.heap [] := va_S.rf
  have hP : va_P G vwCl [(h0, .inr (0, [.ref h1, .ref h2, .ref h3, .ref h4, .ref h5, .ref h6, .ref h7, .int 0, .int 0, .int 0, .null])), (h1, .inr (1, [.int 1, .ref h8, .int 0, .int (-1), .int 0, .int 0, .int (-1), .ref h9]))] s.heap := hP
  have hl := lv_entry ([.ref h0, .int 21, .int 0, .int 0, .int 0, .int 0]) (n := 7) (Nat.le_of_ble_eq_true rfl)
  rw [lg_entry_eq]
  generalize (lg_sl ([.ref h0, .int 21, .int 0, .int 0, .int 0, .int 0]) ++ List.replicate (7 - (lg_sl ([.ref h0, .int 21, .int 0, .int 0, .int 0, .int 0])).length) Slot.unset).toArray = ls at hl ⊢
  have hl : lv_has ls 7 [(0, .ref h0), (1, .int 21), (2, .int 0), (3, .int 0), (4, .int 0), (5, .int 0)] := hl
  refine lv_aload_n hx hb dX0_enact_0 rfl (lv_at hl 0 rfl) ?_
  refine lv_aload_n hx hb dX0_enact_1 rfl (lv_at hl 0 rfl) ?_
  refine lv_iload_n hx hb dX0_enact_2 rfl (lv_at hl 1 rfl) ?_
  refine lv_iload_n hx hb dX0_enact_3 rfl (lv_at hl 2 rfl) ?_
  refine lv_iload_n hx hb dX0_enact_4 rfl (lv_at hl 3 rfl) ?_
  refine lv_iload hx hb dX0_enact_5 (lv_at hl 4 rfl) ?_
  refine lv_iload hx hb dX0_enact_7 (lv_at hl 5 rfl) ?_
  have hPc := hP.sub (ws' := [(h0, .inr (0, [.ref h1, .ref h2, .ref h3, .ref h4, .ref h5, .ref h6, .ref h7, .int 0, .int 0, .int 0, .null])), (h1, .inr (1, [.int 1, .ref h8, .int 0, .int (-1), .int 0, .int 0, .int (-1), .ref h9]))]) [0, 1] rfl
  have hDc := hD.sub (ws' := [(h0, .inr (0, [.ref h1, .ref h2, .ref h3, .ref h4, .ref h5, .ref h6, .ref h7, .int 0, .int 0, .int 0, .null])), (h1, .inr (1, [.int 1, .ref h8, .int 0, .int (-1), .int 0, .int 0, .int (-1), .ref h9]))]) [0, 1] (by decide) rfl
  refine wGoi (wc := [(h0, .inr (0, [.ref h1, .ref h2, .ref h3, .ref h4, .ref h5, .ref h6, .ref h7, .int 0, .int 0, .int 0, .null])), (h1, .inr (1, [.int 1, .ref h8, .int 0, .int (-1), .int 0, .int 0, .int (-1), .ref h9]))]) (wr := []) (va_runS (As := [.ref h0, .int 21, .int 0, .int 0, .int 0, .int 0]) (rest := [.ref h0]) ⟨hx, hb, hml, hown, hts⟩ (m_X8_against_20 l G K h0 h1 h2 h3 h4 h5 h6 h7 h8 h9 _) (va_cwS 6 hts (wGS t_ (mw (.methodLink RX0 155 yX8_against) (List.mem_of_getElem? (i := 0) rfl)) (mw (.static yX8_against) (List.mem_of_getElem? (i := 1) rfl)) (mw (.initialized RX8) (List.mem_of_getElem? (i := 2) rfl)) j_X8_against_20) rfl rfl rfl (by decide +kernel) ⟨Nat.le_of_ble_eq_true rfl, Nat.le_of_ble_eq_true rfl⟩) (wPS hK hE hPc hDc) rfl rfl hl.1 rfl (lv_room (Nat.le_of_ble_eq_true rfl)) dX0_enact_9 ⟨Nat.le_of_ble_eq_true rfl, Nat.le_of_ble_eq_true rfl⟩) hP hD hS hA [0, 1] [] rfl rfl rfl (by decide) (fun r u H locs hw hP hD hS => ?_)
  rcases hw with ⟨rfl, rfl⟩
  have hP : va_P G vwCl [(h0, .inr (0, [.ref h1, .ref h2, .ref h3, .ref h4, .ref h5, .ref h6, .ref h7, .int 0, .int 0, .int 0, .null])), (h1, .inr (1, [.int 1, .ref h8, .int 0, .int (-1), .int 0, .int 0, .int (-1), .ref h9]))] _ := hP
  have hD : va_D A [(h0, .inr (0, [.ref h1, .ref h2, .ref h3, .ref h4, .ref h5, .ref h6, .ref h7, .int 0, .int 0, .int 0, .null])), (h1, .inr (1, [.int 1, .ref h8, .int 0, .int (-1), .int 0, .int 0, .int (-1), .ref h9]))] := hD
  refine va_put (D := G) (ci := 0) (v := .int 8) (ty := .int) (C := RX0) (T := TX0) (N := 11) hx hb hts iX0 tyX0 tyX0_ok nmX0 hown hK hP hD hS 0 rfl rfl 9 (by decide) (hw (.fieldLink RX0 73 "MotionFloor$Assembly" "reason" "I") (List.mem_of_getElem? (i := 3) rfl)) (fun _ h9 => h9) rfl (by decide +kernel) rfl rfl (Nat.le_of_ble_eq_true rfl) dX0_enact_12 (fun H locs hP hD hS => ?_)
  have hP : va_P G vwCl [(h0, .inr (0, [.ref h1, .ref h2, .ref h3, .ref h4, .ref h5, .ref h6, .ref h7, .int 0, .int 0, .int 8, .null])), (h1, .inr (1, [.int 1, .ref h8, .int 0, .int (-1), .int 0, .int 0, .int (-1), .ref h9]))] _ := hP
  have hD : va_D A [(h0, .inr (0, [.ref h1, .ref h2, .ref h3, .ref h4, .ref h5, .ref h6, .ref h7, .int 0, .int 0, .int 8, .null])), (h1, .inr (1, [.int 1, .ref h8, .int 0, .int (-1), .int 0, .int 0, .int (-1), .ref h9]))] := hD
  refine lv_aload_n hx hb dX0_enact_15 rfl (lv_at hl 0 rfl) ?_
  refine va_get (D := G) (ci := 0) (v := .int 8) (C := RX0) (T := TX0) (N := 11) hx hb hts iX0 hown hK hP 0 rfl rfl 9 (by decide) (hw (.fieldLink RX0 73 "MotionFloor$Assembly" "reason" "I") (List.mem_of_getElem? (i := 3) rfl)) (fun _ h9 => h9) rfl dX0_enact_16 ?_
  refine lv_if_eq (tgt := 28) hx hb dX0_enact_19 (by decide) (fun c_ => absurd c_ (by decide)) (fun _ => ?_)
  refine lv_aload_n hx hb dX0_enact_22 rfl (lv_at hl 0 rfl) ?_
  refine va_get (D := G) (ci := 0) (v := .int 8) (C := RX0) (T := TX0) (N := 11) hx hb hts iX0 hown hK hP 0 rfl rfl 9 (by decide) (hw (.fieldLink RX0 73 "MotionFloor$Assembly" "reason" "I") (List.mem_of_getElem? (i := 3) rfl)) (fun _ h9 => h9) rfl dX0_enact_23 ?_
  refine lv_ineg hx hb dX0_enact_26 ?_
  refine wTop (v1 := .int (-8)) (congrArg Value.int (by decide)) ?_
  have hP9 : va_P G vwCl [(h0, .inr (0, [.ref h1, .ref h2, .ref h3, .ref h4, .ref h5, .ref h6, .ref h7, .int 0, .int 0, .int 8, .null])), (h1, .inr (1, [.int 1, .ref h8, .int 0, .int (-1), .int 0, .int 0, .int (-1), .ref h9]))] _ := hP
  have hD9 : va_D A [(h0, .inr (0, [.ref h1, .ref h2, .ref h3, .ref h4, .ref h5, .ref h6, .ref h7, .int 0, .int 0, .int 8, .null])), (h1, .inr (1, [.int 1, .ref h8, .int 0, .int (-1), .int 0, .int 0, .int (-1), .ref h9]))] := hD
  exact W.iret (v := (-8)) hx hb hr (fun t ht hW => ⟨⟨(-8), _, rfl, ⟨rfl, rfl⟩, by rw [ht]; exact hP9, hD9⟩, hS.F ht⟩) hS.2.2 dX0_enact_27
def e_X10_told_0 : List Cond := [.fieldLink RX10 10 "MotionFloor" "now" "LMotionFloor$Assembly;", .methodLink RX10 32 yX0_enact, .instanceMethod yX0_enact, .selects RX0 yX0_enact yX0_enact, .initialized RX0]
def v_X10_told_0 : List Cond := .code yX10_told cX10_told 1 (some .int) :: (e_X10_told_0 ++ (wsX100 ++ (v_X0_enact_20 ++ [])))
theorem te_X10_told_0 : GoodIn lw_tbl e_X10_told_0 := wGc z115 (wGc z349 (wGc z348 (wGc z347 (wGc z118 (wG0)))))
theorem t_X10_told_0 : GoodIn lw_tbl v_X10_told_0 := wGc z667 (wGa te_X10_told_0 (wGa zcX10 (wGa t_X0_enact_20 (wG0))))
set_option maxHeartbeats 4000000 in
set_option maxRecDepth 100000 in
theorem m_X10_told_0 (l : Launch) (G : va_G) (K : Nat → ClassId) (h0 h1 h2 h3 h4 h5 h6 h7 h8 h9 h10 h11 h12 : Nat) (sz : Nat) : Met l yX10_told v_X10_told_0 ({ frames := 4, cells := 0, slots := 0, locals := 98 }) (va_Pc [.ref h0] (wS G K sz [(h0, .inr (7, [.ref h1, .ref h3, .null, .null, .ref h4])), (h1, .inr (0, [.ref h2, .ref h5, .ref h6, .ref h7, .ref h8, .ref h9, .ref h10, .int 0, .int 0, .int 0, .null])), (h2, .inr (1, [.int 1, .ref h11, .int 0, .int (-1), .int 0, .int 0, .int (-1), .ref h12]))])) (va_Qi (fun (r : Int32) (u : va_W) => ((-8) = r ∧ u = [(h0, .inr (7, [.ref h1, .ref h3, .null, .null, .ref h4])), (h1, .inr (0, [.ref h2, .ref h5, .ref h6, .ref h7, .ref h8, .ref h9, .ref h10, .int 0, .int 0, .int 8, .null])), (h2, .inr (1, [.int 1, .ref h11, .int 0, .int (-1), .int 0, .int 0, .int (-1), .ref h12]))])) (wB G (va_A [(h0, .inr (7, [.ref h1, .ref h3, .null, .null, .ref h4])), (h1, .inr (0, [.ref h2, .ref h5, .ref h6, .ref h7, .ref h8, .ref h9, .ref h10, .int 0, .int 0, .int 0, .null])), (h2, .inr (1, [.int 1, .ref h11, .int 0, .int (-1), .int 0, .int 0, .int (-1), .ref h12]))] sz)) (va_A [(h0, .inr (7, [.ref h1, .ref h3, .null, .null, .ref h4])), (h1, .inr (0, [.ref h2, .ref h5, .ref h6, .ref h7, .ref h8, .ref h9, .ref h10, .int 0, .int 0, .int 0, .null])), (h2, .inr (1, [.int 1, .ref h11, .int 0, .int (-1), .int 0, .int 0, .int (-1), .ref h12]))] sz)) 0 0 (va_A [(h0, .inr (7, [.ref h1, .ref h3, .null, .null, .ref h4])), (h1, .inr (0, [.ref h2, .ref h5, .ref h6, .ref h7, .ref h8, .ref h9, .ref h10, .int 0, .int 0, .int 0, .null])), (h2, .inr (1, [.int 1, .ref h11, .int 0, .int (-1), .int 0, .int 0, .int (-1), .ref h12]))] sz) := by
  refine Met.ofW (cc := cX10_told) (maxL := 1) (ret := (some .int)) (by decide) rfl ?_
  intro p e s m args below meth c s₁ B hml hv
  obtain ⟨rfl, hsz, hP, hK, hD0, hE⟩ := hv
  have hx := B.exec
  have hb := B.bytes
  have hr := B.returns
  have hts := atoms_spec (ws := v_X10_told_0) B.pre
  have t_ := t_X10_told_0
  have mw : ∀ w ∈ e_X10_told_0, w ∈ v_X10_told_0 := fun w h => List.mem_cons_of_mem _ (List.mem_append_left _ h)
  have hw := fun w (h : w ∈ e_X10_told_0) => hts w (mw w h)
  have iX10 : ∀ w ∈ wsX100, w ∈ v_X10_told_0 := fun w h => List.mem_cons_of_mem _ (List.mem_append_right _ (List.mem_append_left _ h))
  have j_X0_enact_20 : ∀ w ∈ v_X0_enact_20, w ∈ v_X10_told_0 := fun w h => List.mem_cons_of_mem _ (List.mem_append_right _ (List.mem_append_right _ (List.mem_append_left _ h)))
  have hown : s.vm.findClass RX10 = some m.cls := findClass_of_methodNamed B.named
  have hlocks := B.notSynchronized
  subst hsz
  have hD := hD0.self (sz := s.heap.size)
  generalize hAe : va_A [(h0, .inr (7, [.ref h1, .ref h3, .null, .null, .ref h4])), (h1, .inr (0, [.ref h2, .ref h5, .ref h6, .ref h7, .ref h8, .ref h9, .ref h10, .int 0, .int 0, .int 0, .null])), (h2, .inr (1, [.int 1, .ref h11, .int 0, .int (-1), .int 0, .int 0, .int (-1), .ref h12]))] s.heap.size = A at hD ⊢
  have hA : ∀ q : Nat, s.heap.size ≤ q → A q := fun q h => by rw [← hAe]; exact Or.inr h
  have hS : va_S A s.heap s.heap [] := va_S.rf
  have hP : va_P G vwCl [(h0, .inr (7, [.ref h1, .ref h3, .null, .null, .ref h4])), (h1, .inr (0, [.ref h2, .ref h5, .ref h6, .ref h7, .ref h8, .ref h9, .ref h10, .int 0, .int 0, .int 0, .null])), (h2, .inr (1, [.int 1, .ref h11, .int 0, .int (-1), .int 0, .int 0, .int (-1), .ref h12]))] s.heap := hP
  have hl := lv_entry ([.ref h0]) (n := 1) (Nat.le_of_ble_eq_true rfl)
  rw [lg_entry_eq]
  generalize (lg_sl ([.ref h0]) ++ List.replicate (1 - (lg_sl ([.ref h0])).length) Slot.unset).toArray = ls at hl ⊢
  have hl : lv_has ls 1 [(0, .ref h0)] := hl
  refine lv_aload_n hx hb dX10_told_0 rfl (lv_at hl 0 rfl) ?_
  refine va_get (D := G) (ci := 7) (v := .ref h1) (C := RX10) (T := TX10) (N := 5) hx hb hts iX10 hown hK hP 0 rfl rfl 0 (by decide) (hw (.fieldLink RX10 10 "MotionFloor" "now" "LMotionFloor$Assembly;") (List.mem_of_getElem? (i := 0) rfl)) (fun _ h9 => h9) rfl dX10_told_1 ?_
  refine lv_bipush (v := 21) hx hb dX10_told_4 (by decide) ?_
  refine lv_iconst (v := 0) hx hb dX10_told_6 (by decide) ?_
  refine lv_iconst (v := 0) hx hb dX10_told_7 (by decide) ?_
  refine lv_iconst (v := 0) hx hb dX10_told_8 (by decide) ?_
  refine lv_iconst (v := 0) hx hb dX10_told_9 (by decide) ?_
  have hPc := hP.sub (ws' := [(h1, .inr (0, [.ref h2, .ref h5, .ref h6, .ref h7, .ref h8, .ref h9, .ref h10, .int 0, .int 0, .int 0, .null])), (h2, .inr (1, [.int 1, .ref h11, .int 0, .int (-1), .int 0, .int 0, .int (-1), .ref h12]))]) [1, 2] rfl
  have hDc := hD.sub (ws' := [(h1, .inr (0, [.ref h2, .ref h5, .ref h6, .ref h7, .ref h8, .ref h9, .ref h10, .int 0, .int 0, .int 0, .null])), (h2, .inr (1, [.int 1, .ref h11, .int 0, .int (-1), .int 0, .int 0, .int (-1), .ref h12]))]) [1, 2] (by decide) rfl
  refine wGoi (wc := [(h1, .inr (0, [.ref h2, .ref h5, .ref h6, .ref h7, .ref h8, .ref h9, .ref h10, .int 0, .int 0, .int 0, .null])), (h2, .inr (1, [.int 1, .ref h11, .int 0, .int (-1), .int 0, .int 0, .int (-1), .ref h12]))]) (wr := [(h0, .inr (7, [.ref h1, .ref h3, .null, .null, .ref h4]))]) (va_runV (As := [.int 21, .int 0, .int 0, .int 0, .int 0]) (rest := []) ⟨hx, hb, hml, hown, hts⟩ (m_X0_enact_20 l G K h1 h2 h5 h6 h7 h8 h9 h10 h11 h12 _) (cwV 5 hts (wGV t_ (mw (.methodLink RX10 32 yX0_enact) (List.mem_of_getElem? (i := 1) rfl)) (mw (.instanceMethod yX0_enact) (List.mem_of_getElem? (i := 2) rfl)) (mw (.selects RX0 yX0_enact yX0_enact) (List.mem_of_getElem? (i := 3) rfl)) (mw (.initialized RX0) (List.mem_of_getElem? (i := 4) rfl)) j_X0_enact_20) rfl rfl rfl (by decide +kernel) ⟨Nat.le_of_ble_eq_true rfl, Nat.le_of_ble_eq_true rfl⟩) (wPV hK hE hPc hDc 0 0 rfl rfl) rfl rfl hl.1 rfl (lv_room (Nat.le_of_ble_eq_true rfl)) dX10_told_10 ⟨Nat.le_of_ble_eq_true rfl, Nat.le_of_ble_eq_true rfl⟩) hP hD hS hA [1, 2] [0] rfl rfl rfl (by decide) (fun r u H locs hw hP hD hS => ?_)
  rcases hw with ⟨rfl, rfl⟩
  have hP : va_P G vwCl [(h0, .inr (7, [.ref h1, .ref h3, .null, .null, .ref h4])), (h1, .inr (0, [.ref h2, .ref h5, .ref h6, .ref h7, .ref h8, .ref h9, .ref h10, .int 0, .int 0, .int 8, .null])), (h2, .inr (1, [.int 1, .ref h11, .int 0, .int (-1), .int 0, .int 0, .int (-1), .ref h12]))] _ := hP
  have hD : va_D A [(h0, .inr (7, [.ref h1, .ref h3, .null, .null, .ref h4])), (h1, .inr (0, [.ref h2, .ref h5, .ref h6, .ref h7, .ref h8, .ref h9, .ref h10, .int 0, .int 0, .int 8, .null])), (h2, .inr (1, [.int 1, .ref h11, .int 0, .int (-1), .int 0, .int 0, .int (-1), .ref h12]))] := hD
  have hP9 : va_P G vwCl [(h0, .inr (7, [.ref h1, .ref h3, .null, .null, .ref h4])), (h1, .inr (0, [.ref h2, .ref h5, .ref h6, .ref h7, .ref h8, .ref h9, .ref h10, .int 0, .int 0, .int 8, .null])), (h2, .inr (1, [.int 1, .ref h11, .int 0, .int (-1), .int 0, .int 0, .int (-1), .ref h12]))] _ := hP
  have hD9 : va_D A [(h0, .inr (7, [.ref h1, .ref h3, .null, .null, .ref h4])), (h1, .inr (0, [.ref h2, .ref h5, .ref h6, .ref h7, .ref h8, .ref h9, .ref h10, .int 0, .int 0, .int 8, .null])), (h2, .inr (1, [.int 1, .ref h11, .int 0, .int (-1), .int 0, .int 0, .int (-1), .ref h12]))] := hD
  exact W.iret (v := (-8)) hx hb hr (fun t ht hW => ⟨⟨(-8), _, rfl, ⟨rfl, rfl⟩, by rw [ht]; exact hP9, hD9⟩, hS.F ht⟩) hS.2.2 dX10_told_13
def e_X11_reason_30 : List Cond := [.fieldLink RX11 103 "MotionFloorModel$Hall" "chair" "I", .methodLink RX11 178 yX11_isHere, .instanceMethod yX11_isHere, .selects RX11 yX11_isHere yX11_isHere, .initialized RX11]
def v_X11_reason_30 : List Cond := .code yX11_reason cX11_reason 6 (some .int) :: (e_X11_reason_30 ++ (wsX110 ++ (v_X11_isHere_0 ++ [])))
theorem te_X11_reason_30 : GoodIn lw_tbl e_X11_reason_30 := wGc z206 (wGc z651 (wGc z650 (wGc z649 (wGc z227 (wG0)))))
theorem t_X11_reason_30 : GoodIn lw_tbl v_X11_reason_30 := wGc z355 (wGa te_X11_reason_30 (wGa zcX11 (wGa t_X11_isHere_0 (wG0))))
set_option maxHeartbeats 4000000 in
set_option maxRecDepth 100000 in
theorem m_X11_reason_30 (l : Launch) (G : va_G) (K : Nat → ClassId) (h0 h1 h2 h3 h4 h5 h6 h7 h8 h9 h10 h11 h12 h13 h14 h15 h16 h17 h18 h19 h20 h21 h22 h23 h24 h25 h26 h27 : Nat) (sz : Nat) : Met l yX11_reason v_X11_reason_30 ({ frames := 3, cells := 0, slots := 0, locals := 64 }) (va_Pc [.ref h0, .int 21, .int 0, .int 0, .int 0, .int 0] (wS G K sz [(h0, .inr (8, [.int 1, .int 0, .int (-1), .int 0, .int 0, .int (-1), .int 0, .int 0, .int 0, .int 0, .int 0, .ref h1, .ref h2, .ref h3, .ref h4, .ref h5, .ref h6, .ref h7, .ref h8, .ref h9, .ref h10, .ref h11, .ref h12, .ref h13, .ref h14, .ref h15, .ref h16, .ref h17, .ref h18, .ref h19, .int 0, .ref h20, .ref h21, .ref h22, .ref h23, .int 0, .int 0, .ref h24, .ref h25, .int (-1), .ref h26, .ref h27]))])) (va_Qi (fun (r : Int32) (u : va_W) => (8 = r ∧ u = [(h0, .inr (8, [.int 1, .int 0, .int (-1), .int 0, .int 0, .int (-1), .int 0, .int 0, .int 0, .int 0, .int 0, .ref h1, .ref h2, .ref h3, .ref h4, .ref h5, .ref h6, .ref h7, .ref h8, .ref h9, .ref h10, .ref h11, .ref h12, .ref h13, .ref h14, .ref h15, .ref h16, .ref h17, .ref h18, .ref h19, .int 0, .ref h20, .ref h21, .ref h22, .ref h23, .int 0, .int 0, .ref h24, .ref h25, .int (-1), .ref h26, .ref h27]))])) (wB G (va_A [(h0, .inr (8, [.int 1, .int 0, .int (-1), .int 0, .int 0, .int (-1), .int 0, .int 0, .int 0, .int 0, .int 0, .ref h1, .ref h2, .ref h3, .ref h4, .ref h5, .ref h6, .ref h7, .ref h8, .ref h9, .ref h10, .ref h11, .ref h12, .ref h13, .ref h14, .ref h15, .ref h16, .ref h17, .ref h18, .ref h19, .int 0, .ref h20, .ref h21, .ref h22, .ref h23, .int 0, .int 0, .ref h24, .ref h25, .int (-1), .ref h26, .ref h27]))] sz)) (va_A [(h0, .inr (8, [.int 1, .int 0, .int (-1), .int 0, .int 0, .int (-1), .int 0, .int 0, .int 0, .int 0, .int 0, .ref h1, .ref h2, .ref h3, .ref h4, .ref h5, .ref h6, .ref h7, .ref h8, .ref h9, .ref h10, .ref h11, .ref h12, .ref h13, .ref h14, .ref h15, .ref h16, .ref h17, .ref h18, .ref h19, .int 0, .ref h20, .ref h21, .ref h22, .ref h23, .int 0, .int 0, .ref h24, .ref h25, .int (-1), .ref h26, .ref h27]))] sz)) 0 0 (va_A [(h0, .inr (8, [.int 1, .int 0, .int (-1), .int 0, .int 0, .int (-1), .int 0, .int 0, .int 0, .int 0, .int 0, .ref h1, .ref h2, .ref h3, .ref h4, .ref h5, .ref h6, .ref h7, .ref h8, .ref h9, .ref h10, .ref h11, .ref h12, .ref h13, .ref h14, .ref h15, .ref h16, .ref h17, .ref h18, .ref h19, .int 0, .ref h20, .ref h21, .ref h22, .ref h23, .int 0, .int 0, .ref h24, .ref h25, .int (-1), .ref h26, .ref h27]))] sz) := by
  refine Met.ofW (cc := cX11_reason) (maxL := 6) (ret := (some .int)) (by decide) rfl ?_
  intro p e s m args below meth c s₁ B hml hv
  obtain ⟨rfl, hsz, hP, hK, hD0, hE⟩ := hv
  have hx := B.exec
  have hb := B.bytes
  have hr := B.returns
  have hts := atoms_spec (ws := v_X11_reason_30) B.pre
  have t_ := t_X11_reason_30
  have mw : ∀ w ∈ e_X11_reason_30, w ∈ v_X11_reason_30 := fun w h => List.mem_cons_of_mem _ (List.mem_append_left _ h)
  have hw := fun w (h : w ∈ e_X11_reason_30) => hts w (mw w h)
  have iX11 : ∀ w ∈ wsX110, w ∈ v_X11_reason_30 := fun w h => List.mem_cons_of_mem _ (List.mem_append_right _ (List.mem_append_left _ h))
  have j_X11_isHere_0 : ∀ w ∈ v_X11_isHere_0, w ∈ v_X11_reason_30 := fun w h => List.mem_cons_of_mem _ (List.mem_append_right _ (List.mem_append_right _ (List.mem_append_left _ h)))
  have hown : s.vm.findClass RX11 = some m.cls := findClass_of_methodNamed B.named
  have hlocks := B.notSynchronized
  subst hsz
  have hD := hD0.self (sz := s.heap.size)
  generalize hAe : va_A [(h0, .inr (8, [.int 1, .int 0, .int (-1), .int 0, .int 0, .int (-1), .int 0, .int 0, .int 0, .int 0, .int 0, .ref h1, .ref h2, .ref h3, .ref h4, .ref h5, .ref h6, .ref h7, .ref h8, .ref h9, .ref h10, .ref h11, .ref h12, .ref h13, .ref h14, .ref h15, .ref h16, .ref h17, .ref h18, .ref h19, .int 0, .ref h20, .ref h21, .ref h22, .ref h23, .int 0, .int 0, .ref h24, .ref h25, .int (-1), .ref h26, .ref h27]))] s.heap.size = A at hD ⊢
  have hA : ∀ q : Nat, s.heap.size ≤ q → A q := fun q h => by rw [← hAe]; exact Or.inr h
  have hS : va_S A s.heap s.heap [] := va_S.rf
  have hP : va_P G vwCl [(h0, .inr (8, [.int 1, .int 0, .int (-1), .int 0, .int 0, .int (-1), .int 0, .int 0, .int 0, .int 0, .int 0, .ref h1, .ref h2, .ref h3, .ref h4, .ref h5, .ref h6, .ref h7, .ref h8, .ref h9, .ref h10, .ref h11, .ref h12, .ref h13, .ref h14, .ref h15, .ref h16, .ref h17, .ref h18, .ref h19, .int 0, .ref h20, .ref h21, .ref h22, .ref h23, .int 0, .int 0, .ref h24, .ref h25, .int (-1), .ref h26, .ref h27]))] s.heap := hP
  have hl := lv_entry ([.ref h0, .int 21, .int 0, .int 0, .int 0, .int 0]) (n := 6) (Nat.le_of_ble_eq_true rfl)
  rw [lg_entry_eq]
  generalize (lg_sl ([.ref h0, .int 21, .int 0, .int 0, .int 0, .int 0]) ++ List.replicate (6 - (lg_sl ([.ref h0, .int 21, .int 0, .int 0, .int 0, .int 0])).length) Slot.unset).toArray = ls at hl ⊢
  have hl : lv_has ls 6 [(0, .ref h0), (1, .int 21), (2, .int 0), (3, .int 0), (4, .int 0), (5, .int 0)] := hl
  refine lv_iload_n hx hb dX11_reason_0 rfl (lv_at hl 1 rfl) ?_
  refine lv_tableIn (off := 897) (tgt := 898) hx hb dX11_reason_1 (by decide) (by decide) (by decide) (by decide) ?_
  refine lv_aload_n hx hb dX11_reason_898 rfl (lv_at hl 0 rfl) ?_
  refine lv_aload_n hx hb dX11_reason_899 rfl (lv_at hl 0 rfl) ?_
  refine va_get (D := G) (ci := 8) (v := .int (-1)) (C := RX11) (T := TX11) (N := 42) hx hb hts iX11 hown hK hP 0 rfl rfl 2 (by decide) (hw (.fieldLink RX11 103 "MotionFloorModel$Hall" "chair" "I") (List.mem_of_getElem? (i := 0) rfl)) (fun _ h9 => h9) rfl dX11_reason_900 ?_
  have hPc := hP.sub (ws' := [(h0, .inr (8, [.int 1, .int 0, .int (-1), .int 0, .int 0, .int (-1), .int 0, .int 0, .int 0, .int 0, .int 0, .ref h1, .ref h2, .ref h3, .ref h4, .ref h5, .ref h6, .ref h7, .ref h8, .ref h9, .ref h10, .ref h11, .ref h12, .ref h13, .ref h14, .ref h15, .ref h16, .ref h17, .ref h18, .ref h19, .int 0, .ref h20, .ref h21, .ref h22, .ref h23, .int 0, .int 0, .ref h24, .ref h25, .int (-1), .ref h26, .ref h27]))]) [0] rfl
  have hDc := hD.sub (ws' := [(h0, .inr (8, [.int 1, .int 0, .int (-1), .int 0, .int 0, .int (-1), .int 0, .int 0, .int 0, .int 0, .int 0, .ref h1, .ref h2, .ref h3, .ref h4, .ref h5, .ref h6, .ref h7, .ref h8, .ref h9, .ref h10, .ref h11, .ref h12, .ref h13, .ref h14, .ref h15, .ref h16, .ref h17, .ref h18, .ref h19, .int 0, .ref h20, .ref h21, .ref h22, .ref h23, .int 0, .int 0, .ref h24, .ref h25, .int (-1), .ref h26, .ref h27]))]) [0] (by decide) rfl
  refine wGoi (wc := [(h0, .inr (8, [.int 1, .int 0, .int (-1), .int 0, .int 0, .int (-1), .int 0, .int 0, .int 0, .int 0, .int 0, .ref h1, .ref h2, .ref h3, .ref h4, .ref h5, .ref h6, .ref h7, .ref h8, .ref h9, .ref h10, .ref h11, .ref h12, .ref h13, .ref h14, .ref h15, .ref h16, .ref h17, .ref h18, .ref h19, .int 0, .ref h20, .ref h21, .ref h22, .ref h23, .int 0, .int 0, .ref h24, .ref h25, .int (-1), .ref h26, .ref h27]))]) (wr := []) (va_runV (As := [.int (-1)]) (rest := []) ⟨hx, hb, hml, hown, hts⟩ (m_X11_isHere_0 l G K h0 h1 h2 h3 h4 h5 h6 h7 h8 h9 h10 h11 h12 h13 h14 h15 h16 h17 h18 h19 h20 h21 h22 h23 h24 h25 h26 h27 _) (cwV 1 hts (wGV t_ (mw (.methodLink RX11 178 yX11_isHere) (List.mem_of_getElem? (i := 1) rfl)) (mw (.instanceMethod yX11_isHere) (List.mem_of_getElem? (i := 2) rfl)) (mw (.selects RX11 yX11_isHere yX11_isHere) (List.mem_of_getElem? (i := 3) rfl)) (mw (.initialized RX11) (List.mem_of_getElem? (i := 4) rfl)) j_X11_isHere_0) rfl rfl rfl (by decide +kernel) ⟨Nat.le_of_ble_eq_true rfl, Nat.le_of_ble_eq_true rfl⟩) (wPV hK hE hPc hDc 8 0 rfl rfl) rfl rfl hl.1 rfl (lv_room (Nat.le_of_ble_eq_true rfl)) dX11_reason_903 ⟨Nat.le_of_ble_eq_true rfl, Nat.le_of_ble_eq_true rfl⟩) hP hD hS hA [0] [] rfl rfl rfl (by decide) (fun r u H locs hw hP hD hS => ?_)
  rcases hw with ⟨rfl, rfl⟩
  have hP : va_P G vwCl [(h0, .inr (8, [.int 1, .int 0, .int (-1), .int 0, .int 0, .int (-1), .int 0, .int 0, .int 0, .int 0, .int 0, .ref h1, .ref h2, .ref h3, .ref h4, .ref h5, .ref h6, .ref h7, .ref h8, .ref h9, .ref h10, .ref h11, .ref h12, .ref h13, .ref h14, .ref h15, .ref h16, .ref h17, .ref h18, .ref h19, .int 0, .ref h20, .ref h21, .ref h22, .ref h23, .int 0, .int 0, .ref h24, .ref h25, .int (-1), .ref h26, .ref h27]))] _ := hP
  have hD : va_D A [(h0, .inr (8, [.int 1, .int 0, .int (-1), .int 0, .int 0, .int (-1), .int 0, .int 0, .int 0, .int 0, .int 0, .ref h1, .ref h2, .ref h3, .ref h4, .ref h5, .ref h6, .ref h7, .ref h8, .ref h9, .ref h10, .ref h11, .ref h12, .ref h13, .ref h14, .ref h15, .ref h16, .ref h17, .ref h18, .ref h19, .int 0, .ref h20, .ref h21, .ref h22, .ref h23, .int 0, .int 0, .ref h24, .ref h25, .int (-1), .ref h26, .ref h27]))] := hD
  refine lv_if_ne (tgt := 914) hx hb dX11_reason_906 (by decide) (fun c_ => absurd c_ (by decide)) (fun _ => ?_)
  refine lv_bipush (v := 8) hx hb dX11_reason_909 (by decide) ?_
  refine lv_goto (tgt := 927) hx hb dX11_reason_911 (by decide) ?_
  have hP9 : va_P G vwCl [(h0, .inr (8, [.int 1, .int 0, .int (-1), .int 0, .int 0, .int (-1), .int 0, .int 0, .int 0, .int 0, .int 0, .ref h1, .ref h2, .ref h3, .ref h4, .ref h5, .ref h6, .ref h7, .ref h8, .ref h9, .ref h10, .ref h11, .ref h12, .ref h13, .ref h14, .ref h15, .ref h16, .ref h17, .ref h18, .ref h19, .int 0, .ref h20, .ref h21, .ref h22, .ref h23, .int 0, .int 0, .ref h24, .ref h25, .int (-1), .ref h26, .ref h27]))] _ := hP
  have hD9 : va_D A [(h0, .inr (8, [.int 1, .int 0, .int (-1), .int 0, .int 0, .int (-1), .int 0, .int 0, .int 0, .int 0, .int 0, .ref h1, .ref h2, .ref h3, .ref h4, .ref h5, .ref h6, .ref h7, .ref h8, .ref h9, .ref h10, .ref h11, .ref h12, .ref h13, .ref h14, .ref h15, .ref h16, .ref h17, .ref h18, .ref h19, .int 0, .ref h20, .ref h21, .ref h22, .ref h23, .int 0, .int 0, .ref h24, .ref h25, .int (-1), .ref h26, .ref h27]))] := hD
  exact W.iret (v := 8) hx hb hr (fun t ht hW => ⟨⟨8, _, rfl, ⟨rfl, rfl⟩, by rw [ht]; exact hP9, hD9⟩, hS.F ht⟩) hS.2.2 dX11_reason_927
def e_X11_act_30 : List Cond := [.methodLink RX11 196 yX11_reason, .instanceMethod yX11_reason, .selects RX11 yX11_reason yX11_reason, .initialized RX11, .fieldLink RX11 127 "MotionFloorModel$Hall" "why" "I"]
def v_X11_act_30 : List Cond := .code yX11_act cX11_act 10 (some .int) :: (e_X11_act_30 ++ (wsX110 ++ (v_X11_reason_30 ++ [])))
theorem te_X11_act_30 : GoodIn lw_tbl e_X11_act_30 := wGc z364 (wGc z363 (wGc z362 (wGc z227 (wGc z198 (wG0)))))
theorem t_X11_act_30 : GoodIn lw_tbl v_X11_act_30 := wGc z365 (wGa te_X11_act_30 (wGa zcX11 (wGa t_X11_reason_30 (wG0))))
set_option maxHeartbeats 4000000 in
set_option maxRecDepth 100000 in
theorem m_X11_act_30 (l : Launch) (G : va_G) (K : Nat → ClassId) (h0 h1 h2 h3 h4 h5 h6 h7 h8 h9 h10 h11 h12 h13 h14 h15 h16 h17 h18 h19 h20 h21 h22 h23 h24 h25 h26 h27 : Nat) (sz : Nat) : Met l yX11_act v_X11_act_30 ({ frames := 4, cells := 0, slots := 0, locals := 89 }) (va_Pc [.ref h0, .int 21, .int 0, .int 0, .int 0, .int 0] (wS G K sz [(h0, .inr (8, [.int 1, .int 0, .int (-1), .int 0, .int 0, .int (-1), .int 0, .int 0, .int 0, .int 0, .int 0, .ref h1, .ref h2, .ref h3, .ref h4, .ref h5, .ref h6, .ref h7, .ref h8, .ref h9, .ref h10, .ref h11, .ref h12, .ref h13, .ref h14, .ref h15, .ref h16, .ref h17, .ref h18, .ref h19, .int 0, .ref h20, .ref h21, .ref h22, .ref h23, .int 0, .int 0, .ref h24, .ref h25, .int (-1), .ref h26, .ref h27]))])) (va_Qi (fun (r : Int32) (u : va_W) => ((-8) = r ∧ u = [(h0, .inr (8, [.int 1, .int 0, .int (-1), .int 0, .int 0, .int (-1), .int 0, .int 0, .int 0, .int 0, .int 8, .ref h1, .ref h2, .ref h3, .ref h4, .ref h5, .ref h6, .ref h7, .ref h8, .ref h9, .ref h10, .ref h11, .ref h12, .ref h13, .ref h14, .ref h15, .ref h16, .ref h17, .ref h18, .ref h19, .int 0, .ref h20, .ref h21, .ref h22, .ref h23, .int 0, .int 0, .ref h24, .ref h25, .int (-1), .ref h26, .ref h27]))])) (wB G (va_A [(h0, .inr (8, [.int 1, .int 0, .int (-1), .int 0, .int 0, .int (-1), .int 0, .int 0, .int 0, .int 0, .int 0, .ref h1, .ref h2, .ref h3, .ref h4, .ref h5, .ref h6, .ref h7, .ref h8, .ref h9, .ref h10, .ref h11, .ref h12, .ref h13, .ref h14, .ref h15, .ref h16, .ref h17, .ref h18, .ref h19, .int 0, .ref h20, .ref h21, .ref h22, .ref h23, .int 0, .int 0, .ref h24, .ref h25, .int (-1), .ref h26, .ref h27]))] sz)) (va_A [(h0, .inr (8, [.int 1, .int 0, .int (-1), .int 0, .int 0, .int (-1), .int 0, .int 0, .int 0, .int 0, .int 0, .ref h1, .ref h2, .ref h3, .ref h4, .ref h5, .ref h6, .ref h7, .ref h8, .ref h9, .ref h10, .ref h11, .ref h12, .ref h13, .ref h14, .ref h15, .ref h16, .ref h17, .ref h18, .ref h19, .int 0, .ref h20, .ref h21, .ref h22, .ref h23, .int 0, .int 0, .ref h24, .ref h25, .int (-1), .ref h26, .ref h27]))] sz)) 0 0 (va_A [(h0, .inr (8, [.int 1, .int 0, .int (-1), .int 0, .int 0, .int (-1), .int 0, .int 0, .int 0, .int 0, .int 0, .ref h1, .ref h2, .ref h3, .ref h4, .ref h5, .ref h6, .ref h7, .ref h8, .ref h9, .ref h10, .ref h11, .ref h12, .ref h13, .ref h14, .ref h15, .ref h16, .ref h17, .ref h18, .ref h19, .int 0, .ref h20, .ref h21, .ref h22, .ref h23, .int 0, .int 0, .ref h24, .ref h25, .int (-1), .ref h26, .ref h27]))] sz) := by
  refine Met.ofW (cc := cX11_act) (maxL := 10) (ret := (some .int)) (by decide) rfl ?_
  intro p e s m args below meth c s₁ B hml hv
  obtain ⟨rfl, hsz, hP, hK, hD0, hE⟩ := hv
  have hx := B.exec
  have hb := B.bytes
  have hr := B.returns
  have hts := atoms_spec (ws := v_X11_act_30) B.pre
  have t_ := t_X11_act_30
  have mw : ∀ w ∈ e_X11_act_30, w ∈ v_X11_act_30 := fun w h => List.mem_cons_of_mem _ (List.mem_append_left _ h)
  have hw := fun w (h : w ∈ e_X11_act_30) => hts w (mw w h)
  have iX11 : ∀ w ∈ wsX110, w ∈ v_X11_act_30 := fun w h => List.mem_cons_of_mem _ (List.mem_append_right _ (List.mem_append_left _ h))
  have j_X11_reason_30 : ∀ w ∈ v_X11_reason_30, w ∈ v_X11_act_30 := fun w h => List.mem_cons_of_mem _ (List.mem_append_right _ (List.mem_append_right _ (List.mem_append_left _ h)))
  have hown : s.vm.findClass RX11 = some m.cls := findClass_of_methodNamed B.named
  have hlocks := B.notSynchronized
  subst hsz
  have hD := hD0.self (sz := s.heap.size)
  generalize hAe : va_A [(h0, .inr (8, [.int 1, .int 0, .int (-1), .int 0, .int 0, .int (-1), .int 0, .int 0, .int 0, .int 0, .int 0, .ref h1, .ref h2, .ref h3, .ref h4, .ref h5, .ref h6, .ref h7, .ref h8, .ref h9, .ref h10, .ref h11, .ref h12, .ref h13, .ref h14, .ref h15, .ref h16, .ref h17, .ref h18, .ref h19, .int 0, .ref h20, .ref h21, .ref h22, .ref h23, .int 0, .int 0, .ref h24, .ref h25, .int (-1), .ref h26, .ref h27]))] s.heap.size = A at hD ⊢
  have hA : ∀ q : Nat, s.heap.size ≤ q → A q := fun q h => by rw [← hAe]; exact Or.inr h
  have hS : va_S A s.heap s.heap [] := va_S.rf
  have hP : va_P G vwCl [(h0, .inr (8, [.int 1, .int 0, .int (-1), .int 0, .int 0, .int (-1), .int 0, .int 0, .int 0, .int 0, .int 0, .ref h1, .ref h2, .ref h3, .ref h4, .ref h5, .ref h6, .ref h7, .ref h8, .ref h9, .ref h10, .ref h11, .ref h12, .ref h13, .ref h14, .ref h15, .ref h16, .ref h17, .ref h18, .ref h19, .int 0, .ref h20, .ref h21, .ref h22, .ref h23, .int 0, .int 0, .ref h24, .ref h25, .int (-1), .ref h26, .ref h27]))] s.heap := hP
  have hl := lv_entry ([.ref h0, .int 21, .int 0, .int 0, .int 0, .int 0]) (n := 10) (Nat.le_of_ble_eq_true rfl)
  rw [lg_entry_eq]
  generalize (lg_sl ([.ref h0, .int 21, .int 0, .int 0, .int 0, .int 0]) ++ List.replicate (10 - (lg_sl ([.ref h0, .int 21, .int 0, .int 0, .int 0, .int 0])).length) Slot.unset).toArray = ls at hl ⊢
  have hl : lv_has ls 10 [(0, .ref h0), (1, .int 21), (2, .int 0), (3, .int 0), (4, .int 0), (5, .int 0)] := hl
  refine lv_aload_n hx hb dX11_act_0 rfl (lv_at hl 0 rfl) ?_
  refine lv_iload_n hx hb dX11_act_1 rfl (lv_at hl 1 rfl) ?_
  refine lv_iload_n hx hb dX11_act_2 rfl (lv_at hl 2 rfl) ?_
  refine lv_iload_n hx hb dX11_act_3 rfl (lv_at hl 3 rfl) ?_
  refine lv_iload hx hb dX11_act_4 (lv_at hl 4 rfl) ?_
  refine lv_iload hx hb dX11_act_6 (lv_at hl 5 rfl) ?_
  have hPc := hP.sub (ws' := [(h0, .inr (8, [.int 1, .int 0, .int (-1), .int 0, .int 0, .int (-1), .int 0, .int 0, .int 0, .int 0, .int 0, .ref h1, .ref h2, .ref h3, .ref h4, .ref h5, .ref h6, .ref h7, .ref h8, .ref h9, .ref h10, .ref h11, .ref h12, .ref h13, .ref h14, .ref h15, .ref h16, .ref h17, .ref h18, .ref h19, .int 0, .ref h20, .ref h21, .ref h22, .ref h23, .int 0, .int 0, .ref h24, .ref h25, .int (-1), .ref h26, .ref h27]))]) [0] rfl
  have hDc := hD.sub (ws' := [(h0, .inr (8, [.int 1, .int 0, .int (-1), .int 0, .int 0, .int (-1), .int 0, .int 0, .int 0, .int 0, .int 0, .ref h1, .ref h2, .ref h3, .ref h4, .ref h5, .ref h6, .ref h7, .ref h8, .ref h9, .ref h10, .ref h11, .ref h12, .ref h13, .ref h14, .ref h15, .ref h16, .ref h17, .ref h18, .ref h19, .int 0, .ref h20, .ref h21, .ref h22, .ref h23, .int 0, .int 0, .ref h24, .ref h25, .int (-1), .ref h26, .ref h27]))]) [0] (by decide) rfl
  refine wGoi (wc := [(h0, .inr (8, [.int 1, .int 0, .int (-1), .int 0, .int 0, .int (-1), .int 0, .int 0, .int 0, .int 0, .int 0, .ref h1, .ref h2, .ref h3, .ref h4, .ref h5, .ref h6, .ref h7, .ref h8, .ref h9, .ref h10, .ref h11, .ref h12, .ref h13, .ref h14, .ref h15, .ref h16, .ref h17, .ref h18, .ref h19, .int 0, .ref h20, .ref h21, .ref h22, .ref h23, .int 0, .int 0, .ref h24, .ref h25, .int (-1), .ref h26, .ref h27]))]) (wr := []) (va_runV (As := [.int 21, .int 0, .int 0, .int 0, .int 0]) (rest := []) ⟨hx, hb, hml, hown, hts⟩ (m_X11_reason_30 l G K h0 h1 h2 h3 h4 h5 h6 h7 h8 h9 h10 h11 h12 h13 h14 h15 h16 h17 h18 h19 h20 h21 h22 h23 h24 h25 h26 h27 _) (cwV 5 hts (wGV t_ (mw (.methodLink RX11 196 yX11_reason) (List.mem_of_getElem? (i := 0) rfl)) (mw (.instanceMethod yX11_reason) (List.mem_of_getElem? (i := 1) rfl)) (mw (.selects RX11 yX11_reason yX11_reason) (List.mem_of_getElem? (i := 2) rfl)) (mw (.initialized RX11) (List.mem_of_getElem? (i := 3) rfl)) j_X11_reason_30) rfl rfl rfl (by decide +kernel) ⟨Nat.le_of_ble_eq_true rfl, Nat.le_of_ble_eq_true rfl⟩) (wPV hK hE hPc hDc 8 0 rfl rfl) rfl rfl hl.1 rfl (lv_room (Nat.le_of_ble_eq_true rfl)) dX11_act_8 ⟨Nat.le_of_ble_eq_true rfl, Nat.le_of_ble_eq_true rfl⟩) hP hD hS hA [0] [] rfl rfl rfl (by decide) (fun r u H locs hw hP hD hS => ?_)
  rcases hw with ⟨rfl, rfl⟩
  have hP : va_P G vwCl [(h0, .inr (8, [.int 1, .int 0, .int (-1), .int 0, .int 0, .int (-1), .int 0, .int 0, .int 0, .int 0, .int 0, .ref h1, .ref h2, .ref h3, .ref h4, .ref h5, .ref h6, .ref h7, .ref h8, .ref h9, .ref h10, .ref h11, .ref h12, .ref h13, .ref h14, .ref h15, .ref h16, .ref h17, .ref h18, .ref h19, .int 0, .ref h20, .ref h21, .ref h22, .ref h23, .int 0, .int 0, .ref h24, .ref h25, .int (-1), .ref h26, .ref h27]))] _ := hP
  have hD : va_D A [(h0, .inr (8, [.int 1, .int 0, .int (-1), .int 0, .int 0, .int (-1), .int 0, .int 0, .int 0, .int 0, .int 0, .ref h1, .ref h2, .ref h3, .ref h4, .ref h5, .ref h6, .ref h7, .ref h8, .ref h9, .ref h10, .ref h11, .ref h12, .ref h13, .ref h14, .ref h15, .ref h16, .ref h17, .ref h18, .ref h19, .int 0, .ref h20, .ref h21, .ref h22, .ref h23, .int 0, .int 0, .ref h24, .ref h25, .int (-1), .ref h26, .ref h27]))] := hD
  refine lv_istore (lv' := [(6, .int 8), (0, .ref h0), (1, .int 21), (2, .int 0), (3, .int 0), (4, .int 0), (5, .int 0)]) hx hb dX11_act_11 hl (by decide) rfl (fun ls hl => ?_)
  refine lv_iload hx hb dX11_act_13 (lv_at hl 0 rfl) ?_
  refine lv_if_ne (tgt := 32) hx hb dX11_act_15 (by decide) (fun _ => ?_) (fun c_ => absurd c_ (by decide))
  refine lv_aload_n hx hb dX11_act_32 rfl (lv_at hl 1 rfl) ?_
  refine lv_iload hx hb dX11_act_33 (lv_at hl 0 rfl) ?_
  refine va_put (D := G) (ci := 8) (v := .int 8) (ty := .int) (C := RX11) (T := TX11) (N := 42) hx hb hts iX11 tyX11 tyX11_ok nmX11 hown hK hP hD hS 0 rfl rfl 10 (by decide) (hw (.fieldLink RX11 127 "MotionFloorModel$Hall" "why" "I") (List.mem_of_getElem? (i := 4) rfl)) (fun _ h9 => h9) rfl (by decide +kernel) rfl rfl (Nat.le_of_ble_eq_true rfl) dX11_act_35 (fun H locs hP hD hS => ?_)
  have hP : va_P G vwCl [(h0, .inr (8, [.int 1, .int 0, .int (-1), .int 0, .int 0, .int (-1), .int 0, .int 0, .int 0, .int 0, .int 8, .ref h1, .ref h2, .ref h3, .ref h4, .ref h5, .ref h6, .ref h7, .ref h8, .ref h9, .ref h10, .ref h11, .ref h12, .ref h13, .ref h14, .ref h15, .ref h16, .ref h17, .ref h18, .ref h19, .int 0, .ref h20, .ref h21, .ref h22, .ref h23, .int 0, .int 0, .ref h24, .ref h25, .int (-1), .ref h26, .ref h27]))] _ := hP
  have hD : va_D A [(h0, .inr (8, [.int 1, .int 0, .int (-1), .int 0, .int 0, .int (-1), .int 0, .int 0, .int 0, .int 0, .int 8, .ref h1, .ref h2, .ref h3, .ref h4, .ref h5, .ref h6, .ref h7, .ref h8, .ref h9, .ref h10, .ref h11, .ref h12, .ref h13, .ref h14, .ref h15, .ref h16, .ref h17, .ref h18, .ref h19, .int 0, .ref h20, .ref h21, .ref h22, .ref h23, .int 0, .int 0, .ref h24, .ref h25, .int (-1), .ref h26, .ref h27]))] := hD
  refine lv_iload hx hb dX11_act_38 (lv_at hl 0 rfl) ?_
  refine lv_if_le (tgt := 47) hx hb dX11_act_40 (by decide) (fun c_ => absurd c_ (by decide)) (fun _ => ?_)
  refine lv_iload hx hb dX11_act_43 (lv_at hl 0 rfl) ?_
  refine lv_ineg hx hb dX11_act_45 ?_
  refine wTop (v1 := .int (-8)) (congrArg Value.int (by decide)) ?_
  have hP9 : va_P G vwCl [(h0, .inr (8, [.int 1, .int 0, .int (-1), .int 0, .int 0, .int (-1), .int 0, .int 0, .int 0, .int 0, .int 8, .ref h1, .ref h2, .ref h3, .ref h4, .ref h5, .ref h6, .ref h7, .ref h8, .ref h9, .ref h10, .ref h11, .ref h12, .ref h13, .ref h14, .ref h15, .ref h16, .ref h17, .ref h18, .ref h19, .int 0, .ref h20, .ref h21, .ref h22, .ref h23, .int 0, .int 0, .ref h24, .ref h25, .int (-1), .ref h26, .ref h27]))] _ := hP
  have hD9 : va_D A [(h0, .inr (8, [.int 1, .int 0, .int (-1), .int 0, .int 0, .int (-1), .int 0, .int 0, .int 0, .int 0, .int 8, .ref h1, .ref h2, .ref h3, .ref h4, .ref h5, .ref h6, .ref h7, .ref h8, .ref h9, .ref h10, .ref h11, .ref h12, .ref h13, .ref h14, .ref h15, .ref h16, .ref h17, .ref h18, .ref h19, .int 0, .ref h20, .ref h21, .ref h22, .ref h23, .int 0, .int 0, .ref h24, .ref h25, .int (-1), .ref h26, .ref h27]))] := hD
  exact W.iret (v := (-8)) hx hb hr (fun t ht hW => ⟨⟨(-8), _, rfl, ⟨rfl, rfl⟩, by rw [ht]; exact hP9, hD9⟩, hS.F ht⟩) hS.2.2 dX11_act_46
def e_X12_told_0 : List Cond := [.fieldLink RX12 16 "MotionFloorModel" "hall" "LMotionFloorModel$Hall;", .methodLink RX12 40 yX11_act, .instanceMethod yX11_act, .selects RX11 yX11_act yX11_act, .initialized RX11]
def v_X12_told_0 : List Cond := .code yX12_told cX12_told 1 (some .int) :: (e_X12_told_0 ++ (wsX120 ++ (v_X11_act_30 ++ [])))
theorem te_X12_told_0 : GoodIn lw_tbl e_X12_told_0 := wGc z225 (wGc z368 (wGc z367 (wGc z366 (wGc z227 (wG0)))))
theorem t_X12_told_0 : GoodIn lw_tbl v_X12_told_0 := wGc z668 (wGa te_X12_told_0 (wGa zcX12 (wGa t_X11_act_30 (wG0))))
set_option maxHeartbeats 4000000 in
set_option maxRecDepth 100000 in
theorem m_X12_told_0 (l : Launch) (G : va_G) (K : Nat → ClassId) (h0 h1 h2 h3 h4 h5 h6 h7 h8 h9 h10 h11 h12 h13 h14 h15 h16 h17 h18 h19 h20 h21 h22 h23 h24 h25 h26 h27 h28 h29 h30 h31 h32 h33 : Nat) (sz : Nat) : Met l yX12_told v_X12_told_0 ({ frames := 5, cells := 0, slots := 0, locals := 118 }) (va_Pc [.ref h0] (wS G K sz [(h0, .inr (9, [.ref h1, .ref h2, .ref h3, .ref h4, .ref h5, .ref h6, .int 0])), (h1, .inr (8, [.int 1, .int 0, .int (-1), .int 0, .int 0, .int (-1), .int 0, .int 0, .int 0, .int 0, .int 0, .ref h7, .ref h8, .ref h9, .ref h10, .ref h11, .ref h12, .ref h13, .ref h14, .ref h15, .ref h16, .ref h17, .ref h18, .ref h19, .ref h20, .ref h21, .ref h22, .ref h23, .ref h24, .ref h25, .int 0, .ref h26, .ref h27, .ref h28, .ref h29, .int 0, .int 0, .ref h30, .ref h31, .int (-1), .ref h32, .ref h33]))])) (va_Qi (fun (r : Int32) (u : va_W) => ((-8) = r ∧ u = [(h0, .inr (9, [.ref h1, .ref h2, .ref h3, .ref h4, .ref h5, .ref h6, .int 0])), (h1, .inr (8, [.int 1, .int 0, .int (-1), .int 0, .int 0, .int (-1), .int 0, .int 0, .int 0, .int 0, .int 8, .ref h7, .ref h8, .ref h9, .ref h10, .ref h11, .ref h12, .ref h13, .ref h14, .ref h15, .ref h16, .ref h17, .ref h18, .ref h19, .ref h20, .ref h21, .ref h22, .ref h23, .ref h24, .ref h25, .int 0, .ref h26, .ref h27, .ref h28, .ref h29, .int 0, .int 0, .ref h30, .ref h31, .int (-1), .ref h32, .ref h33]))])) (wB G (va_A [(h0, .inr (9, [.ref h1, .ref h2, .ref h3, .ref h4, .ref h5, .ref h6, .int 0])), (h1, .inr (8, [.int 1, .int 0, .int (-1), .int 0, .int 0, .int (-1), .int 0, .int 0, .int 0, .int 0, .int 0, .ref h7, .ref h8, .ref h9, .ref h10, .ref h11, .ref h12, .ref h13, .ref h14, .ref h15, .ref h16, .ref h17, .ref h18, .ref h19, .ref h20, .ref h21, .ref h22, .ref h23, .ref h24, .ref h25, .int 0, .ref h26, .ref h27, .ref h28, .ref h29, .int 0, .int 0, .ref h30, .ref h31, .int (-1), .ref h32, .ref h33]))] sz)) (va_A [(h0, .inr (9, [.ref h1, .ref h2, .ref h3, .ref h4, .ref h5, .ref h6, .int 0])), (h1, .inr (8, [.int 1, .int 0, .int (-1), .int 0, .int 0, .int (-1), .int 0, .int 0, .int 0, .int 0, .int 0, .ref h7, .ref h8, .ref h9, .ref h10, .ref h11, .ref h12, .ref h13, .ref h14, .ref h15, .ref h16, .ref h17, .ref h18, .ref h19, .ref h20, .ref h21, .ref h22, .ref h23, .ref h24, .ref h25, .int 0, .ref h26, .ref h27, .ref h28, .ref h29, .int 0, .int 0, .ref h30, .ref h31, .int (-1), .ref h32, .ref h33]))] sz)) 0 0 (va_A [(h0, .inr (9, [.ref h1, .ref h2, .ref h3, .ref h4, .ref h5, .ref h6, .int 0])), (h1, .inr (8, [.int 1, .int 0, .int (-1), .int 0, .int 0, .int (-1), .int 0, .int 0, .int 0, .int 0, .int 0, .ref h7, .ref h8, .ref h9, .ref h10, .ref h11, .ref h12, .ref h13, .ref h14, .ref h15, .ref h16, .ref h17, .ref h18, .ref h19, .ref h20, .ref h21, .ref h22, .ref h23, .ref h24, .ref h25, .int 0, .ref h26, .ref h27, .ref h28, .ref h29, .int 0, .int 0, .ref h30, .ref h31, .int (-1), .ref h32, .ref h33]))] sz) := by
  refine Met.ofW (cc := cX12_told) (maxL := 1) (ret := (some .int)) (by decide) rfl ?_
  intro p e s m args below meth c s₁ B hml hv
  obtain ⟨rfl, hsz, hP, hK, hD0, hE⟩ := hv
  have hx := B.exec
  have hb := B.bytes
  have hr := B.returns
  have hts := atoms_spec (ws := v_X12_told_0) B.pre
  have t_ := t_X12_told_0
  have mw : ∀ w ∈ e_X12_told_0, w ∈ v_X12_told_0 := fun w h => List.mem_cons_of_mem _ (List.mem_append_left _ h)
  have hw := fun w (h : w ∈ e_X12_told_0) => hts w (mw w h)
  have iX12 : ∀ w ∈ wsX120, w ∈ v_X12_told_0 := fun w h => List.mem_cons_of_mem _ (List.mem_append_right _ (List.mem_append_left _ h))
  have j_X11_act_30 : ∀ w ∈ v_X11_act_30, w ∈ v_X12_told_0 := fun w h => List.mem_cons_of_mem _ (List.mem_append_right _ (List.mem_append_right _ (List.mem_append_left _ h)))
  have hown : s.vm.findClass RX12 = some m.cls := findClass_of_methodNamed B.named
  have hlocks := B.notSynchronized
  subst hsz
  have hD := hD0.self (sz := s.heap.size)
  generalize hAe : va_A [(h0, .inr (9, [.ref h1, .ref h2, .ref h3, .ref h4, .ref h5, .ref h6, .int 0])), (h1, .inr (8, [.int 1, .int 0, .int (-1), .int 0, .int 0, .int (-1), .int 0, .int 0, .int 0, .int 0, .int 0, .ref h7, .ref h8, .ref h9, .ref h10, .ref h11, .ref h12, .ref h13, .ref h14, .ref h15, .ref h16, .ref h17, .ref h18, .ref h19, .ref h20, .ref h21, .ref h22, .ref h23, .ref h24, .ref h25, .int 0, .ref h26, .ref h27, .ref h28, .ref h29, .int 0, .int 0, .ref h30, .ref h31, .int (-1), .ref h32, .ref h33]))] s.heap.size = A at hD ⊢
  have hA : ∀ q : Nat, s.heap.size ≤ q → A q := fun q h => by rw [← hAe]; exact Or.inr h
  have hS : va_S A s.heap s.heap [] := va_S.rf
  have hP : va_P G vwCl [(h0, .inr (9, [.ref h1, .ref h2, .ref h3, .ref h4, .ref h5, .ref h6, .int 0])), (h1, .inr (8, [.int 1, .int 0, .int (-1), .int 0, .int 0, .int (-1), .int 0, .int 0, .int 0, .int 0, .int 0, .ref h7, .ref h8, .ref h9, .ref h10, .ref h11, .ref h12, .ref h13, .ref h14, .ref h15, .ref h16, .ref h17, .ref h18, .ref h19, .ref h20, .ref h21, .ref h22, .ref h23, .ref h24, .ref h25, .int 0, .ref h26, .ref h27, .ref h28, .ref h29, .int 0, .int 0, .ref h30, .ref h31, .int (-1), .ref h32, .ref h33]))] s.heap := hP
  have hl := lv_entry ([.ref h0]) (n := 1) (Nat.le_of_ble_eq_true rfl)
  rw [lg_entry_eq]
  generalize (lg_sl ([.ref h0]) ++ List.replicate (1 - (lg_sl ([.ref h0])).length) Slot.unset).toArray = ls at hl ⊢
  have hl : lv_has ls 1 [(0, .ref h0)] := hl
  refine lv_aload_n hx hb dX12_told_0 rfl (lv_at hl 0 rfl) ?_
  refine va_get (D := G) (ci := 9) (v := .ref h1) (C := RX12) (T := TX12) (N := 7) hx hb hts iX12 hown hK hP 0 rfl rfl 0 (by decide) (hw (.fieldLink RX12 16 "MotionFloorModel" "hall" "LMotionFloorModel$Hall;") (List.mem_of_getElem? (i := 0) rfl)) (fun _ h9 => h9) rfl dX12_told_1 ?_
  refine lv_bipush (v := 21) hx hb dX12_told_4 (by decide) ?_
  refine lv_iconst (v := 0) hx hb dX12_told_6 (by decide) ?_
  refine lv_iconst (v := 0) hx hb dX12_told_7 (by decide) ?_
  refine lv_iconst (v := 0) hx hb dX12_told_8 (by decide) ?_
  refine lv_iconst (v := 0) hx hb dX12_told_9 (by decide) ?_
  have hPc := hP.sub (ws' := [(h1, .inr (8, [.int 1, .int 0, .int (-1), .int 0, .int 0, .int (-1), .int 0, .int 0, .int 0, .int 0, .int 0, .ref h7, .ref h8, .ref h9, .ref h10, .ref h11, .ref h12, .ref h13, .ref h14, .ref h15, .ref h16, .ref h17, .ref h18, .ref h19, .ref h20, .ref h21, .ref h22, .ref h23, .ref h24, .ref h25, .int 0, .ref h26, .ref h27, .ref h28, .ref h29, .int 0, .int 0, .ref h30, .ref h31, .int (-1), .ref h32, .ref h33]))]) [1] rfl
  have hDc := hD.sub (ws' := [(h1, .inr (8, [.int 1, .int 0, .int (-1), .int 0, .int 0, .int (-1), .int 0, .int 0, .int 0, .int 0, .int 0, .ref h7, .ref h8, .ref h9, .ref h10, .ref h11, .ref h12, .ref h13, .ref h14, .ref h15, .ref h16, .ref h17, .ref h18, .ref h19, .ref h20, .ref h21, .ref h22, .ref h23, .ref h24, .ref h25, .int 0, .ref h26, .ref h27, .ref h28, .ref h29, .int 0, .int 0, .ref h30, .ref h31, .int (-1), .ref h32, .ref h33]))]) [1] (by decide) rfl
  refine wGoi (wc := [(h1, .inr (8, [.int 1, .int 0, .int (-1), .int 0, .int 0, .int (-1), .int 0, .int 0, .int 0, .int 0, .int 0, .ref h7, .ref h8, .ref h9, .ref h10, .ref h11, .ref h12, .ref h13, .ref h14, .ref h15, .ref h16, .ref h17, .ref h18, .ref h19, .ref h20, .ref h21, .ref h22, .ref h23, .ref h24, .ref h25, .int 0, .ref h26, .ref h27, .ref h28, .ref h29, .int 0, .int 0, .ref h30, .ref h31, .int (-1), .ref h32, .ref h33]))]) (wr := [(h0, .inr (9, [.ref h1, .ref h2, .ref h3, .ref h4, .ref h5, .ref h6, .int 0]))]) (va_runV (As := [.int 21, .int 0, .int 0, .int 0, .int 0]) (rest := []) ⟨hx, hb, hml, hown, hts⟩ (m_X11_act_30 l G K h1 h7 h8 h9 h10 h11 h12 h13 h14 h15 h16 h17 h18 h19 h20 h21 h22 h23 h24 h25 h26 h27 h28 h29 h30 h31 h32 h33 _) (cwV 5 hts (wGV t_ (mw (.methodLink RX12 40 yX11_act) (List.mem_of_getElem? (i := 1) rfl)) (mw (.instanceMethod yX11_act) (List.mem_of_getElem? (i := 2) rfl)) (mw (.selects RX11 yX11_act yX11_act) (List.mem_of_getElem? (i := 3) rfl)) (mw (.initialized RX11) (List.mem_of_getElem? (i := 4) rfl)) j_X11_act_30) rfl rfl rfl (by decide +kernel) ⟨Nat.le_of_ble_eq_true rfl, Nat.le_of_ble_eq_true rfl⟩) (wPV hK hE hPc hDc 8 0 rfl rfl) rfl rfl hl.1 rfl (lv_room (Nat.le_of_ble_eq_true rfl)) dX12_told_10 ⟨Nat.le_of_ble_eq_true rfl, Nat.le_of_ble_eq_true rfl⟩) hP hD hS hA [1] [0] rfl rfl rfl (by decide) (fun r u H locs hw hP hD hS => ?_)
  rcases hw with ⟨rfl, rfl⟩
  have hP : va_P G vwCl [(h0, .inr (9, [.ref h1, .ref h2, .ref h3, .ref h4, .ref h5, .ref h6, .int 0])), (h1, .inr (8, [.int 1, .int 0, .int (-1), .int 0, .int 0, .int (-1), .int 0, .int 0, .int 0, .int 0, .int 8, .ref h7, .ref h8, .ref h9, .ref h10, .ref h11, .ref h12, .ref h13, .ref h14, .ref h15, .ref h16, .ref h17, .ref h18, .ref h19, .ref h20, .ref h21, .ref h22, .ref h23, .ref h24, .ref h25, .int 0, .ref h26, .ref h27, .ref h28, .ref h29, .int 0, .int 0, .ref h30, .ref h31, .int (-1), .ref h32, .ref h33]))] _ := hP
  have hD : va_D A [(h0, .inr (9, [.ref h1, .ref h2, .ref h3, .ref h4, .ref h5, .ref h6, .int 0])), (h1, .inr (8, [.int 1, .int 0, .int (-1), .int 0, .int 0, .int (-1), .int 0, .int 0, .int 0, .int 0, .int 8, .ref h7, .ref h8, .ref h9, .ref h10, .ref h11, .ref h12, .ref h13, .ref h14, .ref h15, .ref h16, .ref h17, .ref h18, .ref h19, .ref h20, .ref h21, .ref h22, .ref h23, .ref h24, .ref h25, .int 0, .ref h26, .ref h27, .ref h28, .ref h29, .int 0, .int 0, .ref h30, .ref h31, .int (-1), .ref h32, .ref h33]))] := hD
  have hP9 : va_P G vwCl [(h0, .inr (9, [.ref h1, .ref h2, .ref h3, .ref h4, .ref h5, .ref h6, .int 0])), (h1, .inr (8, [.int 1, .int 0, .int (-1), .int 0, .int 0, .int (-1), .int 0, .int 0, .int 0, .int 0, .int 8, .ref h7, .ref h8, .ref h9, .ref h10, .ref h11, .ref h12, .ref h13, .ref h14, .ref h15, .ref h16, .ref h17, .ref h18, .ref h19, .ref h20, .ref h21, .ref h22, .ref h23, .ref h24, .ref h25, .int 0, .ref h26, .ref h27, .ref h28, .ref h29, .int 0, .int 0, .ref h30, .ref h31, .int (-1), .ref h32, .ref h33]))] _ := hP
  have hD9 : va_D A [(h0, .inr (9, [.ref h1, .ref h2, .ref h3, .ref h4, .ref h5, .ref h6, .int 0])), (h1, .inr (8, [.int 1, .int 0, .int (-1), .int 0, .int 0, .int (-1), .int 0, .int 0, .int 0, .int 0, .int 8, .ref h7, .ref h8, .ref h9, .ref h10, .ref h11, .ref h12, .ref h13, .ref h14, .ref h15, .ref h16, .ref h17, .ref h18, .ref h19, .ref h20, .ref h21, .ref h22, .ref h23, .ref h24, .ref h25, .int 0, .ref h26, .ref h27, .ref h28, .ref h29, .int 0, .int 0, .ref h30, .ref h31, .int (-1), .ref h32, .ref h33]))] := hD
  exact W.iret (v := (-8)) hx hb hr (fun t ht hW => ⟨⟨(-8), _, rfl, ⟨rfl, rfl⟩, by rw [ht]; exact hP9, hD9⟩, hS.F ht⟩) hS.2.2 dX12_told_13
def e_X8_againstOnMotion_7 : List Cond := [.fieldLink RX8 34 "MotionFloor$Assembly" "house" "LMotionFloor$House;", .fieldLink RX8 79 "MotionFloor$House" "chair" "I", .methodLink RX8 82 yX2_isThere, .instanceMethod yX2_isThere, .selects RX2 yX2_isThere yX2_isThere, .initialized RX2]
def v_X8_againstOnMotion_7 : List Cond := .code yX8_againstOnMotion cX8_againstOnMotion 6 (some .int) :: (e_X8_againstOnMotion_7 ++ (wsX00 ++ (wsX20 ++ (v_X2_isThere_1 ++ []))))
theorem te_X8_againstOnMotion_7 : GoodIn lw_tbl e_X8_againstOnMotion_7 := wGc z300 (wGc z622 (wGc z292 (wGc z291 (wGc z290 (wGc z57 (wG0))))))
theorem t_X8_againstOnMotion_7 : GoodIn lw_tbl v_X8_againstOnMotion_7 := wGc z607 (wGa te_X8_againstOnMotion_7 (wGa zcX0 (wGa zcX2 (wGa t_X2_isThere_1 (wG0)))))
set_option maxHeartbeats 4000000 in
set_option maxRecDepth 100000 in
theorem m_X8_againstOnMotion_7 (l : Launch) (G : va_G) (K : Nat → ClassId) (h0 h1 h2 h3 h4 h5 h6 h7 h8 h9 : Nat) (sz : Nat) : Met l yX8_againstOnMotion v_X8_againstOnMotion_7 ({ frames := 1, cells := 0, slots := 0, locals := 21 }) (va_Pc [.ref h0, .int 22, .int 0, .int 0] (wS G K sz [(h0, .inr (0, [.ref h1, .ref h2, .ref h3, .ref h4, .ref h5, .ref h6, .ref h7, .int 0, .int 0, .int 0, .null])), (h1, .inr (1, [.int 1, .ref h8, .int 0, .int (-1), .int 0, .int 0, .int (-1), .ref h9]))])) (va_Qi (fun (r : Int32) (u : va_W) => (8 = r ∧ u = [(h0, .inr (0, [.ref h1, .ref h2, .ref h3, .ref h4, .ref h5, .ref h6, .ref h7, .int 0, .int 0, .int 0, .null])), (h1, .inr (1, [.int 1, .ref h8, .int 0, .int (-1), .int 0, .int 0, .int (-1), .ref h9]))])) (wB G (va_A [(h0, .inr (0, [.ref h1, .ref h2, .ref h3, .ref h4, .ref h5, .ref h6, .ref h7, .int 0, .int 0, .int 0, .null])), (h1, .inr (1, [.int 1, .ref h8, .int 0, .int (-1), .int 0, .int 0, .int (-1), .ref h9]))] sz)) (va_A [(h0, .inr (0, [.ref h1, .ref h2, .ref h3, .ref h4, .ref h5, .ref h6, .ref h7, .int 0, .int 0, .int 0, .null])), (h1, .inr (1, [.int 1, .ref h8, .int 0, .int (-1), .int 0, .int 0, .int (-1), .ref h9]))] sz)) 0 0 (va_A [(h0, .inr (0, [.ref h1, .ref h2, .ref h3, .ref h4, .ref h5, .ref h6, .ref h7, .int 0, .int 0, .int 0, .null])), (h1, .inr (1, [.int 1, .ref h8, .int 0, .int (-1), .int 0, .int 0, .int (-1), .ref h9]))] sz) := by
  refine Met.ofW (cc := cX8_againstOnMotion) (maxL := 6) (ret := (some .int)) (by decide) rfl ?_
  intro p e s m args below meth c s₁ B hml hv
  obtain ⟨rfl, hsz, hP, hK, hD0, hE⟩ := hv
  have hx := B.exec
  have hb := B.bytes
  have hr := B.returns
  have hts := atoms_spec (ws := v_X8_againstOnMotion_7) B.pre
  have t_ := t_X8_againstOnMotion_7
  have mw : ∀ w ∈ e_X8_againstOnMotion_7, w ∈ v_X8_againstOnMotion_7 := fun w h => List.mem_cons_of_mem _ (List.mem_append_left _ h)
  have hw := fun w (h : w ∈ e_X8_againstOnMotion_7) => hts w (mw w h)
  have iX0 : ∀ w ∈ wsX00, w ∈ v_X8_againstOnMotion_7 := fun w h => List.mem_cons_of_mem _ (List.mem_append_right _ (List.mem_append_left _ h))
  have iX2 : ∀ w ∈ wsX20, w ∈ v_X8_againstOnMotion_7 := fun w h => List.mem_cons_of_mem _ (List.mem_append_right _ (List.mem_append_right _ (List.mem_append_left _ h)))
  have j_X2_isThere_1 : ∀ w ∈ v_X2_isThere_1, w ∈ v_X8_againstOnMotion_7 := fun w h => List.mem_cons_of_mem _ (List.mem_append_right _ (List.mem_append_right _ (List.mem_append_right _ (List.mem_append_left _ h))))
  have hown : s.vm.findClass RX8 = some m.cls := findClass_of_methodNamed B.named
  have hlocks := B.notSynchronized
  subst hsz
  have hD := hD0.self (sz := s.heap.size)
  generalize hAe : va_A [(h0, .inr (0, [.ref h1, .ref h2, .ref h3, .ref h4, .ref h5, .ref h6, .ref h7, .int 0, .int 0, .int 0, .null])), (h1, .inr (1, [.int 1, .ref h8, .int 0, .int (-1), .int 0, .int 0, .int (-1), .ref h9]))] s.heap.size = A at hD ⊢
  have hA : ∀ q : Nat, s.heap.size ≤ q → A q := fun q h => by rw [← hAe]; exact Or.inr h
  have hS : va_S A s.heap s.heap [] := va_S.rf
  have hP : va_P G vwCl [(h0, .inr (0, [.ref h1, .ref h2, .ref h3, .ref h4, .ref h5, .ref h6, .ref h7, .int 0, .int 0, .int 0, .null])), (h1, .inr (1, [.int 1, .ref h8, .int 0, .int (-1), .int 0, .int 0, .int (-1), .ref h9]))] s.heap := hP
  have hl := lv_entry ([.ref h0, .int 22, .int 0, .int 0]) (n := 6) (Nat.le_of_ble_eq_true rfl)
  rw [lg_entry_eq]
  generalize (lg_sl ([.ref h0, .int 22, .int 0, .int 0]) ++ List.replicate (6 - (lg_sl ([.ref h0, .int 22, .int 0, .int 0])).length) Slot.unset).toArray = ls at hl ⊢
  have hl : lv_has ls 6 [(0, .ref h0), (1, .int 22), (2, .int 0), (3, .int 0)] := hl
  refine lv_iload_n hx hb dX8_againstOnMotion_0 rfl (lv_at hl 1 rfl) ?_
  refine lv_bipush (v := 15) hx hb dX8_againstOnMotion_1 (by decide) ?_
  refine lv_icmp_ne (tgt := 12) hx hb dX8_againstOnMotion_3 (by decide) (fun _ => ?_) (fun c_ => absurd c_ (by decide))
  refine lv_aload_n hx hb dX8_againstOnMotion_12 rfl (lv_at hl 0 rfl) ?_
  refine va_get (D := G) (ci := 0) (v := .ref h1) (C := RX0) (T := TX0) (N := 11) hx hb hts iX0 hown hK hP 0 rfl rfl 0 (by decide) (hw (.fieldLink RX8 34 "MotionFloor$Assembly" "house" "LMotionFloor$House;") (List.mem_of_getElem? (i := 0) rfl)) (fun _ h9 => h9) rfl dX8_againstOnMotion_13 ?_
  refine lv_aload_n hx hb dX8_againstOnMotion_16 rfl (lv_at hl 0 rfl) ?_
  refine va_get (D := G) (ci := 0) (v := .ref h1) (C := RX0) (T := TX0) (N := 11) hx hb hts iX0 hown hK hP 0 rfl rfl 0 (by decide) (hw (.fieldLink RX8 34 "MotionFloor$Assembly" "house" "LMotionFloor$House;") (List.mem_of_getElem? (i := 0) rfl)) (fun _ h9 => h9) rfl dX8_againstOnMotion_17 ?_
  refine va_get (D := G) (ci := 1) (v := .int (-1)) (C := RX2) (T := TX2) (N := 8) hx hb hts iX2 hown hK hP 1 rfl rfl 3 (by decide) (hw (.fieldLink RX8 79 "MotionFloor$House" "chair" "I") (List.mem_of_getElem? (i := 1) rfl)) (fun _ h9 => h9) rfl dX8_againstOnMotion_20 ?_
  have hPc := hP.sub (ws' := [(h1, .inr (1, [.int 1, .ref h8, .int 0, .int (-1), .int 0, .int 0, .int (-1), .ref h9]))]) [1] rfl
  have hDc := hD.sub (ws' := [(h1, .inr (1, [.int 1, .ref h8, .int 0, .int (-1), .int 0, .int 0, .int (-1), .ref h9]))]) [1] (by decide) rfl
  refine wGoi (wc := [(h1, .inr (1, [.int 1, .ref h8, .int 0, .int (-1), .int 0, .int 0, .int (-1), .ref h9]))]) (wr := [(h0, .inr (0, [.ref h1, .ref h2, .ref h3, .ref h4, .ref h5, .ref h6, .ref h7, .int 0, .int 0, .int 0, .null]))]) (va_runV (As := [.int (-1)]) (rest := []) ⟨hx, hb, hml, hown, hts⟩ (m_X2_isThere_1 l G K h1 h8 h9 _) (cwV 1 hts (wGV t_ (mw (.methodLink RX8 82 yX2_isThere) (List.mem_of_getElem? (i := 2) rfl)) (mw (.instanceMethod yX2_isThere) (List.mem_of_getElem? (i := 3) rfl)) (mw (.selects RX2 yX2_isThere yX2_isThere) (List.mem_of_getElem? (i := 4) rfl)) (mw (.initialized RX2) (List.mem_of_getElem? (i := 5) rfl)) j_X2_isThere_1) rfl rfl rfl (by decide +kernel) ⟨Nat.le_of_ble_eq_true rfl, Nat.le_of_ble_eq_true rfl⟩) (wPV hK hE hPc hDc 1 0 rfl rfl) rfl rfl hl.1 rfl (lv_room (Nat.le_of_ble_eq_true rfl)) dX8_againstOnMotion_23 ⟨Nat.le_of_ble_eq_true rfl, Nat.le_of_ble_eq_true rfl⟩) hP hD hS hA [1] [0] rfl rfl rfl (by decide) (fun r u H locs hw hP hD hS => ?_)
  rcases hw with ⟨rfl, rfl⟩
  have hP : va_P G vwCl [(h0, .inr (0, [.ref h1, .ref h2, .ref h3, .ref h4, .ref h5, .ref h6, .ref h7, .int 0, .int 0, .int 0, .null])), (h1, .inr (1, [.int 1, .ref h8, .int 0, .int (-1), .int 0, .int 0, .int (-1), .ref h9]))] _ := hP
  have hD : va_D A [(h0, .inr (0, [.ref h1, .ref h2, .ref h3, .ref h4, .ref h5, .ref h6, .ref h7, .int 0, .int 0, .int 0, .null])), (h1, .inr (1, [.int 1, .ref h8, .int 0, .int (-1), .int 0, .int 0, .int (-1), .ref h9]))] := hD
  refine lv_istore (lv' := [(4, .int 0), (0, .ref h0), (1, .int 22), (2, .int 0), (3, .int 0)]) hx hb dX8_againstOnMotion_26 hl (by decide) rfl (fun ls hl => ?_)
  refine lv_iload_n hx hb dX8_againstOnMotion_28 rfl (lv_at hl 2 rfl) ?_
  refine lv_bipush (v := 22) hx hb dX8_againstOnMotion_29 (by decide) ?_
  refine lv_icmp_ne (tgt := 46) hx hb dX8_againstOnMotion_31 (by decide) (fun c_ => absurd c_ (by decide)) (fun _ => ?_)
  refine lv_iload hx hb dX8_againstOnMotion_34 (lv_at hl 0 rfl) ?_
  refine lv_if_eq (tgt := 43) hx hb dX8_againstOnMotion_36 (by decide) (fun _ => ?_) (fun c_ => absurd c_ (by decide))
  refine lv_bipush (v := 8) hx hb dX8_againstOnMotion_43 (by decide) ?_
  have hP9 : va_P G vwCl [(h0, .inr (0, [.ref h1, .ref h2, .ref h3, .ref h4, .ref h5, .ref h6, .ref h7, .int 0, .int 0, .int 0, .null])), (h1, .inr (1, [.int 1, .ref h8, .int 0, .int (-1), .int 0, .int 0, .int (-1), .ref h9]))] _ := hP
  have hD9 : va_D A [(h0, .inr (0, [.ref h1, .ref h2, .ref h3, .ref h4, .ref h5, .ref h6, .ref h7, .int 0, .int 0, .int 0, .null])), (h1, .inr (1, [.int 1, .ref h8, .int 0, .int (-1), .int 0, .int 0, .int (-1), .ref h9]))] := hD
  exact W.iret (v := 8) hx hb hr (fun t ht hW => ⟨⟨8, _, rfl, ⟨rfl, rfl⟩, by rw [ht]; exact hP9, hD9⟩, hS.F ht⟩) hS.2.2 dX8_againstOnMotion_45
def e_X8_against_21 : List Cond := [.methodLink RX8 19 yX8_againstOnMotion, .static yX8_againstOnMotion, .initialized RX8]
def v_X8_against_21 : List Cond := .code yX8_against cX8_against 7 (some .int) :: (e_X8_against_21 ++ (v_X8_againstOnMotion_7 ++ []))
theorem te_X8_against_21 : GoodIn lw_tbl e_X8_against_21 := wGc z609 (wGc z608 (wGc z297 (wG0)))
theorem t_X8_against_21 : GoodIn lw_tbl v_X8_against_21 := wGc z310 (wGa te_X8_against_21 (wGa t_X8_againstOnMotion_7 (wG0)))
set_option maxHeartbeats 4000000 in
set_option maxRecDepth 100000 in
theorem m_X8_against_21 (l : Launch) (G : va_G) (K : Nat → ClassId) (h0 h1 h2 h3 h4 h5 h6 h7 h8 h9 : Nat) (sz : Nat) : Met l yX8_against v_X8_against_21 ({ frames := 2, cells := 0, slots := 0, locals := 46 }) (va_Pc [.ref h0, .int 22, .int 0, .int 0, .int 0, .int 0] (wS G K sz [(h0, .inr (0, [.ref h1, .ref h2, .ref h3, .ref h4, .ref h5, .ref h6, .ref h7, .int 0, .int 0, .int 0, .null])), (h1, .inr (1, [.int 1, .ref h8, .int 0, .int (-1), .int 0, .int 0, .int (-1), .ref h9]))])) (va_Qi (fun (r : Int32) (u : va_W) => (8 = r ∧ u = [(h0, .inr (0, [.ref h1, .ref h2, .ref h3, .ref h4, .ref h5, .ref h6, .ref h7, .int 0, .int 0, .int 0, .null])), (h1, .inr (1, [.int 1, .ref h8, .int 0, .int (-1), .int 0, .int 0, .int (-1), .ref h9]))])) (wB G (va_A [(h0, .inr (0, [.ref h1, .ref h2, .ref h3, .ref h4, .ref h5, .ref h6, .ref h7, .int 0, .int 0, .int 0, .null])), (h1, .inr (1, [.int 1, .ref h8, .int 0, .int (-1), .int 0, .int 0, .int (-1), .ref h9]))] sz)) (va_A [(h0, .inr (0, [.ref h1, .ref h2, .ref h3, .ref h4, .ref h5, .ref h6, .ref h7, .int 0, .int 0, .int 0, .null])), (h1, .inr (1, [.int 1, .ref h8, .int 0, .int (-1), .int 0, .int 0, .int (-1), .ref h9]))] sz)) 0 0 (va_A [(h0, .inr (0, [.ref h1, .ref h2, .ref h3, .ref h4, .ref h5, .ref h6, .ref h7, .int 0, .int 0, .int 0, .null])), (h1, .inr (1, [.int 1, .ref h8, .int 0, .int (-1), .int 0, .int 0, .int (-1), .ref h9]))] sz) := by
  refine Met.ofW (cc := cX8_against) (maxL := 7) (ret := (some .int)) (by decide) rfl ?_
  intro p e s m args below meth c s₁ B hml hv
  obtain ⟨rfl, hsz, hP, hK, hD0, hE⟩ := hv
  have hx := B.exec
  have hb := B.bytes
  have hr := B.returns
  have hts := atoms_spec (ws := v_X8_against_21) B.pre
  have t_ := t_X8_against_21
  have mw : ∀ w ∈ e_X8_against_21, w ∈ v_X8_against_21 := fun w h => List.mem_cons_of_mem _ (List.mem_append_left _ h)
  have hw := fun w (h : w ∈ e_X8_against_21) => hts w (mw w h)
  have j_X8_againstOnMotion_7 : ∀ w ∈ v_X8_againstOnMotion_7, w ∈ v_X8_against_21 := fun w h => List.mem_cons_of_mem _ (List.mem_append_right _ (List.mem_append_left _ h))
  have hown : s.vm.findClass RX8 = some m.cls := findClass_of_methodNamed B.named
  have hlocks := B.notSynchronized
  subst hsz
  have hD := hD0.self (sz := s.heap.size)
  generalize hAe : va_A [(h0, .inr (0, [.ref h1, .ref h2, .ref h3, .ref h4, .ref h5, .ref h6, .ref h7, .int 0, .int 0, .int 0, .null])), (h1, .inr (1, [.int 1, .ref h8, .int 0, .int (-1), .int 0, .int 0, .int (-1), .ref h9]))] s.heap.size = A at hD ⊢
  have hA : ∀ q : Nat, s.heap.size ≤ q → A q := fun q h => by rw [← hAe]; exact Or.inr h
  have hS : va_S A s.heap s.heap [] := va_S.rf
  have hP : va_P G vwCl [(h0, .inr (0, [.ref h1, .ref h2, .ref h3, .ref h4, .ref h5, .ref h6, .ref h7, .int 0, .int 0, .int 0, .null])), (h1, .inr (1, [.int 1, .ref h8, .int 0, .int (-1), .int 0, .int 0, .int (-1), .ref h9]))] s.heap := hP
  have hl := lv_entry ([.ref h0, .int 22, .int 0, .int 0, .int 0, .int 0]) (n := 7) (Nat.le_of_ble_eq_true rfl)
  rw [lg_entry_eq]
  generalize (lg_sl ([.ref h0, .int 22, .int 0, .int 0, .int 0, .int 0]) ++ List.replicate (7 - (lg_sl ([.ref h0, .int 22, .int 0, .int 0, .int 0, .int 0])).length) Slot.unset).toArray = ls at hl ⊢
  have hl : lv_has ls 7 [(0, .ref h0), (1, .int 22), (2, .int 0), (3, .int 0), (4, .int 0), (5, .int 0)] := hl
  refine lv_iload_n hx hb dX8_against_0 rfl (lv_at hl 1 rfl) ?_
  refine lv_bipush (v := 9) hx hb dX8_against_1 (by decide) ?_
  refine lv_icmp_gt (tgt := 18) hx hb dX8_against_3 (by decide) (fun _ => ?_) (fun c_ => absurd c_ (by decide))
  refine lv_iload_n hx hb dX8_against_18 rfl (lv_at hl 1 rfl) ?_
  refine lv_bipush (v := 14) hx hb dX8_against_19 (by decide) ?_
  refine lv_icmp_gt (tgt := 40) hx hb dX8_against_21 (by decide) (fun _ => ?_) (fun c_ => absurd c_ (by decide))
  refine lv_aload_n hx hb dX8_against_40 rfl (lv_at hl 0 rfl) ?_
  refine lv_iload_n hx hb dX8_against_41 rfl (lv_at hl 1 rfl) ?_
  refine lv_iload_n hx hb dX8_against_42 rfl (lv_at hl 2 rfl) ?_
  refine lv_iload_n hx hb dX8_against_43 rfl (lv_at hl 3 rfl) ?_
  have hPc := hP.sub (ws' := [(h0, .inr (0, [.ref h1, .ref h2, .ref h3, .ref h4, .ref h5, .ref h6, .ref h7, .int 0, .int 0, .int 0, .null])), (h1, .inr (1, [.int 1, .ref h8, .int 0, .int (-1), .int 0, .int 0, .int (-1), .ref h9]))]) [0, 1] rfl
  have hDc := hD.sub (ws' := [(h0, .inr (0, [.ref h1, .ref h2, .ref h3, .ref h4, .ref h5, .ref h6, .ref h7, .int 0, .int 0, .int 0, .null])), (h1, .inr (1, [.int 1, .ref h8, .int 0, .int (-1), .int 0, .int 0, .int (-1), .ref h9]))]) [0, 1] (by decide) rfl
  refine wGoi (wc := [(h0, .inr (0, [.ref h1, .ref h2, .ref h3, .ref h4, .ref h5, .ref h6, .ref h7, .int 0, .int 0, .int 0, .null])), (h1, .inr (1, [.int 1, .ref h8, .int 0, .int (-1), .int 0, .int 0, .int (-1), .ref h9]))]) (wr := []) (va_runS (As := [.ref h0, .int 22, .int 0, .int 0]) (rest := []) ⟨hx, hb, hml, hown, hts⟩ (m_X8_againstOnMotion_7 l G K h0 h1 h2 h3 h4 h5 h6 h7 h8 h9 _) (va_cwS 4 hts (wGS t_ (mw (.methodLink RX8 19 yX8_againstOnMotion) (List.mem_of_getElem? (i := 0) rfl)) (mw (.static yX8_againstOnMotion) (List.mem_of_getElem? (i := 1) rfl)) (mw (.initialized RX8) (List.mem_of_getElem? (i := 2) rfl)) j_X8_againstOnMotion_7) rfl rfl rfl (by decide +kernel) ⟨Nat.le_of_ble_eq_true rfl, Nat.le_of_ble_eq_true rfl⟩) (wPS hK hE hPc hDc) rfl rfl hl.1 rfl (lv_room (Nat.le_of_ble_eq_true rfl)) dX8_against_44 ⟨Nat.le_of_ble_eq_true rfl, Nat.le_of_ble_eq_true rfl⟩) hP hD hS hA [0, 1] [] rfl rfl rfl (by decide) (fun r u H locs hw hP hD hS => ?_)
  rcases hw with ⟨rfl, rfl⟩
  have hP : va_P G vwCl [(h0, .inr (0, [.ref h1, .ref h2, .ref h3, .ref h4, .ref h5, .ref h6, .ref h7, .int 0, .int 0, .int 0, .null])), (h1, .inr (1, [.int 1, .ref h8, .int 0, .int (-1), .int 0, .int 0, .int (-1), .ref h9]))] _ := hP
  have hD : va_D A [(h0, .inr (0, [.ref h1, .ref h2, .ref h3, .ref h4, .ref h5, .ref h6, .ref h7, .int 0, .int 0, .int 0, .null])), (h1, .inr (1, [.int 1, .ref h8, .int 0, .int (-1), .int 0, .int 0, .int (-1), .ref h9]))] := hD
  refine lv_istore (lv' := [(6, .int 8), (0, .ref h0), (1, .int 22), (2, .int 0), (3, .int 0), (4, .int 0), (5, .int 0)]) hx hb dX8_against_47 hl (by decide) rfl (fun ls hl => ?_)
  refine lv_iload hx hb dX8_against_49 (lv_at hl 0 rfl) ?_
  refine lv_if_ne (tgt := 69) hx hb dX8_against_51 (by decide) (fun _ => ?_) (fun c_ => absurd c_ (by decide))
  refine lv_iload hx hb dX8_against_69 (lv_at hl 0 rfl) ?_
  have hP9 : va_P G vwCl [(h0, .inr (0, [.ref h1, .ref h2, .ref h3, .ref h4, .ref h5, .ref h6, .ref h7, .int 0, .int 0, .int 0, .null])), (h1, .inr (1, [.int 1, .ref h8, .int 0, .int (-1), .int 0, .int 0, .int (-1), .ref h9]))] _ := hP
  have hD9 : va_D A [(h0, .inr (0, [.ref h1, .ref h2, .ref h3, .ref h4, .ref h5, .ref h6, .ref h7, .int 0, .int 0, .int 0, .null])), (h1, .inr (1, [.int 1, .ref h8, .int 0, .int (-1), .int 0, .int 0, .int (-1), .ref h9]))] := hD
  exact W.iret (v := 8) hx hb hr (fun t ht hW => ⟨⟨8, _, rfl, ⟨rfl, rfl⟩, by rw [ht]; exact hP9, hD9⟩, hS.F ht⟩) hS.2.2 dX8_against_71
def e_X0_enact_21 : List Cond := [.methodLink RX0 155 yX8_against, .static yX8_against, .initialized RX8, .fieldLink RX0 73 "MotionFloor$Assembly" "reason" "I"]
def v_X0_enact_21 : List Cond := .code yX0_enact cX0_enact 7 (some .int) :: (e_X0_enact_21 ++ (wsX00 ++ (v_X8_against_21 ++ [])))
theorem te_X0_enact_21 : GoodIn lw_tbl e_X0_enact_21 := wGc z345 (wGc z344 (wGc z297 (wGc z263 (wG0))))
theorem t_X0_enact_21 : GoodIn lw_tbl v_X0_enact_21 := wGc z346 (wGa te_X0_enact_21 (wGa zcX0 (wGa t_X8_against_21 (wG0))))
set_option maxHeartbeats 4000000 in
set_option maxRecDepth 100000 in
theorem m_X0_enact_21 (l : Launch) (G : va_G) (K : Nat → ClassId) (h0 h1 h2 h3 h4 h5 h6 h7 h8 h9 : Nat) (sz : Nat) : Met l yX0_enact v_X0_enact_21 ({ frames := 3, cells := 0, slots := 0, locals := 72 }) (va_Pc [.ref h0, .int 22, .int 0, .int 0, .int 0, .int 0] (wS G K sz [(h0, .inr (0, [.ref h1, .ref h2, .ref h3, .ref h4, .ref h5, .ref h6, .ref h7, .int 0, .int 0, .int 0, .null])), (h1, .inr (1, [.int 1, .ref h8, .int 0, .int (-1), .int 0, .int 0, .int (-1), .ref h9]))])) (va_Qi (fun (r : Int32) (u : va_W) => ((-8) = r ∧ u = [(h0, .inr (0, [.ref h1, .ref h2, .ref h3, .ref h4, .ref h5, .ref h6, .ref h7, .int 0, .int 0, .int 8, .null])), (h1, .inr (1, [.int 1, .ref h8, .int 0, .int (-1), .int 0, .int 0, .int (-1), .ref h9]))])) (wB G (va_A [(h0, .inr (0, [.ref h1, .ref h2, .ref h3, .ref h4, .ref h5, .ref h6, .ref h7, .int 0, .int 0, .int 0, .null])), (h1, .inr (1, [.int 1, .ref h8, .int 0, .int (-1), .int 0, .int 0, .int (-1), .ref h9]))] sz)) (va_A [(h0, .inr (0, [.ref h1, .ref h2, .ref h3, .ref h4, .ref h5, .ref h6, .ref h7, .int 0, .int 0, .int 0, .null])), (h1, .inr (1, [.int 1, .ref h8, .int 0, .int (-1), .int 0, .int 0, .int (-1), .ref h9]))] sz)) 0 0 (va_A [(h0, .inr (0, [.ref h1, .ref h2, .ref h3, .ref h4, .ref h5, .ref h6, .ref h7, .int 0, .int 0, .int 0, .null])), (h1, .inr (1, [.int 1, .ref h8, .int 0, .int (-1), .int 0, .int 0, .int (-1), .ref h9]))] sz) := by
  refine Met.ofW (cc := cX0_enact) (maxL := 7) (ret := (some .int)) (by decide) rfl ?_
  intro p e s m args below meth c s₁ B hml hv
  obtain ⟨rfl, hsz, hP, hK, hD0, hE⟩ := hv
  have hx := B.exec
  have hb := B.bytes
  have hr := B.returns
  have hts := atoms_spec (ws := v_X0_enact_21) B.pre
  have t_ := t_X0_enact_21
  have mw : ∀ w ∈ e_X0_enact_21, w ∈ v_X0_enact_21 := fun w h => List.mem_cons_of_mem _ (List.mem_append_left _ h)
  have hw := fun w (h : w ∈ e_X0_enact_21) => hts w (mw w h)
  have iX0 : ∀ w ∈ wsX00, w ∈ v_X0_enact_21 := fun w h => List.mem_cons_of_mem _ (List.mem_append_right _ (List.mem_append_left _ h))
  have j_X8_against_21 : ∀ w ∈ v_X8_against_21, w ∈ v_X0_enact_21 := fun w h => List.mem_cons_of_mem _ (List.mem_append_right _ (List.mem_append_right _ (List.mem_append_left _ h)))
  have hown : s.vm.findClass RX0 = some m.cls := findClass_of_methodNamed B.named
  have hlocks := B.notSynchronized
  subst hsz
  have hD := hD0.self (sz := s.heap.size)
  generalize hAe : va_A [(h0, .inr (0, [.ref h1, .ref h2, .ref h3, .ref h4, .ref h5, .ref h6, .ref h7, .int 0, .int 0, .int 0, .null])), (h1, .inr (1, [.int 1, .ref h8, .int 0, .int (-1), .int 0, .int 0, .int (-1), .ref h9]))] s.heap.size = A at hD ⊢
  have hA : ∀ q : Nat, s.heap.size ≤ q → A q := fun q h => by rw [← hAe]; exact Or.inr h
  have hS : va_S A s.heap s.heap [] := va_S.rf
  have hP : va_P G vwCl [(h0, .inr (0, [.ref h1, .ref h2, .ref h3, .ref h4, .ref h5, .ref h6, .ref h7, .int 0, .int 0, .int 0, .null])), (h1, .inr (1, [.int 1, .ref h8, .int 0, .int (-1), .int 0, .int 0, .int (-1), .ref h9]))] s.heap := hP
  have hl := lv_entry ([.ref h0, .int 22, .int 0, .int 0, .int 0, .int 0]) (n := 7) (Nat.le_of_ble_eq_true rfl)
  rw [lg_entry_eq]
  generalize (lg_sl ([.ref h0, .int 22, .int 0, .int 0, .int 0, .int 0]) ++ List.replicate (7 - (lg_sl ([.ref h0, .int 22, .int 0, .int 0, .int 0, .int 0])).length) Slot.unset).toArray = ls at hl ⊢
  have hl : lv_has ls 7 [(0, .ref h0), (1, .int 22), (2, .int 0), (3, .int 0), (4, .int 0), (5, .int 0)] := hl
  refine lv_aload_n hx hb dX0_enact_0 rfl (lv_at hl 0 rfl) ?_
  refine lv_aload_n hx hb dX0_enact_1 rfl (lv_at hl 0 rfl) ?_
  refine lv_iload_n hx hb dX0_enact_2 rfl (lv_at hl 1 rfl) ?_
  refine lv_iload_n hx hb dX0_enact_3 rfl (lv_at hl 2 rfl) ?_
  refine lv_iload_n hx hb dX0_enact_4 rfl (lv_at hl 3 rfl) ?_
  refine lv_iload hx hb dX0_enact_5 (lv_at hl 4 rfl) ?_
  refine lv_iload hx hb dX0_enact_7 (lv_at hl 5 rfl) ?_
  have hPc := hP.sub (ws' := [(h0, .inr (0, [.ref h1, .ref h2, .ref h3, .ref h4, .ref h5, .ref h6, .ref h7, .int 0, .int 0, .int 0, .null])), (h1, .inr (1, [.int 1, .ref h8, .int 0, .int (-1), .int 0, .int 0, .int (-1), .ref h9]))]) [0, 1] rfl
  have hDc := hD.sub (ws' := [(h0, .inr (0, [.ref h1, .ref h2, .ref h3, .ref h4, .ref h5, .ref h6, .ref h7, .int 0, .int 0, .int 0, .null])), (h1, .inr (1, [.int 1, .ref h8, .int 0, .int (-1), .int 0, .int 0, .int (-1), .ref h9]))]) [0, 1] (by decide) rfl
  refine wGoi (wc := [(h0, .inr (0, [.ref h1, .ref h2, .ref h3, .ref h4, .ref h5, .ref h6, .ref h7, .int 0, .int 0, .int 0, .null])), (h1, .inr (1, [.int 1, .ref h8, .int 0, .int (-1), .int 0, .int 0, .int (-1), .ref h9]))]) (wr := []) (va_runS (As := [.ref h0, .int 22, .int 0, .int 0, .int 0, .int 0]) (rest := [.ref h0]) ⟨hx, hb, hml, hown, hts⟩ (m_X8_against_21 l G K h0 h1 h2 h3 h4 h5 h6 h7 h8 h9 _) (va_cwS 6 hts (wGS t_ (mw (.methodLink RX0 155 yX8_against) (List.mem_of_getElem? (i := 0) rfl)) (mw (.static yX8_against) (List.mem_of_getElem? (i := 1) rfl)) (mw (.initialized RX8) (List.mem_of_getElem? (i := 2) rfl)) j_X8_against_21) rfl rfl rfl (by decide +kernel) ⟨Nat.le_of_ble_eq_true rfl, Nat.le_of_ble_eq_true rfl⟩) (wPS hK hE hPc hDc) rfl rfl hl.1 rfl (lv_room (Nat.le_of_ble_eq_true rfl)) dX0_enact_9 ⟨Nat.le_of_ble_eq_true rfl, Nat.le_of_ble_eq_true rfl⟩) hP hD hS hA [0, 1] [] rfl rfl rfl (by decide) (fun r u H locs hw hP hD hS => ?_)
  rcases hw with ⟨rfl, rfl⟩
  have hP : va_P G vwCl [(h0, .inr (0, [.ref h1, .ref h2, .ref h3, .ref h4, .ref h5, .ref h6, .ref h7, .int 0, .int 0, .int 0, .null])), (h1, .inr (1, [.int 1, .ref h8, .int 0, .int (-1), .int 0, .int 0, .int (-1), .ref h9]))] _ := hP
  have hD : va_D A [(h0, .inr (0, [.ref h1, .ref h2, .ref h3, .ref h4, .ref h5, .ref h6, .ref h7, .int 0, .int 0, .int 0, .null])), (h1, .inr (1, [.int 1, .ref h8, .int 0, .int (-1), .int 0, .int 0, .int (-1), .ref h9]))] := hD
  refine va_put (D := G) (ci := 0) (v := .int 8) (ty := .int) (C := RX0) (T := TX0) (N := 11) hx hb hts iX0 tyX0 tyX0_ok nmX0 hown hK hP hD hS 0 rfl rfl 9 (by decide) (hw (.fieldLink RX0 73 "MotionFloor$Assembly" "reason" "I") (List.mem_of_getElem? (i := 3) rfl)) (fun _ h9 => h9) rfl (by decide +kernel) rfl rfl (Nat.le_of_ble_eq_true rfl) dX0_enact_12 (fun H locs hP hD hS => ?_)
  have hP : va_P G vwCl [(h0, .inr (0, [.ref h1, .ref h2, .ref h3, .ref h4, .ref h5, .ref h6, .ref h7, .int 0, .int 0, .int 8, .null])), (h1, .inr (1, [.int 1, .ref h8, .int 0, .int (-1), .int 0, .int 0, .int (-1), .ref h9]))] _ := hP
  have hD : va_D A [(h0, .inr (0, [.ref h1, .ref h2, .ref h3, .ref h4, .ref h5, .ref h6, .ref h7, .int 0, .int 0, .int 8, .null])), (h1, .inr (1, [.int 1, .ref h8, .int 0, .int (-1), .int 0, .int 0, .int (-1), .ref h9]))] := hD
  refine lv_aload_n hx hb dX0_enact_15 rfl (lv_at hl 0 rfl) ?_
  refine va_get (D := G) (ci := 0) (v := .int 8) (C := RX0) (T := TX0) (N := 11) hx hb hts iX0 hown hK hP 0 rfl rfl 9 (by decide) (hw (.fieldLink RX0 73 "MotionFloor$Assembly" "reason" "I") (List.mem_of_getElem? (i := 3) rfl)) (fun _ h9 => h9) rfl dX0_enact_16 ?_
  refine lv_if_eq (tgt := 28) hx hb dX0_enact_19 (by decide) (fun c_ => absurd c_ (by decide)) (fun _ => ?_)
  refine lv_aload_n hx hb dX0_enact_22 rfl (lv_at hl 0 rfl) ?_
  refine va_get (D := G) (ci := 0) (v := .int 8) (C := RX0) (T := TX0) (N := 11) hx hb hts iX0 hown hK hP 0 rfl rfl 9 (by decide) (hw (.fieldLink RX0 73 "MotionFloor$Assembly" "reason" "I") (List.mem_of_getElem? (i := 3) rfl)) (fun _ h9 => h9) rfl dX0_enact_23 ?_
  refine lv_ineg hx hb dX0_enact_26 ?_
  refine wTop (v1 := .int (-8)) (congrArg Value.int (by decide)) ?_
  have hP9 : va_P G vwCl [(h0, .inr (0, [.ref h1, .ref h2, .ref h3, .ref h4, .ref h5, .ref h6, .ref h7, .int 0, .int 0, .int 8, .null])), (h1, .inr (1, [.int 1, .ref h8, .int 0, .int (-1), .int 0, .int 0, .int (-1), .ref h9]))] _ := hP
  have hD9 : va_D A [(h0, .inr (0, [.ref h1, .ref h2, .ref h3, .ref h4, .ref h5, .ref h6, .ref h7, .int 0, .int 0, .int 8, .null])), (h1, .inr (1, [.int 1, .ref h8, .int 0, .int (-1), .int 0, .int 0, .int (-1), .ref h9]))] := hD
  exact W.iret (v := (-8)) hx hb hr (fun t ht hW => ⟨⟨(-8), _, rfl, ⟨rfl, rfl⟩, by rw [ht]; exact hP9, hD9⟩, hS.F ht⟩) hS.2.2 dX0_enact_27
def e_X10_adjourn_0 : List Cond := [.fieldLink RX10 10 "MotionFloor" "now" "LMotionFloor$Assembly;", .methodLink RX10 32 yX0_enact, .instanceMethod yX0_enact, .selects RX0 yX0_enact yX0_enact, .initialized RX0]
def v_X10_adjourn_0 : List Cond := .code yX10_adjourn cX10_adjourn 1 (some .int) :: (e_X10_adjourn_0 ++ (wsX100 ++ (v_X0_enact_21 ++ [])))
theorem te_X10_adjourn_0 : GoodIn lw_tbl e_X10_adjourn_0 := wGc z115 (wGc z349 (wGc z348 (wGc z347 (wGc z118 (wG0)))))
theorem t_X10_adjourn_0 : GoodIn lw_tbl v_X10_adjourn_0 := wGc z675 (wGa te_X10_adjourn_0 (wGa zcX10 (wGa t_X0_enact_21 (wG0))))
set_option maxHeartbeats 4000000 in
set_option maxRecDepth 100000 in
theorem m_X10_adjourn_0 (l : Launch) (G : va_G) (K : Nat → ClassId) (h0 h1 h2 h3 h4 h5 h6 h7 h8 h9 h10 h11 h12 : Nat) (sz : Nat) : Met l yX10_adjourn v_X10_adjourn_0 ({ frames := 4, cells := 0, slots := 0, locals := 98 }) (va_Pc [.ref h0] (wS G K sz [(h0, .inr (7, [.ref h1, .ref h3, .null, .null, .ref h4])), (h1, .inr (0, [.ref h2, .ref h5, .ref h6, .ref h7, .ref h8, .ref h9, .ref h10, .int 0, .int 0, .int 0, .null])), (h2, .inr (1, [.int 1, .ref h11, .int 0, .int (-1), .int 0, .int 0, .int (-1), .ref h12]))])) (va_Qi (fun (r : Int32) (u : va_W) => ((-8) = r ∧ u = [(h0, .inr (7, [.ref h1, .ref h3, .null, .null, .ref h4])), (h1, .inr (0, [.ref h2, .ref h5, .ref h6, .ref h7, .ref h8, .ref h9, .ref h10, .int 0, .int 0, .int 8, .null])), (h2, .inr (1, [.int 1, .ref h11, .int 0, .int (-1), .int 0, .int 0, .int (-1), .ref h12]))])) (wB G (va_A [(h0, .inr (7, [.ref h1, .ref h3, .null, .null, .ref h4])), (h1, .inr (0, [.ref h2, .ref h5, .ref h6, .ref h7, .ref h8, .ref h9, .ref h10, .int 0, .int 0, .int 0, .null])), (h2, .inr (1, [.int 1, .ref h11, .int 0, .int (-1), .int 0, .int 0, .int (-1), .ref h12]))] sz)) (va_A [(h0, .inr (7, [.ref h1, .ref h3, .null, .null, .ref h4])), (h1, .inr (0, [.ref h2, .ref h5, .ref h6, .ref h7, .ref h8, .ref h9, .ref h10, .int 0, .int 0, .int 0, .null])), (h2, .inr (1, [.int 1, .ref h11, .int 0, .int (-1), .int 0, .int 0, .int (-1), .ref h12]))] sz)) 0 0 (va_A [(h0, .inr (7, [.ref h1, .ref h3, .null, .null, .ref h4])), (h1, .inr (0, [.ref h2, .ref h5, .ref h6, .ref h7, .ref h8, .ref h9, .ref h10, .int 0, .int 0, .int 0, .null])), (h2, .inr (1, [.int 1, .ref h11, .int 0, .int (-1), .int 0, .int 0, .int (-1), .ref h12]))] sz) := by
  refine Met.ofW (cc := cX10_adjourn) (maxL := 1) (ret := (some .int)) (by decide) rfl ?_
  intro p e s m args below meth c s₁ B hml hv
  obtain ⟨rfl, hsz, hP, hK, hD0, hE⟩ := hv
  have hx := B.exec
  have hb := B.bytes
  have hr := B.returns
  have hts := atoms_spec (ws := v_X10_adjourn_0) B.pre
  have t_ := t_X10_adjourn_0
  have mw : ∀ w ∈ e_X10_adjourn_0, w ∈ v_X10_adjourn_0 := fun w h => List.mem_cons_of_mem _ (List.mem_append_left _ h)
  have hw := fun w (h : w ∈ e_X10_adjourn_0) => hts w (mw w h)
  have iX10 : ∀ w ∈ wsX100, w ∈ v_X10_adjourn_0 := fun w h => List.mem_cons_of_mem _ (List.mem_append_right _ (List.mem_append_left _ h))
  have j_X0_enact_21 : ∀ w ∈ v_X0_enact_21, w ∈ v_X10_adjourn_0 := fun w h => List.mem_cons_of_mem _ (List.mem_append_right _ (List.mem_append_right _ (List.mem_append_left _ h)))
  have hown : s.vm.findClass RX10 = some m.cls := findClass_of_methodNamed B.named
  have hlocks := B.notSynchronized
  subst hsz
  have hD := hD0.self (sz := s.heap.size)
  generalize hAe : va_A [(h0, .inr (7, [.ref h1, .ref h3, .null, .null, .ref h4])), (h1, .inr (0, [.ref h2, .ref h5, .ref h6, .ref h7, .ref h8, .ref h9, .ref h10, .int 0, .int 0, .int 0, .null])), (h2, .inr (1, [.int 1, .ref h11, .int 0, .int (-1), .int 0, .int 0, .int (-1), .ref h12]))] s.heap.size = A at hD ⊢
  have hA : ∀ q : Nat, s.heap.size ≤ q → A q := fun q h => by rw [← hAe]; exact Or.inr h
  have hS : va_S A s.heap s.heap [] := va_S.rf
  have hP : va_P G vwCl [(h0, .inr (7, [.ref h1, .ref h3, .null, .null, .ref h4])), (h1, .inr (0, [.ref h2, .ref h5, .ref h6, .ref h7, .ref h8, .ref h9, .ref h10, .int 0, .int 0, .int 0, .null])), (h2, .inr (1, [.int 1, .ref h11, .int 0, .int (-1), .int 0, .int 0, .int (-1), .ref h12]))] s.heap := hP
  have hl := lv_entry ([.ref h0]) (n := 1) (Nat.le_of_ble_eq_true rfl)
  rw [lg_entry_eq]
  generalize (lg_sl ([.ref h0]) ++ List.replicate (1 - (lg_sl ([.ref h0])).length) Slot.unset).toArray = ls at hl ⊢
  have hl : lv_has ls 1 [(0, .ref h0)] := hl
  refine lv_aload_n hx hb dX10_adjourn_0 rfl (lv_at hl 0 rfl) ?_
  refine va_get (D := G) (ci := 7) (v := .ref h1) (C := RX10) (T := TX10) (N := 5) hx hb hts iX10 hown hK hP 0 rfl rfl 0 (by decide) (hw (.fieldLink RX10 10 "MotionFloor" "now" "LMotionFloor$Assembly;") (List.mem_of_getElem? (i := 0) rfl)) (fun _ h9 => h9) rfl dX10_adjourn_1 ?_
  refine lv_bipush (v := 22) hx hb dX10_adjourn_4 (by decide) ?_
  refine lv_iconst (v := 0) hx hb dX10_adjourn_6 (by decide) ?_
  refine lv_iconst (v := 0) hx hb dX10_adjourn_7 (by decide) ?_
  refine lv_iconst (v := 0) hx hb dX10_adjourn_8 (by decide) ?_
  refine lv_iconst (v := 0) hx hb dX10_adjourn_9 (by decide) ?_
  have hPc := hP.sub (ws' := [(h1, .inr (0, [.ref h2, .ref h5, .ref h6, .ref h7, .ref h8, .ref h9, .ref h10, .int 0, .int 0, .int 0, .null])), (h2, .inr (1, [.int 1, .ref h11, .int 0, .int (-1), .int 0, .int 0, .int (-1), .ref h12]))]) [1, 2] rfl
  have hDc := hD.sub (ws' := [(h1, .inr (0, [.ref h2, .ref h5, .ref h6, .ref h7, .ref h8, .ref h9, .ref h10, .int 0, .int 0, .int 0, .null])), (h2, .inr (1, [.int 1, .ref h11, .int 0, .int (-1), .int 0, .int 0, .int (-1), .ref h12]))]) [1, 2] (by decide) rfl
  refine wGoi (wc := [(h1, .inr (0, [.ref h2, .ref h5, .ref h6, .ref h7, .ref h8, .ref h9, .ref h10, .int 0, .int 0, .int 0, .null])), (h2, .inr (1, [.int 1, .ref h11, .int 0, .int (-1), .int 0, .int 0, .int (-1), .ref h12]))]) (wr := [(h0, .inr (7, [.ref h1, .ref h3, .null, .null, .ref h4]))]) (va_runV (As := [.int 22, .int 0, .int 0, .int 0, .int 0]) (rest := []) ⟨hx, hb, hml, hown, hts⟩ (m_X0_enact_21 l G K h1 h2 h5 h6 h7 h8 h9 h10 h11 h12 _) (cwV 5 hts (wGV t_ (mw (.methodLink RX10 32 yX0_enact) (List.mem_of_getElem? (i := 1) rfl)) (mw (.instanceMethod yX0_enact) (List.mem_of_getElem? (i := 2) rfl)) (mw (.selects RX0 yX0_enact yX0_enact) (List.mem_of_getElem? (i := 3) rfl)) (mw (.initialized RX0) (List.mem_of_getElem? (i := 4) rfl)) j_X0_enact_21) rfl rfl rfl (by decide +kernel) ⟨Nat.le_of_ble_eq_true rfl, Nat.le_of_ble_eq_true rfl⟩) (wPV hK hE hPc hDc 0 0 rfl rfl) rfl rfl hl.1 rfl (lv_room (Nat.le_of_ble_eq_true rfl)) dX10_adjourn_10 ⟨Nat.le_of_ble_eq_true rfl, Nat.le_of_ble_eq_true rfl⟩) hP hD hS hA [1, 2] [0] rfl rfl rfl (by decide) (fun r u H locs hw hP hD hS => ?_)
  rcases hw with ⟨rfl, rfl⟩
  have hP : va_P G vwCl [(h0, .inr (7, [.ref h1, .ref h3, .null, .null, .ref h4])), (h1, .inr (0, [.ref h2, .ref h5, .ref h6, .ref h7, .ref h8, .ref h9, .ref h10, .int 0, .int 0, .int 8, .null])), (h2, .inr (1, [.int 1, .ref h11, .int 0, .int (-1), .int 0, .int 0, .int (-1), .ref h12]))] _ := hP
  have hD : va_D A [(h0, .inr (7, [.ref h1, .ref h3, .null, .null, .ref h4])), (h1, .inr (0, [.ref h2, .ref h5, .ref h6, .ref h7, .ref h8, .ref h9, .ref h10, .int 0, .int 0, .int 8, .null])), (h2, .inr (1, [.int 1, .ref h11, .int 0, .int (-1), .int 0, .int 0, .int (-1), .ref h12]))] := hD
  have hP9 : va_P G vwCl [(h0, .inr (7, [.ref h1, .ref h3, .null, .null, .ref h4])), (h1, .inr (0, [.ref h2, .ref h5, .ref h6, .ref h7, .ref h8, .ref h9, .ref h10, .int 0, .int 0, .int 8, .null])), (h2, .inr (1, [.int 1, .ref h11, .int 0, .int (-1), .int 0, .int 0, .int (-1), .ref h12]))] _ := hP
  have hD9 : va_D A [(h0, .inr (7, [.ref h1, .ref h3, .null, .null, .ref h4])), (h1, .inr (0, [.ref h2, .ref h5, .ref h6, .ref h7, .ref h8, .ref h9, .ref h10, .int 0, .int 0, .int 8, .null])), (h2, .inr (1, [.int 1, .ref h11, .int 0, .int (-1), .int 0, .int 0, .int (-1), .ref h12]))] := hD
  exact W.iret (v := (-8)) hx hb hr (fun t ht hW => ⟨⟨(-8), _, rfl, ⟨rfl, rfl⟩, by rw [ht]; exact hP9, hD9⟩, hS.F ht⟩) hS.2.2 dX10_adjourn_13
def e_X11_reason_31 : List Cond := [.fieldLink RX11 103 "MotionFloorModel$Hall" "chair" "I", .methodLink RX11 178 yX11_isHere, .instanceMethod yX11_isHere, .selects RX11 yX11_isHere yX11_isHere, .initialized RX11]
def v_X11_reason_31 : List Cond := .code yX11_reason cX11_reason 6 (some .int) :: (e_X11_reason_31 ++ (wsX110 ++ (v_X11_isHere_0 ++ [])))
theorem te_X11_reason_31 : GoodIn lw_tbl e_X11_reason_31 := wGc z206 (wGc z651 (wGc z650 (wGc z649 (wGc z227 (wG0)))))
theorem t_X11_reason_31 : GoodIn lw_tbl v_X11_reason_31 := wGc z355 (wGa te_X11_reason_31 (wGa zcX11 (wGa t_X11_isHere_0 (wG0))))
set_option maxHeartbeats 4000000 in
set_option maxRecDepth 100000 in
theorem m_X11_reason_31 (l : Launch) (G : va_G) (K : Nat → ClassId) (h0 h1 h2 h3 h4 h5 h6 h7 h8 h9 h10 h11 h12 h13 h14 h15 h16 h17 h18 h19 h20 h21 h22 h23 h24 h25 h26 h27 : Nat) (sz : Nat) : Met l yX11_reason v_X11_reason_31 ({ frames := 3, cells := 0, slots := 0, locals := 64 }) (va_Pc [.ref h0, .int 22, .int 0, .int 0, .int 0, .int 0] (wS G K sz [(h0, .inr (8, [.int 1, .int 0, .int (-1), .int 0, .int 0, .int (-1), .int 0, .int 0, .int 0, .int 0, .int 0, .ref h1, .ref h2, .ref h3, .ref h4, .ref h5, .ref h6, .ref h7, .ref h8, .ref h9, .ref h10, .ref h11, .ref h12, .ref h13, .ref h14, .ref h15, .ref h16, .ref h17, .ref h18, .ref h19, .int 0, .ref h20, .ref h21, .ref h22, .ref h23, .int 0, .int 0, .ref h24, .ref h25, .int (-1), .ref h26, .ref h27]))])) (va_Qi (fun (r : Int32) (u : va_W) => (8 = r ∧ u = [(h0, .inr (8, [.int 1, .int 0, .int (-1), .int 0, .int 0, .int (-1), .int 0, .int 0, .int 0, .int 0, .int 0, .ref h1, .ref h2, .ref h3, .ref h4, .ref h5, .ref h6, .ref h7, .ref h8, .ref h9, .ref h10, .ref h11, .ref h12, .ref h13, .ref h14, .ref h15, .ref h16, .ref h17, .ref h18, .ref h19, .int 0, .ref h20, .ref h21, .ref h22, .ref h23, .int 0, .int 0, .ref h24, .ref h25, .int (-1), .ref h26, .ref h27]))])) (wB G (va_A [(h0, .inr (8, [.int 1, .int 0, .int (-1), .int 0, .int 0, .int (-1), .int 0, .int 0, .int 0, .int 0, .int 0, .ref h1, .ref h2, .ref h3, .ref h4, .ref h5, .ref h6, .ref h7, .ref h8, .ref h9, .ref h10, .ref h11, .ref h12, .ref h13, .ref h14, .ref h15, .ref h16, .ref h17, .ref h18, .ref h19, .int 0, .ref h20, .ref h21, .ref h22, .ref h23, .int 0, .int 0, .ref h24, .ref h25, .int (-1), .ref h26, .ref h27]))] sz)) (va_A [(h0, .inr (8, [.int 1, .int 0, .int (-1), .int 0, .int 0, .int (-1), .int 0, .int 0, .int 0, .int 0, .int 0, .ref h1, .ref h2, .ref h3, .ref h4, .ref h5, .ref h6, .ref h7, .ref h8, .ref h9, .ref h10, .ref h11, .ref h12, .ref h13, .ref h14, .ref h15, .ref h16, .ref h17, .ref h18, .ref h19, .int 0, .ref h20, .ref h21, .ref h22, .ref h23, .int 0, .int 0, .ref h24, .ref h25, .int (-1), .ref h26, .ref h27]))] sz)) 0 0 (va_A [(h0, .inr (8, [.int 1, .int 0, .int (-1), .int 0, .int 0, .int (-1), .int 0, .int 0, .int 0, .int 0, .int 0, .ref h1, .ref h2, .ref h3, .ref h4, .ref h5, .ref h6, .ref h7, .ref h8, .ref h9, .ref h10, .ref h11, .ref h12, .ref h13, .ref h14, .ref h15, .ref h16, .ref h17, .ref h18, .ref h19, .int 0, .ref h20, .ref h21, .ref h22, .ref h23, .int 0, .int 0, .ref h24, .ref h25, .int (-1), .ref h26, .ref h27]))] sz) := by
  refine Met.ofW (cc := cX11_reason) (maxL := 6) (ret := (some .int)) (by decide) rfl ?_
  intro p e s m args below meth c s₁ B hml hv
  obtain ⟨rfl, hsz, hP, hK, hD0, hE⟩ := hv
  have hx := B.exec
  have hb := B.bytes
  have hr := B.returns
  have hts := atoms_spec (ws := v_X11_reason_31) B.pre
  have t_ := t_X11_reason_31
  have mw : ∀ w ∈ e_X11_reason_31, w ∈ v_X11_reason_31 := fun w h => List.mem_cons_of_mem _ (List.mem_append_left _ h)
  have hw := fun w (h : w ∈ e_X11_reason_31) => hts w (mw w h)
  have iX11 : ∀ w ∈ wsX110, w ∈ v_X11_reason_31 := fun w h => List.mem_cons_of_mem _ (List.mem_append_right _ (List.mem_append_left _ h))
  have j_X11_isHere_0 : ∀ w ∈ v_X11_isHere_0, w ∈ v_X11_reason_31 := fun w h => List.mem_cons_of_mem _ (List.mem_append_right _ (List.mem_append_right _ (List.mem_append_left _ h)))
  have hown : s.vm.findClass RX11 = some m.cls := findClass_of_methodNamed B.named
  have hlocks := B.notSynchronized
  subst hsz
  have hD := hD0.self (sz := s.heap.size)
  generalize hAe : va_A [(h0, .inr (8, [.int 1, .int 0, .int (-1), .int 0, .int 0, .int (-1), .int 0, .int 0, .int 0, .int 0, .int 0, .ref h1, .ref h2, .ref h3, .ref h4, .ref h5, .ref h6, .ref h7, .ref h8, .ref h9, .ref h10, .ref h11, .ref h12, .ref h13, .ref h14, .ref h15, .ref h16, .ref h17, .ref h18, .ref h19, .int 0, .ref h20, .ref h21, .ref h22, .ref h23, .int 0, .int 0, .ref h24, .ref h25, .int (-1), .ref h26, .ref h27]))] s.heap.size = A at hD ⊢
  have hA : ∀ q : Nat, s.heap.size ≤ q → A q := fun q h => by rw [← hAe]; exact Or.inr h
  have hS : va_S A s.heap s.heap [] := va_S.rf
  have hP : va_P G vwCl [(h0, .inr (8, [.int 1, .int 0, .int (-1), .int 0, .int 0, .int (-1), .int 0, .int 0, .int 0, .int 0, .int 0, .ref h1, .ref h2, .ref h3, .ref h4, .ref h5, .ref h6, .ref h7, .ref h8, .ref h9, .ref h10, .ref h11, .ref h12, .ref h13, .ref h14, .ref h15, .ref h16, .ref h17, .ref h18, .ref h19, .int 0, .ref h20, .ref h21, .ref h22, .ref h23, .int 0, .int 0, .ref h24, .ref h25, .int (-1), .ref h26, .ref h27]))] s.heap := hP
  have hl := lv_entry ([.ref h0, .int 22, .int 0, .int 0, .int 0, .int 0]) (n := 6) (Nat.le_of_ble_eq_true rfl)
  rw [lg_entry_eq]
  generalize (lg_sl ([.ref h0, .int 22, .int 0, .int 0, .int 0, .int 0]) ++ List.replicate (6 - (lg_sl ([.ref h0, .int 22, .int 0, .int 0, .int 0, .int 0])).length) Slot.unset).toArray = ls at hl ⊢
  have hl : lv_has ls 6 [(0, .ref h0), (1, .int 22), (2, .int 0), (3, .int 0), (4, .int 0), (5, .int 0)] := hl
  refine lv_iload_n hx hb dX11_reason_0 rfl (lv_at hl 1 rfl) ?_
  refine lv_tableOut (tgt := 928) hx hb dX11_reason_1 (by decide) (by decide) ?_
  refine lv_aload_n hx hb dX11_reason_928 rfl (lv_at hl 0 rfl) ?_
  refine lv_aload_n hx hb dX11_reason_929 rfl (lv_at hl 0 rfl) ?_
  refine va_get (D := G) (ci := 8) (v := .int (-1)) (C := RX11) (T := TX11) (N := 42) hx hb hts iX11 hown hK hP 0 rfl rfl 2 (by decide) (hw (.fieldLink RX11 103 "MotionFloorModel$Hall" "chair" "I") (List.mem_of_getElem? (i := 0) rfl)) (fun _ h9 => h9) rfl dX11_reason_930 ?_
  have hPc := hP.sub (ws' := [(h0, .inr (8, [.int 1, .int 0, .int (-1), .int 0, .int 0, .int (-1), .int 0, .int 0, .int 0, .int 0, .int 0, .ref h1, .ref h2, .ref h3, .ref h4, .ref h5, .ref h6, .ref h7, .ref h8, .ref h9, .ref h10, .ref h11, .ref h12, .ref h13, .ref h14, .ref h15, .ref h16, .ref h17, .ref h18, .ref h19, .int 0, .ref h20, .ref h21, .ref h22, .ref h23, .int 0, .int 0, .ref h24, .ref h25, .int (-1), .ref h26, .ref h27]))]) [0] rfl
  have hDc := hD.sub (ws' := [(h0, .inr (8, [.int 1, .int 0, .int (-1), .int 0, .int 0, .int (-1), .int 0, .int 0, .int 0, .int 0, .int 0, .ref h1, .ref h2, .ref h3, .ref h4, .ref h5, .ref h6, .ref h7, .ref h8, .ref h9, .ref h10, .ref h11, .ref h12, .ref h13, .ref h14, .ref h15, .ref h16, .ref h17, .ref h18, .ref h19, .int 0, .ref h20, .ref h21, .ref h22, .ref h23, .int 0, .int 0, .ref h24, .ref h25, .int (-1), .ref h26, .ref h27]))]) [0] (by decide) rfl
  refine wGoi (wc := [(h0, .inr (8, [.int 1, .int 0, .int (-1), .int 0, .int 0, .int (-1), .int 0, .int 0, .int 0, .int 0, .int 0, .ref h1, .ref h2, .ref h3, .ref h4, .ref h5, .ref h6, .ref h7, .ref h8, .ref h9, .ref h10, .ref h11, .ref h12, .ref h13, .ref h14, .ref h15, .ref h16, .ref h17, .ref h18, .ref h19, .int 0, .ref h20, .ref h21, .ref h22, .ref h23, .int 0, .int 0, .ref h24, .ref h25, .int (-1), .ref h26, .ref h27]))]) (wr := []) (va_runV (As := [.int (-1)]) (rest := []) ⟨hx, hb, hml, hown, hts⟩ (m_X11_isHere_0 l G K h0 h1 h2 h3 h4 h5 h6 h7 h8 h9 h10 h11 h12 h13 h14 h15 h16 h17 h18 h19 h20 h21 h22 h23 h24 h25 h26 h27 _) (cwV 1 hts (wGV t_ (mw (.methodLink RX11 178 yX11_isHere) (List.mem_of_getElem? (i := 1) rfl)) (mw (.instanceMethod yX11_isHere) (List.mem_of_getElem? (i := 2) rfl)) (mw (.selects RX11 yX11_isHere yX11_isHere) (List.mem_of_getElem? (i := 3) rfl)) (mw (.initialized RX11) (List.mem_of_getElem? (i := 4) rfl)) j_X11_isHere_0) rfl rfl rfl (by decide +kernel) ⟨Nat.le_of_ble_eq_true rfl, Nat.le_of_ble_eq_true rfl⟩) (wPV hK hE hPc hDc 8 0 rfl rfl) rfl rfl hl.1 rfl (lv_room (Nat.le_of_ble_eq_true rfl)) dX11_reason_933 ⟨Nat.le_of_ble_eq_true rfl, Nat.le_of_ble_eq_true rfl⟩) hP hD hS hA [0] [] rfl rfl rfl (by decide) (fun r u H locs hw hP hD hS => ?_)
  rcases hw with ⟨rfl, rfl⟩
  have hP : va_P G vwCl [(h0, .inr (8, [.int 1, .int 0, .int (-1), .int 0, .int 0, .int (-1), .int 0, .int 0, .int 0, .int 0, .int 0, .ref h1, .ref h2, .ref h3, .ref h4, .ref h5, .ref h6, .ref h7, .ref h8, .ref h9, .ref h10, .ref h11, .ref h12, .ref h13, .ref h14, .ref h15, .ref h16, .ref h17, .ref h18, .ref h19, .int 0, .ref h20, .ref h21, .ref h22, .ref h23, .int 0, .int 0, .ref h24, .ref h25, .int (-1), .ref h26, .ref h27]))] _ := hP
  have hD : va_D A [(h0, .inr (8, [.int 1, .int 0, .int (-1), .int 0, .int 0, .int (-1), .int 0, .int 0, .int 0, .int 0, .int 0, .ref h1, .ref h2, .ref h3, .ref h4, .ref h5, .ref h6, .ref h7, .ref h8, .ref h9, .ref h10, .ref h11, .ref h12, .ref h13, .ref h14, .ref h15, .ref h16, .ref h17, .ref h18, .ref h19, .int 0, .ref h20, .ref h21, .ref h22, .ref h23, .int 0, .int 0, .ref h24, .ref h25, .int (-1), .ref h26, .ref h27]))] := hD
  refine lv_if_ne (tgt := 944) hx hb dX11_reason_936 (by decide) (fun c_ => absurd c_ (by decide)) (fun _ => ?_)
  refine lv_bipush (v := 8) hx hb dX11_reason_939 (by decide) ?_
  refine lv_goto (tgt := 945) hx hb dX11_reason_941 (by decide) ?_
  have hP9 : va_P G vwCl [(h0, .inr (8, [.int 1, .int 0, .int (-1), .int 0, .int 0, .int (-1), .int 0, .int 0, .int 0, .int 0, .int 0, .ref h1, .ref h2, .ref h3, .ref h4, .ref h5, .ref h6, .ref h7, .ref h8, .ref h9, .ref h10, .ref h11, .ref h12, .ref h13, .ref h14, .ref h15, .ref h16, .ref h17, .ref h18, .ref h19, .int 0, .ref h20, .ref h21, .ref h22, .ref h23, .int 0, .int 0, .ref h24, .ref h25, .int (-1), .ref h26, .ref h27]))] _ := hP
  have hD9 : va_D A [(h0, .inr (8, [.int 1, .int 0, .int (-1), .int 0, .int 0, .int (-1), .int 0, .int 0, .int 0, .int 0, .int 0, .ref h1, .ref h2, .ref h3, .ref h4, .ref h5, .ref h6, .ref h7, .ref h8, .ref h9, .ref h10, .ref h11, .ref h12, .ref h13, .ref h14, .ref h15, .ref h16, .ref h17, .ref h18, .ref h19, .int 0, .ref h20, .ref h21, .ref h22, .ref h23, .int 0, .int 0, .ref h24, .ref h25, .int (-1), .ref h26, .ref h27]))] := hD
  exact W.iret (v := 8) hx hb hr (fun t ht hW => ⟨⟨8, _, rfl, ⟨rfl, rfl⟩, by rw [ht]; exact hP9, hD9⟩, hS.F ht⟩) hS.2.2 dX11_reason_945
def e_X11_act_31 : List Cond := [.methodLink RX11 196 yX11_reason, .instanceMethod yX11_reason, .selects RX11 yX11_reason yX11_reason, .initialized RX11, .fieldLink RX11 127 "MotionFloorModel$Hall" "why" "I"]
def v_X11_act_31 : List Cond := .code yX11_act cX11_act 10 (some .int) :: (e_X11_act_31 ++ (wsX110 ++ (v_X11_reason_31 ++ [])))
theorem te_X11_act_31 : GoodIn lw_tbl e_X11_act_31 := wGc z364 (wGc z363 (wGc z362 (wGc z227 (wGc z198 (wG0)))))
theorem t_X11_act_31 : GoodIn lw_tbl v_X11_act_31 := wGc z365 (wGa te_X11_act_31 (wGa zcX11 (wGa t_X11_reason_31 (wG0))))
set_option maxHeartbeats 4000000 in
set_option maxRecDepth 100000 in
theorem m_X11_act_31 (l : Launch) (G : va_G) (K : Nat → ClassId) (h0 h1 h2 h3 h4 h5 h6 h7 h8 h9 h10 h11 h12 h13 h14 h15 h16 h17 h18 h19 h20 h21 h22 h23 h24 h25 h26 h27 : Nat) (sz : Nat) : Met l yX11_act v_X11_act_31 ({ frames := 4, cells := 0, slots := 0, locals := 89 }) (va_Pc [.ref h0, .int 22, .int 0, .int 0, .int 0, .int 0] (wS G K sz [(h0, .inr (8, [.int 1, .int 0, .int (-1), .int 0, .int 0, .int (-1), .int 0, .int 0, .int 0, .int 0, .int 0, .ref h1, .ref h2, .ref h3, .ref h4, .ref h5, .ref h6, .ref h7, .ref h8, .ref h9, .ref h10, .ref h11, .ref h12, .ref h13, .ref h14, .ref h15, .ref h16, .ref h17, .ref h18, .ref h19, .int 0, .ref h20, .ref h21, .ref h22, .ref h23, .int 0, .int 0, .ref h24, .ref h25, .int (-1), .ref h26, .ref h27]))])) (va_Qi (fun (r : Int32) (u : va_W) => ((-8) = r ∧ u = [(h0, .inr (8, [.int 1, .int 0, .int (-1), .int 0, .int 0, .int (-1), .int 0, .int 0, .int 0, .int 0, .int 8, .ref h1, .ref h2, .ref h3, .ref h4, .ref h5, .ref h6, .ref h7, .ref h8, .ref h9, .ref h10, .ref h11, .ref h12, .ref h13, .ref h14, .ref h15, .ref h16, .ref h17, .ref h18, .ref h19, .int 0, .ref h20, .ref h21, .ref h22, .ref h23, .int 0, .int 0, .ref h24, .ref h25, .int (-1), .ref h26, .ref h27]))])) (wB G (va_A [(h0, .inr (8, [.int 1, .int 0, .int (-1), .int 0, .int 0, .int (-1), .int 0, .int 0, .int 0, .int 0, .int 0, .ref h1, .ref h2, .ref h3, .ref h4, .ref h5, .ref h6, .ref h7, .ref h8, .ref h9, .ref h10, .ref h11, .ref h12, .ref h13, .ref h14, .ref h15, .ref h16, .ref h17, .ref h18, .ref h19, .int 0, .ref h20, .ref h21, .ref h22, .ref h23, .int 0, .int 0, .ref h24, .ref h25, .int (-1), .ref h26, .ref h27]))] sz)) (va_A [(h0, .inr (8, [.int 1, .int 0, .int (-1), .int 0, .int 0, .int (-1), .int 0, .int 0, .int 0, .int 0, .int 0, .ref h1, .ref h2, .ref h3, .ref h4, .ref h5, .ref h6, .ref h7, .ref h8, .ref h9, .ref h10, .ref h11, .ref h12, .ref h13, .ref h14, .ref h15, .ref h16, .ref h17, .ref h18, .ref h19, .int 0, .ref h20, .ref h21, .ref h22, .ref h23, .int 0, .int 0, .ref h24, .ref h25, .int (-1), .ref h26, .ref h27]))] sz)) 0 0 (va_A [(h0, .inr (8, [.int 1, .int 0, .int (-1), .int 0, .int 0, .int (-1), .int 0, .int 0, .int 0, .int 0, .int 0, .ref h1, .ref h2, .ref h3, .ref h4, .ref h5, .ref h6, .ref h7, .ref h8, .ref h9, .ref h10, .ref h11, .ref h12, .ref h13, .ref h14, .ref h15, .ref h16, .ref h17, .ref h18, .ref h19, .int 0, .ref h20, .ref h21, .ref h22, .ref h23, .int 0, .int 0, .ref h24, .ref h25, .int (-1), .ref h26, .ref h27]))] sz) := by
  refine Met.ofW (cc := cX11_act) (maxL := 10) (ret := (some .int)) (by decide) rfl ?_
  intro p e s m args below meth c s₁ B hml hv
  obtain ⟨rfl, hsz, hP, hK, hD0, hE⟩ := hv
  have hx := B.exec
  have hb := B.bytes
  have hr := B.returns
  have hts := atoms_spec (ws := v_X11_act_31) B.pre
  have t_ := t_X11_act_31
  have mw : ∀ w ∈ e_X11_act_31, w ∈ v_X11_act_31 := fun w h => List.mem_cons_of_mem _ (List.mem_append_left _ h)
  have hw := fun w (h : w ∈ e_X11_act_31) => hts w (mw w h)
  have iX11 : ∀ w ∈ wsX110, w ∈ v_X11_act_31 := fun w h => List.mem_cons_of_mem _ (List.mem_append_right _ (List.mem_append_left _ h))
  have j_X11_reason_31 : ∀ w ∈ v_X11_reason_31, w ∈ v_X11_act_31 := fun w h => List.mem_cons_of_mem _ (List.mem_append_right _ (List.mem_append_right _ (List.mem_append_left _ h)))
  have hown : s.vm.findClass RX11 = some m.cls := findClass_of_methodNamed B.named
  have hlocks := B.notSynchronized
  subst hsz
  have hD := hD0.self (sz := s.heap.size)
  generalize hAe : va_A [(h0, .inr (8, [.int 1, .int 0, .int (-1), .int 0, .int 0, .int (-1), .int 0, .int 0, .int 0, .int 0, .int 0, .ref h1, .ref h2, .ref h3, .ref h4, .ref h5, .ref h6, .ref h7, .ref h8, .ref h9, .ref h10, .ref h11, .ref h12, .ref h13, .ref h14, .ref h15, .ref h16, .ref h17, .ref h18, .ref h19, .int 0, .ref h20, .ref h21, .ref h22, .ref h23, .int 0, .int 0, .ref h24, .ref h25, .int (-1), .ref h26, .ref h27]))] s.heap.size = A at hD ⊢
  have hA : ∀ q : Nat, s.heap.size ≤ q → A q := fun q h => by rw [← hAe]; exact Or.inr h
  have hS : va_S A s.heap s.heap [] := va_S.rf
  have hP : va_P G vwCl [(h0, .inr (8, [.int 1, .int 0, .int (-1), .int 0, .int 0, .int (-1), .int 0, .int 0, .int 0, .int 0, .int 0, .ref h1, .ref h2, .ref h3, .ref h4, .ref h5, .ref h6, .ref h7, .ref h8, .ref h9, .ref h10, .ref h11, .ref h12, .ref h13, .ref h14, .ref h15, .ref h16, .ref h17, .ref h18, .ref h19, .int 0, .ref h20, .ref h21, .ref h22, .ref h23, .int 0, .int 0, .ref h24, .ref h25, .int (-1), .ref h26, .ref h27]))] s.heap := hP
  have hl := lv_entry ([.ref h0, .int 22, .int 0, .int 0, .int 0, .int 0]) (n := 10) (Nat.le_of_ble_eq_true rfl)
  rw [lg_entry_eq]
  generalize (lg_sl ([.ref h0, .int 22, .int 0, .int 0, .int 0, .int 0]) ++ List.replicate (10 - (lg_sl ([.ref h0, .int 22, .int 0, .int 0, .int 0, .int 0])).length) Slot.unset).toArray = ls at hl ⊢
  have hl : lv_has ls 10 [(0, .ref h0), (1, .int 22), (2, .int 0), (3, .int 0), (4, .int 0), (5, .int 0)] := hl
  refine lv_aload_n hx hb dX11_act_0 rfl (lv_at hl 0 rfl) ?_
  refine lv_iload_n hx hb dX11_act_1 rfl (lv_at hl 1 rfl) ?_
  refine lv_iload_n hx hb dX11_act_2 rfl (lv_at hl 2 rfl) ?_
  refine lv_iload_n hx hb dX11_act_3 rfl (lv_at hl 3 rfl) ?_
  refine lv_iload hx hb dX11_act_4 (lv_at hl 4 rfl) ?_
  refine lv_iload hx hb dX11_act_6 (lv_at hl 5 rfl) ?_
  have hPc := hP.sub (ws' := [(h0, .inr (8, [.int 1, .int 0, .int (-1), .int 0, .int 0, .int (-1), .int 0, .int 0, .int 0, .int 0, .int 0, .ref h1, .ref h2, .ref h3, .ref h4, .ref h5, .ref h6, .ref h7, .ref h8, .ref h9, .ref h10, .ref h11, .ref h12, .ref h13, .ref h14, .ref h15, .ref h16, .ref h17, .ref h18, .ref h19, .int 0, .ref h20, .ref h21, .ref h22, .ref h23, .int 0, .int 0, .ref h24, .ref h25, .int (-1), .ref h26, .ref h27]))]) [0] rfl
  have hDc := hD.sub (ws' := [(h0, .inr (8, [.int 1, .int 0, .int (-1), .int 0, .int 0, .int (-1), .int 0, .int 0, .int 0, .int 0, .int 0, .ref h1, .ref h2, .ref h3, .ref h4, .ref h5, .ref h6, .ref h7, .ref h8, .ref h9, .ref h10, .ref h11, .ref h12, .ref h13, .ref h14, .ref h15, .ref h16, .ref h17, .ref h18, .ref h19, .int 0, .ref h20, .ref h21, .ref h22, .ref h23, .int 0, .int 0, .ref h24, .ref h25, .int (-1), .ref h26, .ref h27]))]) [0] (by decide) rfl
  refine wGoi (wc := [(h0, .inr (8, [.int 1, .int 0, .int (-1), .int 0, .int 0, .int (-1), .int 0, .int 0, .int 0, .int 0, .int 0, .ref h1, .ref h2, .ref h3, .ref h4, .ref h5, .ref h6, .ref h7, .ref h8, .ref h9, .ref h10, .ref h11, .ref h12, .ref h13, .ref h14, .ref h15, .ref h16, .ref h17, .ref h18, .ref h19, .int 0, .ref h20, .ref h21, .ref h22, .ref h23, .int 0, .int 0, .ref h24, .ref h25, .int (-1), .ref h26, .ref h27]))]) (wr := []) (va_runV (As := [.int 22, .int 0, .int 0, .int 0, .int 0]) (rest := []) ⟨hx, hb, hml, hown, hts⟩ (m_X11_reason_31 l G K h0 h1 h2 h3 h4 h5 h6 h7 h8 h9 h10 h11 h12 h13 h14 h15 h16 h17 h18 h19 h20 h21 h22 h23 h24 h25 h26 h27 _) (cwV 5 hts (wGV t_ (mw (.methodLink RX11 196 yX11_reason) (List.mem_of_getElem? (i := 0) rfl)) (mw (.instanceMethod yX11_reason) (List.mem_of_getElem? (i := 1) rfl)) (mw (.selects RX11 yX11_reason yX11_reason) (List.mem_of_getElem? (i := 2) rfl)) (mw (.initialized RX11) (List.mem_of_getElem? (i := 3) rfl)) j_X11_reason_31) rfl rfl rfl (by decide +kernel) ⟨Nat.le_of_ble_eq_true rfl, Nat.le_of_ble_eq_true rfl⟩) (wPV hK hE hPc hDc 8 0 rfl rfl) rfl rfl hl.1 rfl (lv_room (Nat.le_of_ble_eq_true rfl)) dX11_act_8 ⟨Nat.le_of_ble_eq_true rfl, Nat.le_of_ble_eq_true rfl⟩) hP hD hS hA [0] [] rfl rfl rfl (by decide) (fun r u H locs hw hP hD hS => ?_)
  rcases hw with ⟨rfl, rfl⟩
  have hP : va_P G vwCl [(h0, .inr (8, [.int 1, .int 0, .int (-1), .int 0, .int 0, .int (-1), .int 0, .int 0, .int 0, .int 0, .int 0, .ref h1, .ref h2, .ref h3, .ref h4, .ref h5, .ref h6, .ref h7, .ref h8, .ref h9, .ref h10, .ref h11, .ref h12, .ref h13, .ref h14, .ref h15, .ref h16, .ref h17, .ref h18, .ref h19, .int 0, .ref h20, .ref h21, .ref h22, .ref h23, .int 0, .int 0, .ref h24, .ref h25, .int (-1), .ref h26, .ref h27]))] _ := hP
  have hD : va_D A [(h0, .inr (8, [.int 1, .int 0, .int (-1), .int 0, .int 0, .int (-1), .int 0, .int 0, .int 0, .int 0, .int 0, .ref h1, .ref h2, .ref h3, .ref h4, .ref h5, .ref h6, .ref h7, .ref h8, .ref h9, .ref h10, .ref h11, .ref h12, .ref h13, .ref h14, .ref h15, .ref h16, .ref h17, .ref h18, .ref h19, .int 0, .ref h20, .ref h21, .ref h22, .ref h23, .int 0, .int 0, .ref h24, .ref h25, .int (-1), .ref h26, .ref h27]))] := hD
  refine lv_istore (lv' := [(6, .int 8), (0, .ref h0), (1, .int 22), (2, .int 0), (3, .int 0), (4, .int 0), (5, .int 0)]) hx hb dX11_act_11 hl (by decide) rfl (fun ls hl => ?_)
  refine lv_iload hx hb dX11_act_13 (lv_at hl 0 rfl) ?_
  refine lv_if_ne (tgt := 32) hx hb dX11_act_15 (by decide) (fun _ => ?_) (fun c_ => absurd c_ (by decide))
  refine lv_aload_n hx hb dX11_act_32 rfl (lv_at hl 1 rfl) ?_
  refine lv_iload hx hb dX11_act_33 (lv_at hl 0 rfl) ?_
  refine va_put (D := G) (ci := 8) (v := .int 8) (ty := .int) (C := RX11) (T := TX11) (N := 42) hx hb hts iX11 tyX11 tyX11_ok nmX11 hown hK hP hD hS 0 rfl rfl 10 (by decide) (hw (.fieldLink RX11 127 "MotionFloorModel$Hall" "why" "I") (List.mem_of_getElem? (i := 4) rfl)) (fun _ h9 => h9) rfl (by decide +kernel) rfl rfl (Nat.le_of_ble_eq_true rfl) dX11_act_35 (fun H locs hP hD hS => ?_)
  have hP : va_P G vwCl [(h0, .inr (8, [.int 1, .int 0, .int (-1), .int 0, .int 0, .int (-1), .int 0, .int 0, .int 0, .int 0, .int 8, .ref h1, .ref h2, .ref h3, .ref h4, .ref h5, .ref h6, .ref h7, .ref h8, .ref h9, .ref h10, .ref h11, .ref h12, .ref h13, .ref h14, .ref h15, .ref h16, .ref h17, .ref h18, .ref h19, .int 0, .ref h20, .ref h21, .ref h22, .ref h23, .int 0, .int 0, .ref h24, .ref h25, .int (-1), .ref h26, .ref h27]))] _ := hP
  have hD : va_D A [(h0, .inr (8, [.int 1, .int 0, .int (-1), .int 0, .int 0, .int (-1), .int 0, .int 0, .int 0, .int 0, .int 8, .ref h1, .ref h2, .ref h3, .ref h4, .ref h5, .ref h6, .ref h7, .ref h8, .ref h9, .ref h10, .ref h11, .ref h12, .ref h13, .ref h14, .ref h15, .ref h16, .ref h17, .ref h18, .ref h19, .int 0, .ref h20, .ref h21, .ref h22, .ref h23, .int 0, .int 0, .ref h24, .ref h25, .int (-1), .ref h26, .ref h27]))] := hD
  refine lv_iload hx hb dX11_act_38 (lv_at hl 0 rfl) ?_
  refine lv_if_le (tgt := 47) hx hb dX11_act_40 (by decide) (fun c_ => absurd c_ (by decide)) (fun _ => ?_)
  refine lv_iload hx hb dX11_act_43 (lv_at hl 0 rfl) ?_
  refine lv_ineg hx hb dX11_act_45 ?_
  refine wTop (v1 := .int (-8)) (congrArg Value.int (by decide)) ?_
  have hP9 : va_P G vwCl [(h0, .inr (8, [.int 1, .int 0, .int (-1), .int 0, .int 0, .int (-1), .int 0, .int 0, .int 0, .int 0, .int 8, .ref h1, .ref h2, .ref h3, .ref h4, .ref h5, .ref h6, .ref h7, .ref h8, .ref h9, .ref h10, .ref h11, .ref h12, .ref h13, .ref h14, .ref h15, .ref h16, .ref h17, .ref h18, .ref h19, .int 0, .ref h20, .ref h21, .ref h22, .ref h23, .int 0, .int 0, .ref h24, .ref h25, .int (-1), .ref h26, .ref h27]))] _ := hP
  have hD9 : va_D A [(h0, .inr (8, [.int 1, .int 0, .int (-1), .int 0, .int 0, .int (-1), .int 0, .int 0, .int 0, .int 0, .int 8, .ref h1, .ref h2, .ref h3, .ref h4, .ref h5, .ref h6, .ref h7, .ref h8, .ref h9, .ref h10, .ref h11, .ref h12, .ref h13, .ref h14, .ref h15, .ref h16, .ref h17, .ref h18, .ref h19, .int 0, .ref h20, .ref h21, .ref h22, .ref h23, .int 0, .int 0, .ref h24, .ref h25, .int (-1), .ref h26, .ref h27]))] := hD
  exact W.iret (v := (-8)) hx hb hr (fun t ht hW => ⟨⟨(-8), _, rfl, ⟨rfl, rfl⟩, by rw [ht]; exact hP9, hD9⟩, hS.F ht⟩) hS.2.2 dX11_act_46
def e_X12_adjourn_0 : List Cond := [.fieldLink RX12 16 "MotionFloorModel" "hall" "LMotionFloorModel$Hall;", .methodLink RX12 40 yX11_act, .instanceMethod yX11_act, .selects RX11 yX11_act yX11_act, .initialized RX11]
def v_X12_adjourn_0 : List Cond := .code yX12_adjourn cX12_adjourn 1 (some .int) :: (e_X12_adjourn_0 ++ (wsX120 ++ (v_X11_act_31 ++ [])))
theorem te_X12_adjourn_0 : GoodIn lw_tbl e_X12_adjourn_0 := wGc z225 (wGc z368 (wGc z367 (wGc z366 (wGc z227 (wG0)))))
theorem t_X12_adjourn_0 : GoodIn lw_tbl v_X12_adjourn_0 := wGc z676 (wGa te_X12_adjourn_0 (wGa zcX12 (wGa t_X11_act_31 (wG0))))
set_option maxHeartbeats 4000000 in
set_option maxRecDepth 100000 in
theorem m_X12_adjourn_0 (l : Launch) (G : va_G) (K : Nat → ClassId) (h0 h1 h2 h3 h4 h5 h6 h7 h8 h9 h10 h11 h12 h13 h14 h15 h16 h17 h18 h19 h20 h21 h22 h23 h24 h25 h26 h27 h28 h29 h30 h31 h32 h33 : Nat) (sz : Nat) : Met l yX12_adjourn v_X12_adjourn_0 ({ frames := 5, cells := 0, slots := 0, locals := 118 }) (va_Pc [.ref h0] (wS G K sz [(h0, .inr (9, [.ref h1, .ref h2, .ref h3, .ref h4, .ref h5, .ref h6, .int 0])), (h1, .inr (8, [.int 1, .int 0, .int (-1), .int 0, .int 0, .int (-1), .int 0, .int 0, .int 0, .int 0, .int 0, .ref h7, .ref h8, .ref h9, .ref h10, .ref h11, .ref h12, .ref h13, .ref h14, .ref h15, .ref h16, .ref h17, .ref h18, .ref h19, .ref h20, .ref h21, .ref h22, .ref h23, .ref h24, .ref h25, .int 0, .ref h26, .ref h27, .ref h28, .ref h29, .int 0, .int 0, .ref h30, .ref h31, .int (-1), .ref h32, .ref h33]))])) (va_Qi (fun (r : Int32) (u : va_W) => ((-8) = r ∧ u = [(h0, .inr (9, [.ref h1, .ref h2, .ref h3, .ref h4, .ref h5, .ref h6, .int 0])), (h1, .inr (8, [.int 1, .int 0, .int (-1), .int 0, .int 0, .int (-1), .int 0, .int 0, .int 0, .int 0, .int 8, .ref h7, .ref h8, .ref h9, .ref h10, .ref h11, .ref h12, .ref h13, .ref h14, .ref h15, .ref h16, .ref h17, .ref h18, .ref h19, .ref h20, .ref h21, .ref h22, .ref h23, .ref h24, .ref h25, .int 0, .ref h26, .ref h27, .ref h28, .ref h29, .int 0, .int 0, .ref h30, .ref h31, .int (-1), .ref h32, .ref h33]))])) (wB G (va_A [(h0, .inr (9, [.ref h1, .ref h2, .ref h3, .ref h4, .ref h5, .ref h6, .int 0])), (h1, .inr (8, [.int 1, .int 0, .int (-1), .int 0, .int 0, .int (-1), .int 0, .int 0, .int 0, .int 0, .int 0, .ref h7, .ref h8, .ref h9, .ref h10, .ref h11, .ref h12, .ref h13, .ref h14, .ref h15, .ref h16, .ref h17, .ref h18, .ref h19, .ref h20, .ref h21, .ref h22, .ref h23, .ref h24, .ref h25, .int 0, .ref h26, .ref h27, .ref h28, .ref h29, .int 0, .int 0, .ref h30, .ref h31, .int (-1), .ref h32, .ref h33]))] sz)) (va_A [(h0, .inr (9, [.ref h1, .ref h2, .ref h3, .ref h4, .ref h5, .ref h6, .int 0])), (h1, .inr (8, [.int 1, .int 0, .int (-1), .int 0, .int 0, .int (-1), .int 0, .int 0, .int 0, .int 0, .int 0, .ref h7, .ref h8, .ref h9, .ref h10, .ref h11, .ref h12, .ref h13, .ref h14, .ref h15, .ref h16, .ref h17, .ref h18, .ref h19, .ref h20, .ref h21, .ref h22, .ref h23, .ref h24, .ref h25, .int 0, .ref h26, .ref h27, .ref h28, .ref h29, .int 0, .int 0, .ref h30, .ref h31, .int (-1), .ref h32, .ref h33]))] sz)) 0 0 (va_A [(h0, .inr (9, [.ref h1, .ref h2, .ref h3, .ref h4, .ref h5, .ref h6, .int 0])), (h1, .inr (8, [.int 1, .int 0, .int (-1), .int 0, .int 0, .int (-1), .int 0, .int 0, .int 0, .int 0, .int 0, .ref h7, .ref h8, .ref h9, .ref h10, .ref h11, .ref h12, .ref h13, .ref h14, .ref h15, .ref h16, .ref h17, .ref h18, .ref h19, .ref h20, .ref h21, .ref h22, .ref h23, .ref h24, .ref h25, .int 0, .ref h26, .ref h27, .ref h28, .ref h29, .int 0, .int 0, .ref h30, .ref h31, .int (-1), .ref h32, .ref h33]))] sz) := by
  refine Met.ofW (cc := cX12_adjourn) (maxL := 1) (ret := (some .int)) (by decide) rfl ?_
  intro p e s m args below meth c s₁ B hml hv
  obtain ⟨rfl, hsz, hP, hK, hD0, hE⟩ := hv
  have hx := B.exec
  have hb := B.bytes
  have hr := B.returns
  have hts := atoms_spec (ws := v_X12_adjourn_0) B.pre
  have t_ := t_X12_adjourn_0
  have mw : ∀ w ∈ e_X12_adjourn_0, w ∈ v_X12_adjourn_0 := fun w h => List.mem_cons_of_mem _ (List.mem_append_left _ h)
  have hw := fun w (h : w ∈ e_X12_adjourn_0) => hts w (mw w h)
  have iX12 : ∀ w ∈ wsX120, w ∈ v_X12_adjourn_0 := fun w h => List.mem_cons_of_mem _ (List.mem_append_right _ (List.mem_append_left _ h))
  have j_X11_act_31 : ∀ w ∈ v_X11_act_31, w ∈ v_X12_adjourn_0 := fun w h => List.mem_cons_of_mem _ (List.mem_append_right _ (List.mem_append_right _ (List.mem_append_left _ h)))
  have hown : s.vm.findClass RX12 = some m.cls := findClass_of_methodNamed B.named
  have hlocks := B.notSynchronized
  subst hsz
  have hD := hD0.self (sz := s.heap.size)
  generalize hAe : va_A [(h0, .inr (9, [.ref h1, .ref h2, .ref h3, .ref h4, .ref h5, .ref h6, .int 0])), (h1, .inr (8, [.int 1, .int 0, .int (-1), .int 0, .int 0, .int (-1), .int 0, .int 0, .int 0, .int 0, .int 0, .ref h7, .ref h8, .ref h9, .ref h10, .ref h11, .ref h12, .ref h13, .ref h14, .ref h15, .ref h16, .ref h17, .ref h18, .ref h19, .ref h20, .ref h21, .ref h22, .ref h23, .ref h24, .ref h25, .int 0, .ref h26, .ref h27, .ref h28, .ref h29, .int 0, .int 0, .ref h30, .ref h31, .int (-1), .ref h32, .ref h33]))] s.heap.size = A at hD ⊢
  have hA : ∀ q : Nat, s.heap.size ≤ q → A q := fun q h => by rw [← hAe]; exact Or.inr h
  have hS : va_S A s.heap s.heap [] := va_S.rf
  have hP : va_P G vwCl [(h0, .inr (9, [.ref h1, .ref h2, .ref h3, .ref h4, .ref h5, .ref h6, .int 0])), (h1, .inr (8, [.int 1, .int 0, .int (-1), .int 0, .int 0, .int (-1), .int 0, .int 0, .int 0, .int 0, .int 0, .ref h7, .ref h8, .ref h9, .ref h10, .ref h11, .ref h12, .ref h13, .ref h14, .ref h15, .ref h16, .ref h17, .ref h18, .ref h19, .ref h20, .ref h21, .ref h22, .ref h23, .ref h24, .ref h25, .int 0, .ref h26, .ref h27, .ref h28, .ref h29, .int 0, .int 0, .ref h30, .ref h31, .int (-1), .ref h32, .ref h33]))] s.heap := hP
  have hl := lv_entry ([.ref h0]) (n := 1) (Nat.le_of_ble_eq_true rfl)
  rw [lg_entry_eq]
  generalize (lg_sl ([.ref h0]) ++ List.replicate (1 - (lg_sl ([.ref h0])).length) Slot.unset).toArray = ls at hl ⊢
  have hl : lv_has ls 1 [(0, .ref h0)] := hl
  refine lv_aload_n hx hb dX12_adjourn_0 rfl (lv_at hl 0 rfl) ?_
  refine va_get (D := G) (ci := 9) (v := .ref h1) (C := RX12) (T := TX12) (N := 7) hx hb hts iX12 hown hK hP 0 rfl rfl 0 (by decide) (hw (.fieldLink RX12 16 "MotionFloorModel" "hall" "LMotionFloorModel$Hall;") (List.mem_of_getElem? (i := 0) rfl)) (fun _ h9 => h9) rfl dX12_adjourn_1 ?_
  refine lv_bipush (v := 22) hx hb dX12_adjourn_4 (by decide) ?_
  refine lv_iconst (v := 0) hx hb dX12_adjourn_6 (by decide) ?_
  refine lv_iconst (v := 0) hx hb dX12_adjourn_7 (by decide) ?_
  refine lv_iconst (v := 0) hx hb dX12_adjourn_8 (by decide) ?_
  refine lv_iconst (v := 0) hx hb dX12_adjourn_9 (by decide) ?_
  have hPc := hP.sub (ws' := [(h1, .inr (8, [.int 1, .int 0, .int (-1), .int 0, .int 0, .int (-1), .int 0, .int 0, .int 0, .int 0, .int 0, .ref h7, .ref h8, .ref h9, .ref h10, .ref h11, .ref h12, .ref h13, .ref h14, .ref h15, .ref h16, .ref h17, .ref h18, .ref h19, .ref h20, .ref h21, .ref h22, .ref h23, .ref h24, .ref h25, .int 0, .ref h26, .ref h27, .ref h28, .ref h29, .int 0, .int 0, .ref h30, .ref h31, .int (-1), .ref h32, .ref h33]))]) [1] rfl
  have hDc := hD.sub (ws' := [(h1, .inr (8, [.int 1, .int 0, .int (-1), .int 0, .int 0, .int (-1), .int 0, .int 0, .int 0, .int 0, .int 0, .ref h7, .ref h8, .ref h9, .ref h10, .ref h11, .ref h12, .ref h13, .ref h14, .ref h15, .ref h16, .ref h17, .ref h18, .ref h19, .ref h20, .ref h21, .ref h22, .ref h23, .ref h24, .ref h25, .int 0, .ref h26, .ref h27, .ref h28, .ref h29, .int 0, .int 0, .ref h30, .ref h31, .int (-1), .ref h32, .ref h33]))]) [1] (by decide) rfl
  refine wGoi (wc := [(h1, .inr (8, [.int 1, .int 0, .int (-1), .int 0, .int 0, .int (-1), .int 0, .int 0, .int 0, .int 0, .int 0, .ref h7, .ref h8, .ref h9, .ref h10, .ref h11, .ref h12, .ref h13, .ref h14, .ref h15, .ref h16, .ref h17, .ref h18, .ref h19, .ref h20, .ref h21, .ref h22, .ref h23, .ref h24, .ref h25, .int 0, .ref h26, .ref h27, .ref h28, .ref h29, .int 0, .int 0, .ref h30, .ref h31, .int (-1), .ref h32, .ref h33]))]) (wr := [(h0, .inr (9, [.ref h1, .ref h2, .ref h3, .ref h4, .ref h5, .ref h6, .int 0]))]) (va_runV (As := [.int 22, .int 0, .int 0, .int 0, .int 0]) (rest := []) ⟨hx, hb, hml, hown, hts⟩ (m_X11_act_31 l G K h1 h7 h8 h9 h10 h11 h12 h13 h14 h15 h16 h17 h18 h19 h20 h21 h22 h23 h24 h25 h26 h27 h28 h29 h30 h31 h32 h33 _) (cwV 5 hts (wGV t_ (mw (.methodLink RX12 40 yX11_act) (List.mem_of_getElem? (i := 1) rfl)) (mw (.instanceMethod yX11_act) (List.mem_of_getElem? (i := 2) rfl)) (mw (.selects RX11 yX11_act yX11_act) (List.mem_of_getElem? (i := 3) rfl)) (mw (.initialized RX11) (List.mem_of_getElem? (i := 4) rfl)) j_X11_act_31) rfl rfl rfl (by decide +kernel) ⟨Nat.le_of_ble_eq_true rfl, Nat.le_of_ble_eq_true rfl⟩) (wPV hK hE hPc hDc 8 0 rfl rfl) rfl rfl hl.1 rfl (lv_room (Nat.le_of_ble_eq_true rfl)) dX12_adjourn_10 ⟨Nat.le_of_ble_eq_true rfl, Nat.le_of_ble_eq_true rfl⟩) hP hD hS hA [1] [0] rfl rfl rfl (by decide) (fun r u H locs hw hP hD hS => ?_)
  rcases hw with ⟨rfl, rfl⟩
  have hP : va_P G vwCl [(h0, .inr (9, [.ref h1, .ref h2, .ref h3, .ref h4, .ref h5, .ref h6, .int 0])), (h1, .inr (8, [.int 1, .int 0, .int (-1), .int 0, .int 0, .int (-1), .int 0, .int 0, .int 0, .int 0, .int 8, .ref h7, .ref h8, .ref h9, .ref h10, .ref h11, .ref h12, .ref h13, .ref h14, .ref h15, .ref h16, .ref h17, .ref h18, .ref h19, .ref h20, .ref h21, .ref h22, .ref h23, .ref h24, .ref h25, .int 0, .ref h26, .ref h27, .ref h28, .ref h29, .int 0, .int 0, .ref h30, .ref h31, .int (-1), .ref h32, .ref h33]))] _ := hP
  have hD : va_D A [(h0, .inr (9, [.ref h1, .ref h2, .ref h3, .ref h4, .ref h5, .ref h6, .int 0])), (h1, .inr (8, [.int 1, .int 0, .int (-1), .int 0, .int 0, .int (-1), .int 0, .int 0, .int 0, .int 0, .int 8, .ref h7, .ref h8, .ref h9, .ref h10, .ref h11, .ref h12, .ref h13, .ref h14, .ref h15, .ref h16, .ref h17, .ref h18, .ref h19, .ref h20, .ref h21, .ref h22, .ref h23, .ref h24, .ref h25, .int 0, .ref h26, .ref h27, .ref h28, .ref h29, .int 0, .int 0, .ref h30, .ref h31, .int (-1), .ref h32, .ref h33]))] := hD
  have hP9 : va_P G vwCl [(h0, .inr (9, [.ref h1, .ref h2, .ref h3, .ref h4, .ref h5, .ref h6, .int 0])), (h1, .inr (8, [.int 1, .int 0, .int (-1), .int 0, .int 0, .int (-1), .int 0, .int 0, .int 0, .int 0, .int 8, .ref h7, .ref h8, .ref h9, .ref h10, .ref h11, .ref h12, .ref h13, .ref h14, .ref h15, .ref h16, .ref h17, .ref h18, .ref h19, .ref h20, .ref h21, .ref h22, .ref h23, .ref h24, .ref h25, .int 0, .ref h26, .ref h27, .ref h28, .ref h29, .int 0, .int 0, .ref h30, .ref h31, .int (-1), .ref h32, .ref h33]))] _ := hP
  have hD9 : va_D A [(h0, .inr (9, [.ref h1, .ref h2, .ref h3, .ref h4, .ref h5, .ref h6, .int 0])), (h1, .inr (8, [.int 1, .int 0, .int (-1), .int 0, .int 0, .int (-1), .int 0, .int 0, .int 0, .int 0, .int 8, .ref h7, .ref h8, .ref h9, .ref h10, .ref h11, .ref h12, .ref h13, .ref h14, .ref h15, .ref h16, .ref h17, .ref h18, .ref h19, .ref h20, .ref h21, .ref h22, .ref h23, .ref h24, .ref h25, .int 0, .ref h26, .ref h27, .ref h28, .ref h29, .int 0, .int 0, .ref h30, .ref h31, .int (-1), .ref h32, .ref h33]))] := hD
  exact W.iret (v := (-8)) hx hb hr (fun t ht hW => ⟨⟨(-8), _, rfl, ⟨rfl, rfl⟩, by rw [ht]; exact hP9, hD9⟩, hS.F ht⟩) hS.2.2 dX12_adjourn_13
def e_X10_order_0 : List Cond := [.fieldLink RX10 10 "MotionFloor" "now" "LMotionFloor$Assembly;", .methodLink RX10 36 yX8_against, .static yX8_against, .initialized RX8, .fieldLink RX10 42 "MotionFloor$Assembly" "reason" "I"]
def v_X10_order_0 : List Cond := .code yX10_order cX10_order 2 (some .int) :: (e_X10_order_0 ++ (wsX100 ++ (wsX00 ++ (v_X8_against_14 ++ []))))
theorem te_X10_order_0 : GoodIn lw_tbl e_X10_order_0 := wGc z115 (wGc z684 (wGc z344 (wGc z297 (wGc z683 (wG0)))))
theorem t_X10_order_0 : GoodIn lw_tbl v_X10_order_0 := wGc z685 (wGa te_X10_order_0 (wGa zcX10 (wGa zcX0 (wGa t_X8_against_14 (wG0)))))
set_option maxHeartbeats 4000000 in
set_option maxRecDepth 100000 in
theorem m_X10_order_0 (l : Launch) (G : va_G) (K : Nat → ClassId) (h0 h1 h2 h3 h4 h5 h6 h7 h8 h9 h10 h11 : Nat) (p0 : Int32) (sz : Nat) : Met l yX10_order v_X10_order_0 ({ frames := 4, cells := 0, slots := 0, locals := 94 }) (va_Pc [.ref h0, .int p0] (wS G K sz [(h0, .inr (7, [.ref h1, .ref h3, .null, .null, .ref h4])), (h1, .inr (0, [.ref h5, .ref h6, .ref h2, .ref h7, .ref h8, .ref h9, .ref h10, .int 0, .int 0, .int 0, .null])), (h2, .inr (5, [.int 0, .ref h11]))])) (va_Qi (fun (r : Int32) (u : va_W) => (0 = r ∧ u = [(h0, .inr (7, [.ref h1, .ref h3, .null, .null, .ref h4])), (h1, .inr (0, [.ref h5, .ref h6, .ref h2, .ref h7, .ref h8, .ref h9, .ref h10, .int 0, .int 0, .int 11, .null])), (h2, .inr (5, [.int 0, .ref h11]))])) (wB G (va_A [(h0, .inr (7, [.ref h1, .ref h3, .null, .null, .ref h4])), (h1, .inr (0, [.ref h5, .ref h6, .ref h2, .ref h7, .ref h8, .ref h9, .ref h10, .int 0, .int 0, .int 0, .null])), (h2, .inr (5, [.int 0, .ref h11]))] sz)) (va_A [(h0, .inr (7, [.ref h1, .ref h3, .null, .null, .ref h4])), (h1, .inr (0, [.ref h5, .ref h6, .ref h2, .ref h7, .ref h8, .ref h9, .ref h10, .int 0, .int 0, .int 0, .null])), (h2, .inr (5, [.int 0, .ref h11]))] sz)) 0 0 (va_A [(h0, .inr (7, [.ref h1, .ref h3, .null, .null, .ref h4])), (h1, .inr (0, [.ref h5, .ref h6, .ref h2, .ref h7, .ref h8, .ref h9, .ref h10, .int 0, .int 0, .int 0, .null])), (h2, .inr (5, [.int 0, .ref h11]))] sz) := by
  refine Met.ofW (cc := cX10_order) (maxL := 2) (ret := (some .int)) (by decide) rfl ?_
  intro p e s m args below meth c s₁ B hml hv
  obtain ⟨rfl, hsz, hP, hK, hD0, hE⟩ := hv
  have hx := B.exec
  have hb := B.bytes
  have hr := B.returns
  have hts := atoms_spec (ws := v_X10_order_0) B.pre
  have t_ := t_X10_order_0
  have mw : ∀ w ∈ e_X10_order_0, w ∈ v_X10_order_0 := fun w h => List.mem_cons_of_mem _ (List.mem_append_left _ h)
  have hw := fun w (h : w ∈ e_X10_order_0) => hts w (mw w h)
  have iX10 : ∀ w ∈ wsX100, w ∈ v_X10_order_0 := fun w h => List.mem_cons_of_mem _ (List.mem_append_right _ (List.mem_append_left _ h))
  have iX0 : ∀ w ∈ wsX00, w ∈ v_X10_order_0 := fun w h => List.mem_cons_of_mem _ (List.mem_append_right _ (List.mem_append_right _ (List.mem_append_left _ h)))
  have j_X8_against_14 : ∀ w ∈ v_X8_against_14, w ∈ v_X10_order_0 := fun w h => List.mem_cons_of_mem _ (List.mem_append_right _ (List.mem_append_right _ (List.mem_append_right _ (List.mem_append_left _ h))))
  have hown : s.vm.findClass RX10 = some m.cls := findClass_of_methodNamed B.named
  have hlocks := B.notSynchronized
  subst hsz
  have hD := hD0.self (sz := s.heap.size)
  generalize hAe : va_A [(h0, .inr (7, [.ref h1, .ref h3, .null, .null, .ref h4])), (h1, .inr (0, [.ref h5, .ref h6, .ref h2, .ref h7, .ref h8, .ref h9, .ref h10, .int 0, .int 0, .int 0, .null])), (h2, .inr (5, [.int 0, .ref h11]))] s.heap.size = A at hD ⊢
  have hA : ∀ q : Nat, s.heap.size ≤ q → A q := fun q h => by rw [← hAe]; exact Or.inr h
  have hS : va_S A s.heap s.heap [] := va_S.rf
  have hP : va_P G vwCl [(h0, .inr (7, [.ref h1, .ref h3, .null, .null, .ref h4])), (h1, .inr (0, [.ref h5, .ref h6, .ref h2, .ref h7, .ref h8, .ref h9, .ref h10, .int 0, .int 0, .int 0, .null])), (h2, .inr (5, [.int 0, .ref h11]))] s.heap := hP
  have hl := lv_entry ([.ref h0, .int p0]) (n := 2) (Nat.le_of_ble_eq_true rfl)
  rw [lg_entry_eq]
  generalize (lg_sl ([.ref h0, .int p0]) ++ List.replicate (2 - (lg_sl ([.ref h0, .int p0])).length) Slot.unset).toArray = ls at hl ⊢
  have hl : lv_has ls 2 [(0, .ref h0), (1, .int p0)] := hl
  refine lv_aload_n hx hb dX10_order_0 rfl (lv_at hl 0 rfl) ?_
  refine va_get (D := G) (ci := 7) (v := .ref h1) (C := RX10) (T := TX10) (N := 5) hx hb hts iX10 hown hK hP 0 rfl rfl 0 (by decide) (hw (.fieldLink RX10 10 "MotionFloor" "now" "LMotionFloor$Assembly;") (List.mem_of_getElem? (i := 0) rfl)) (fun _ h9 => h9) rfl dX10_order_1 ?_
  refine lv_aload_n hx hb dX10_order_4 rfl (lv_at hl 0 rfl) ?_
  refine va_get (D := G) (ci := 7) (v := .ref h1) (C := RX10) (T := TX10) (N := 5) hx hb hts iX10 hown hK hP 0 rfl rfl 0 (by decide) (hw (.fieldLink RX10 10 "MotionFloor" "now" "LMotionFloor$Assembly;") (List.mem_of_getElem? (i := 0) rfl)) (fun _ h9 => h9) rfl dX10_order_5 ?_
  refine lv_bipush (v := 15) hx hb dX10_order_8 (by decide) ?_
  refine lv_iload_n hx hb dX10_order_10 rfl (lv_at hl 1 rfl) ?_
  refine lv_iconst (v := 0) hx hb dX10_order_11 (by decide) ?_
  refine lv_iconst (v := 0) hx hb dX10_order_12 (by decide) ?_
  refine lv_iconst (v := 0) hx hb dX10_order_13 (by decide) ?_
  have hPc := hP.sub (ws' := [(h1, .inr (0, [.ref h5, .ref h6, .ref h2, .ref h7, .ref h8, .ref h9, .ref h10, .int 0, .int 0, .int 0, .null])), (h2, .inr (5, [.int 0, .ref h11]))]) [1, 2] rfl
  have hDc := hD.sub (ws' := [(h1, .inr (0, [.ref h5, .ref h6, .ref h2, .ref h7, .ref h8, .ref h9, .ref h10, .int 0, .int 0, .int 0, .null])), (h2, .inr (5, [.int 0, .ref h11]))]) [1, 2] (by decide) rfl
  refine wGoi (wc := [(h1, .inr (0, [.ref h5, .ref h6, .ref h2, .ref h7, .ref h8, .ref h9, .ref h10, .int 0, .int 0, .int 0, .null])), (h2, .inr (5, [.int 0, .ref h11]))]) (wr := [(h0, .inr (7, [.ref h1, .ref h3, .null, .null, .ref h4]))]) (va_runS (As := [.ref h1, .int 15, .int p0, .int 0, .int 0, .int 0]) (rest := [.ref h1]) ⟨hx, hb, hml, hown, hts⟩ (m_X8_against_14 l G K h1 h2 h5 h6 h7 h8 h9 h10 h11 p0 _) (va_cwS 6 hts (wGS t_ (mw (.methodLink RX10 36 yX8_against) (List.mem_of_getElem? (i := 1) rfl)) (mw (.static yX8_against) (List.mem_of_getElem? (i := 2) rfl)) (mw (.initialized RX8) (List.mem_of_getElem? (i := 3) rfl)) j_X8_against_14) rfl rfl rfl (by decide +kernel) ⟨Nat.le_of_ble_eq_true rfl, Nat.le_of_ble_eq_true rfl⟩) (wPS hK hE hPc hDc) rfl rfl hl.1 rfl (lv_room (Nat.le_of_ble_eq_true rfl)) dX10_order_14 ⟨Nat.le_of_ble_eq_true rfl, Nat.le_of_ble_eq_true rfl⟩) hP hD hS hA [1, 2] [0] rfl rfl rfl (by decide) (fun r u H locs hw hP hD hS => ?_)
  rcases hw with ⟨rfl, rfl⟩
  have hP : va_P G vwCl [(h0, .inr (7, [.ref h1, .ref h3, .null, .null, .ref h4])), (h1, .inr (0, [.ref h5, .ref h6, .ref h2, .ref h7, .ref h8, .ref h9, .ref h10, .int 0, .int 0, .int 0, .null])), (h2, .inr (5, [.int 0, .ref h11]))] _ := hP
  have hD : va_D A [(h0, .inr (7, [.ref h1, .ref h3, .null, .null, .ref h4])), (h1, .inr (0, [.ref h5, .ref h6, .ref h2, .ref h7, .ref h8, .ref h9, .ref h10, .int 0, .int 0, .int 0, .null])), (h2, .inr (5, [.int 0, .ref h11]))] := hD
  refine va_put (D := G) (ci := 0) (v := .int 11) (ty := .int) (C := RX0) (T := TX0) (N := 11) hx hb hts iX0 tyX0 tyX0_ok nmX0 hown hK hP hD hS 1 rfl rfl 9 (by decide) (hw (.fieldLink RX10 42 "MotionFloor$Assembly" "reason" "I") (List.mem_of_getElem? (i := 4) rfl)) (fun _ h9 => h9) rfl (by decide +kernel) rfl rfl (Nat.le_of_ble_eq_true rfl) dX10_order_17 (fun H locs hP hD hS => ?_)
  have hP : va_P G vwCl [(h0, .inr (7, [.ref h1, .ref h3, .null, .null, .ref h4])), (h1, .inr (0, [.ref h5, .ref h6, .ref h2, .ref h7, .ref h8, .ref h9, .ref h10, .int 0, .int 0, .int 11, .null])), (h2, .inr (5, [.int 0, .ref h11]))] _ := hP
  have hD : va_D A [(h0, .inr (7, [.ref h1, .ref h3, .null, .null, .ref h4])), (h1, .inr (0, [.ref h5, .ref h6, .ref h2, .ref h7, .ref h8, .ref h9, .ref h10, .int 0, .int 0, .int 11, .null])), (h2, .inr (5, [.int 0, .ref h11]))] := hD
  refine lv_aload_n hx hb dX10_order_20 rfl (lv_at hl 0 rfl) ?_
  refine va_get (D := G) (ci := 7) (v := .ref h1) (C := RX10) (T := TX10) (N := 5) hx hb hts iX10 hown hK hP 0 rfl rfl 0 (by decide) (hw (.fieldLink RX10 10 "MotionFloor" "now" "LMotionFloor$Assembly;") (List.mem_of_getElem? (i := 0) rfl)) (fun _ h9 => h9) rfl dX10_order_21 ?_
  refine va_get (D := G) (ci := 0) (v := .int 11) (C := RX0) (T := TX0) (N := 11) hx hb hts iX0 hown hK hP 1 rfl rfl 9 (by decide) (hw (.fieldLink RX10 42 "MotionFloor$Assembly" "reason" "I") (List.mem_of_getElem? (i := 4) rfl)) (fun _ h9 => h9) rfl dX10_order_24 ?_
  refine lv_if_ne (tgt := 34) hx hb dX10_order_27 (by decide) (fun _ => ?_) (fun c_ => absurd c_ (by decide))
  refine lv_iconst (v := 0) hx hb dX10_order_34 (by decide) ?_
  have hP9 : va_P G vwCl [(h0, .inr (7, [.ref h1, .ref h3, .null, .null, .ref h4])), (h1, .inr (0, [.ref h5, .ref h6, .ref h2, .ref h7, .ref h8, .ref h9, .ref h10, .int 0, .int 0, .int 11, .null])), (h2, .inr (5, [.int 0, .ref h11]))] _ := hP
  have hD9 : va_D A [(h0, .inr (7, [.ref h1, .ref h3, .null, .null, .ref h4])), (h1, .inr (0, [.ref h5, .ref h6, .ref h2, .ref h7, .ref h8, .ref h9, .ref h10, .int 0, .int 0, .int 11, .null])), (h2, .inr (5, [.int 0, .ref h11]))] := hD
  exact W.iret (v := 0) hx hb hr (fun t ht hW => ⟨⟨0, _, rfl, ⟨rfl, rfl⟩, by rw [ht]; exact hP9, hD9⟩, hS.F ht⟩) hS.2.2 dX10_order_35
def e_X12_order_0 : List Cond := [.fieldLink RX12 16 "MotionFloorModel" "hall" "LMotionFloorModel$Hall;", .methodLink RX12 44 yX11_reasonOfMove, .instanceMethod yX11_reasonOfMove, .selects RX11 yX11_reasonOfMove yX11_reasonOfMove, .initialized RX11, .fieldLink RX12 52 "MotionFloorModel$Hall" "why" "I"]
def v_X12_order_0 : List Cond := .code yX12_order cX12_order 3 (some .int) :: (e_X12_order_0 ++ (wsX120 ++ (wsX110 ++ (v_X11_reasonOfMove_0 ++ []))))
theorem te_X12_order_0 : GoodIn lw_tbl e_X12_order_0 := wGc z225 (wGc z687 (wGc z613 (wGc z612 (wGc z227 (wGc z686 (wG0))))))
theorem t_X12_order_0 : GoodIn lw_tbl v_X12_order_0 := wGc z688 (wGa te_X12_order_0 (wGa zcX12 (wGa zcX11 (wGa t_X11_reasonOfMove_0 (wG0)))))
set_option maxHeartbeats 4000000 in
set_option maxRecDepth 100000 in
theorem m_X12_order_0 (l : Launch) (G : va_G) (K : Nat → ClassId) (h0 h1 h2 h3 h4 h5 h6 h7 h8 h9 h10 h11 h12 h13 h14 h15 h16 h17 h18 h19 h20 h21 h22 h23 h24 h25 h26 h27 h28 h29 h30 h31 h32 h33 : Nat) (p0 : Int32) (sz : Nat) : Met l yX12_order v_X12_order_0 ({ frames := 1, cells := 0, slots := 0, locals := 26 }) (va_Pc [.ref h0, .int p0] (wS G K sz [(h0, .inr (9, [.ref h1, .ref h2, .ref h3, .ref h4, .ref h5, .ref h6, .int 0])), (h1, .inr (8, [.int 1, .int 0, .int (-1), .int 0, .int 0, .int (-1), .int 0, .int 0, .int 0, .int 0, .int 0, .ref h7, .ref h8, .ref h9, .ref h10, .ref h11, .ref h12, .ref h13, .ref h14, .ref h15, .ref h16, .ref h17, .ref h18, .ref h19, .ref h20, .ref h21, .ref h22, .ref h23, .ref h24, .ref h25, .int 0, .ref h26, .ref h27, .ref h28, .ref h29, .int 0, .int 0, .ref h30, .ref h31, .int (-1), .ref h32, .ref h33]))])) (va_Qi (fun (r : Int32) (u : va_W) => (0 = r ∧ u = [(h0, .inr (9, [.ref h1, .ref h2, .ref h3, .ref h4, .ref h5, .ref h6, .int 0])), (h1, .inr (8, [.int 1, .int 0, .int (-1), .int 0, .int 0, .int (-1), .int 0, .int 0, .int 0, .int 0, .int 11, .ref h7, .ref h8, .ref h9, .ref h10, .ref h11, .ref h12, .ref h13, .ref h14, .ref h15, .ref h16, .ref h17, .ref h18, .ref h19, .ref h20, .ref h21, .ref h22, .ref h23, .ref h24, .ref h25, .int 0, .ref h26, .ref h27, .ref h28, .ref h29, .int 0, .int 0, .ref h30, .ref h31, .int (-1), .ref h32, .ref h33]))])) (wB G (va_A [(h0, .inr (9, [.ref h1, .ref h2, .ref h3, .ref h4, .ref h5, .ref h6, .int 0])), (h1, .inr (8, [.int 1, .int 0, .int (-1), .int 0, .int 0, .int (-1), .int 0, .int 0, .int 0, .int 0, .int 0, .ref h7, .ref h8, .ref h9, .ref h10, .ref h11, .ref h12, .ref h13, .ref h14, .ref h15, .ref h16, .ref h17, .ref h18, .ref h19, .ref h20, .ref h21, .ref h22, .ref h23, .ref h24, .ref h25, .int 0, .ref h26, .ref h27, .ref h28, .ref h29, .int 0, .int 0, .ref h30, .ref h31, .int (-1), .ref h32, .ref h33]))] sz)) (va_A [(h0, .inr (9, [.ref h1, .ref h2, .ref h3, .ref h4, .ref h5, .ref h6, .int 0])), (h1, .inr (8, [.int 1, .int 0, .int (-1), .int 0, .int 0, .int (-1), .int 0, .int 0, .int 0, .int 0, .int 0, .ref h7, .ref h8, .ref h9, .ref h10, .ref h11, .ref h12, .ref h13, .ref h14, .ref h15, .ref h16, .ref h17, .ref h18, .ref h19, .ref h20, .ref h21, .ref h22, .ref h23, .ref h24, .ref h25, .int 0, .ref h26, .ref h27, .ref h28, .ref h29, .int 0, .int 0, .ref h30, .ref h31, .int (-1), .ref h32, .ref h33]))] sz)) 0 0 (va_A [(h0, .inr (9, [.ref h1, .ref h2, .ref h3, .ref h4, .ref h5, .ref h6, .int 0])), (h1, .inr (8, [.int 1, .int 0, .int (-1), .int 0, .int 0, .int (-1), .int 0, .int 0, .int 0, .int 0, .int 0, .ref h7, .ref h8, .ref h9, .ref h10, .ref h11, .ref h12, .ref h13, .ref h14, .ref h15, .ref h16, .ref h17, .ref h18, .ref h19, .ref h20, .ref h21, .ref h22, .ref h23, .ref h24, .ref h25, .int 0, .ref h26, .ref h27, .ref h28, .ref h29, .int 0, .int 0, .ref h30, .ref h31, .int (-1), .ref h32, .ref h33]))] sz) := by
  refine Met.ofW (cc := cX12_order) (maxL := 3) (ret := (some .int)) (by decide) rfl ?_
  intro p e s m args below meth c s₁ B hml hv
  obtain ⟨rfl, hsz, hP, hK, hD0, hE⟩ := hv
  have hx := B.exec
  have hb := B.bytes
  have hr := B.returns
  have hts := atoms_spec (ws := v_X12_order_0) B.pre
  have t_ := t_X12_order_0
  have mw : ∀ w ∈ e_X12_order_0, w ∈ v_X12_order_0 := fun w h => List.mem_cons_of_mem _ (List.mem_append_left _ h)
  have hw := fun w (h : w ∈ e_X12_order_0) => hts w (mw w h)
  have iX12 : ∀ w ∈ wsX120, w ∈ v_X12_order_0 := fun w h => List.mem_cons_of_mem _ (List.mem_append_right _ (List.mem_append_left _ h))
  have iX11 : ∀ w ∈ wsX110, w ∈ v_X12_order_0 := fun w h => List.mem_cons_of_mem _ (List.mem_append_right _ (List.mem_append_right _ (List.mem_append_left _ h)))
  have j_X11_reasonOfMove_0 : ∀ w ∈ v_X11_reasonOfMove_0, w ∈ v_X12_order_0 := fun w h => List.mem_cons_of_mem _ (List.mem_append_right _ (List.mem_append_right _ (List.mem_append_right _ (List.mem_append_left _ h))))
  have hown : s.vm.findClass RX12 = some m.cls := findClass_of_methodNamed B.named
  have hlocks := B.notSynchronized
  subst hsz
  have hD := hD0.self (sz := s.heap.size)
  generalize hAe : va_A [(h0, .inr (9, [.ref h1, .ref h2, .ref h3, .ref h4, .ref h5, .ref h6, .int 0])), (h1, .inr (8, [.int 1, .int 0, .int (-1), .int 0, .int 0, .int (-1), .int 0, .int 0, .int 0, .int 0, .int 0, .ref h7, .ref h8, .ref h9, .ref h10, .ref h11, .ref h12, .ref h13, .ref h14, .ref h15, .ref h16, .ref h17, .ref h18, .ref h19, .ref h20, .ref h21, .ref h22, .ref h23, .ref h24, .ref h25, .int 0, .ref h26, .ref h27, .ref h28, .ref h29, .int 0, .int 0, .ref h30, .ref h31, .int (-1), .ref h32, .ref h33]))] s.heap.size = A at hD ⊢
  have hA : ∀ q : Nat, s.heap.size ≤ q → A q := fun q h => by rw [← hAe]; exact Or.inr h
  have hS : va_S A s.heap s.heap [] := va_S.rf
  have hP : va_P G vwCl [(h0, .inr (9, [.ref h1, .ref h2, .ref h3, .ref h4, .ref h5, .ref h6, .int 0])), (h1, .inr (8, [.int 1, .int 0, .int (-1), .int 0, .int 0, .int (-1), .int 0, .int 0, .int 0, .int 0, .int 0, .ref h7, .ref h8, .ref h9, .ref h10, .ref h11, .ref h12, .ref h13, .ref h14, .ref h15, .ref h16, .ref h17, .ref h18, .ref h19, .ref h20, .ref h21, .ref h22, .ref h23, .ref h24, .ref h25, .int 0, .ref h26, .ref h27, .ref h28, .ref h29, .int 0, .int 0, .ref h30, .ref h31, .int (-1), .ref h32, .ref h33]))] s.heap := hP
  have hl := lv_entry ([.ref h0, .int p0]) (n := 3) (Nat.le_of_ble_eq_true rfl)
  rw [lg_entry_eq]
  generalize (lg_sl ([.ref h0, .int p0]) ++ List.replicate (3 - (lg_sl ([.ref h0, .int p0])).length) Slot.unset).toArray = ls at hl ⊢
  have hl : lv_has ls 3 [(0, .ref h0), (1, .int p0)] := hl
  refine lv_aload_n hx hb dX12_order_0 rfl (lv_at hl 0 rfl) ?_
  refine va_get (D := G) (ci := 9) (v := .ref h1) (C := RX12) (T := TX12) (N := 7) hx hb hts iX12 hown hK hP 0 rfl rfl 0 (by decide) (hw (.fieldLink RX12 16 "MotionFloorModel" "hall" "LMotionFloorModel$Hall;") (List.mem_of_getElem? (i := 0) rfl)) (fun _ h9 => h9) rfl dX12_order_1 ?_
  refine lv_iload_n hx hb dX12_order_4 rfl (lv_at hl 1 rfl) ?_
  have hPc := hP.sub (ws' := [(h1, .inr (8, [.int 1, .int 0, .int (-1), .int 0, .int 0, .int (-1), .int 0, .int 0, .int 0, .int 0, .int 0, .ref h7, .ref h8, .ref h9, .ref h10, .ref h11, .ref h12, .ref h13, .ref h14, .ref h15, .ref h16, .ref h17, .ref h18, .ref h19, .ref h20, .ref h21, .ref h22, .ref h23, .ref h24, .ref h25, .int 0, .ref h26, .ref h27, .ref h28, .ref h29, .int 0, .int 0, .ref h30, .ref h31, .int (-1), .ref h32, .ref h33]))]) [1] rfl
  have hDc := hD.sub (ws' := [(h1, .inr (8, [.int 1, .int 0, .int (-1), .int 0, .int 0, .int (-1), .int 0, .int 0, .int 0, .int 0, .int 0, .ref h7, .ref h8, .ref h9, .ref h10, .ref h11, .ref h12, .ref h13, .ref h14, .ref h15, .ref h16, .ref h17, .ref h18, .ref h19, .ref h20, .ref h21, .ref h22, .ref h23, .ref h24, .ref h25, .int 0, .ref h26, .ref h27, .ref h28, .ref h29, .int 0, .int 0, .ref h30, .ref h31, .int (-1), .ref h32, .ref h33]))]) [1] (by decide) rfl
  refine wGoi (wc := [(h1, .inr (8, [.int 1, .int 0, .int (-1), .int 0, .int 0, .int (-1), .int 0, .int 0, .int 0, .int 0, .int 0, .ref h7, .ref h8, .ref h9, .ref h10, .ref h11, .ref h12, .ref h13, .ref h14, .ref h15, .ref h16, .ref h17, .ref h18, .ref h19, .ref h20, .ref h21, .ref h22, .ref h23, .ref h24, .ref h25, .int 0, .ref h26, .ref h27, .ref h28, .ref h29, .int 0, .int 0, .ref h30, .ref h31, .int (-1), .ref h32, .ref h33]))]) (wr := [(h0, .inr (9, [.ref h1, .ref h2, .ref h3, .ref h4, .ref h5, .ref h6, .int 0]))]) (va_runV (As := [.int p0]) (rest := []) ⟨hx, hb, hml, hown, hts⟩ (m_X11_reasonOfMove_0 l G K h1 h7 h8 h9 h10 h11 h12 h13 h14 h15 h16 h17 h18 h19 h20 h21 h22 h23 h24 h25 h26 h27 h28 h29 h30 h31 h32 h33 p0 _) (cwV 1 hts (wGV t_ (mw (.methodLink RX12 44 yX11_reasonOfMove) (List.mem_of_getElem? (i := 1) rfl)) (mw (.instanceMethod yX11_reasonOfMove) (List.mem_of_getElem? (i := 2) rfl)) (mw (.selects RX11 yX11_reasonOfMove yX11_reasonOfMove) (List.mem_of_getElem? (i := 3) rfl)) (mw (.initialized RX11) (List.mem_of_getElem? (i := 4) rfl)) j_X11_reasonOfMove_0) rfl rfl rfl (by decide +kernel) ⟨Nat.le_of_ble_eq_true rfl, Nat.le_of_ble_eq_true rfl⟩) (wPV hK hE hPc hDc 8 0 rfl rfl) rfl rfl hl.1 rfl (lv_room (Nat.le_of_ble_eq_true rfl)) dX12_order_5 ⟨Nat.le_of_ble_eq_true rfl, Nat.le_of_ble_eq_true rfl⟩) hP hD hS hA [1] [0] rfl rfl rfl (by decide) (fun r u H locs hw hP hD hS => ?_)
  rcases hw with ⟨rfl, rfl⟩
  have hP : va_P G vwCl [(h0, .inr (9, [.ref h1, .ref h2, .ref h3, .ref h4, .ref h5, .ref h6, .int 0])), (h1, .inr (8, [.int 1, .int 0, .int (-1), .int 0, .int 0, .int (-1), .int 0, .int 0, .int 0, .int 0, .int 0, .ref h7, .ref h8, .ref h9, .ref h10, .ref h11, .ref h12, .ref h13, .ref h14, .ref h15, .ref h16, .ref h17, .ref h18, .ref h19, .ref h20, .ref h21, .ref h22, .ref h23, .ref h24, .ref h25, .int 0, .ref h26, .ref h27, .ref h28, .ref h29, .int 0, .int 0, .ref h30, .ref h31, .int (-1), .ref h32, .ref h33]))] _ := hP
  have hD : va_D A [(h0, .inr (9, [.ref h1, .ref h2, .ref h3, .ref h4, .ref h5, .ref h6, .int 0])), (h1, .inr (8, [.int 1, .int 0, .int (-1), .int 0, .int 0, .int (-1), .int 0, .int 0, .int 0, .int 0, .int 0, .ref h7, .ref h8, .ref h9, .ref h10, .ref h11, .ref h12, .ref h13, .ref h14, .ref h15, .ref h16, .ref h17, .ref h18, .ref h19, .ref h20, .ref h21, .ref h22, .ref h23, .ref h24, .ref h25, .int 0, .ref h26, .ref h27, .ref h28, .ref h29, .int 0, .int 0, .ref h30, .ref h31, .int (-1), .ref h32, .ref h33]))] := hD
  refine lv_istore_n (lv' := [(2, .int 11), (0, .ref h0), (1, .int p0)]) hx hb dX12_order_8 rfl hl (by decide) rfl (fun ls hl => ?_)
  refine lv_aload_n hx hb dX12_order_9 rfl (lv_at hl 1 rfl) ?_
  refine va_get (D := G) (ci := 9) (v := .ref h1) (C := RX12) (T := TX12) (N := 7) hx hb hts iX12 hown hK hP 0 rfl rfl 0 (by decide) (hw (.fieldLink RX12 16 "MotionFloorModel" "hall" "LMotionFloorModel$Hall;") (List.mem_of_getElem? (i := 0) rfl)) (fun _ h9 => h9) rfl dX12_order_10 ?_
  refine lv_iload_n hx hb dX12_order_13 rfl (lv_at hl 0 rfl) ?_
  refine lv_if_ne (tgt := 35) hx hb dX12_order_14 (by decide) (fun _ => ?_) (fun c_ => absurd c_ (by decide))
  refine lv_iload_n hx hb dX12_order_35 rfl (lv_at hl 0 rfl) ?_
  refine va_put (D := G) (ci := 8) (v := .int 11) (ty := .int) (C := RX11) (T := TX11) (N := 42) hx hb hts iX11 tyX11 tyX11_ok nmX11 hown hK hP hD hS 1 rfl rfl 10 (by decide) (hw (.fieldLink RX12 52 "MotionFloorModel$Hall" "why" "I") (List.mem_of_getElem? (i := 5) rfl)) (fun _ h9 => h9) rfl (by decide +kernel) rfl rfl (Nat.le_of_ble_eq_true rfl) dX12_order_36 (fun H locs hP hD hS => ?_)
  have hP : va_P G vwCl [(h0, .inr (9, [.ref h1, .ref h2, .ref h3, .ref h4, .ref h5, .ref h6, .int 0])), (h1, .inr (8, [.int 1, .int 0, .int (-1), .int 0, .int 0, .int (-1), .int 0, .int 0, .int 0, .int 0, .int 11, .ref h7, .ref h8, .ref h9, .ref h10, .ref h11, .ref h12, .ref h13, .ref h14, .ref h15, .ref h16, .ref h17, .ref h18, .ref h19, .ref h20, .ref h21, .ref h22, .ref h23, .ref h24, .ref h25, .int 0, .ref h26, .ref h27, .ref h28, .ref h29, .int 0, .int 0, .ref h30, .ref h31, .int (-1), .ref h32, .ref h33]))] _ := hP
  have hD : va_D A [(h0, .inr (9, [.ref h1, .ref h2, .ref h3, .ref h4, .ref h5, .ref h6, .int 0])), (h1, .inr (8, [.int 1, .int 0, .int (-1), .int 0, .int 0, .int (-1), .int 0, .int 0, .int 0, .int 0, .int 11, .ref h7, .ref h8, .ref h9, .ref h10, .ref h11, .ref h12, .ref h13, .ref h14, .ref h15, .ref h16, .ref h17, .ref h18, .ref h19, .ref h20, .ref h21, .ref h22, .ref h23, .ref h24, .ref h25, .int 0, .ref h26, .ref h27, .ref h28, .ref h29, .int 0, .int 0, .ref h30, .ref h31, .int (-1), .ref h32, .ref h33]))] := hD
  refine lv_aload_n hx hb dX12_order_39 rfl (lv_at hl 1 rfl) ?_
  refine va_get (D := G) (ci := 9) (v := .ref h1) (C := RX12) (T := TX12) (N := 7) hx hb hts iX12 hown hK hP 0 rfl rfl 0 (by decide) (hw (.fieldLink RX12 16 "MotionFloorModel" "hall" "LMotionFloorModel$Hall;") (List.mem_of_getElem? (i := 0) rfl)) (fun _ h9 => h9) rfl dX12_order_40 ?_
  refine va_get (D := G) (ci := 8) (v := .int 11) (C := RX11) (T := TX11) (N := 42) hx hb hts iX11 hown hK hP 1 rfl rfl 10 (by decide) (hw (.fieldLink RX12 52 "MotionFloorModel$Hall" "why" "I") (List.mem_of_getElem? (i := 5) rfl)) (fun _ h9 => h9) rfl dX12_order_43 ?_
  refine lv_if_ne (tgt := 53) hx hb dX12_order_46 (by decide) (fun _ => ?_) (fun c_ => absurd c_ (by decide))
  refine lv_iconst (v := 0) hx hb dX12_order_53 (by decide) ?_
  have hP9 : va_P G vwCl [(h0, .inr (9, [.ref h1, .ref h2, .ref h3, .ref h4, .ref h5, .ref h6, .int 0])), (h1, .inr (8, [.int 1, .int 0, .int (-1), .int 0, .int 0, .int (-1), .int 0, .int 0, .int 0, .int 0, .int 11, .ref h7, .ref h8, .ref h9, .ref h10, .ref h11, .ref h12, .ref h13, .ref h14, .ref h15, .ref h16, .ref h17, .ref h18, .ref h19, .ref h20, .ref h21, .ref h22, .ref h23, .ref h24, .ref h25, .int 0, .ref h26, .ref h27, .ref h28, .ref h29, .int 0, .int 0, .ref h30, .ref h31, .int (-1), .ref h32, .ref h33]))] _ := hP
  have hD9 : va_D A [(h0, .inr (9, [.ref h1, .ref h2, .ref h3, .ref h4, .ref h5, .ref h6, .int 0])), (h1, .inr (8, [.int 1, .int 0, .int (-1), .int 0, .int 0, .int (-1), .int 0, .int 0, .int 0, .int 0, .int 11, .ref h7, .ref h8, .ref h9, .ref h10, .ref h11, .ref h12, .ref h13, .ref h14, .ref h15, .ref h16, .ref h17, .ref h18, .ref h19, .ref h20, .ref h21, .ref h22, .ref h23, .ref h24, .ref h25, .int 0, .ref h26, .ref h27, .ref h28, .ref h29, .int 0, .int 0, .ref h30, .ref h31, .int (-1), .ref h32, .ref h33]))] := hD
  exact W.iret (v := 0) hx hb hr (fun t ht hW => ⟨⟨0, _, rfl, ⟨rfl, rfl⟩, by rw [ht]; exact hP9, hD9⟩, hS.F ht⟩) hS.2.2 dX12_order_54
def e_X10_why_0 : List Cond := [.fieldLink RX10 10 "MotionFloor" "now" "LMotionFloor$Assembly;", .fieldLink RX10 42 "MotionFloor$Assembly" "reason" "I"]
def v_X10_why_0 : List Cond := .code yX10_why cX10_why 1 (some .int) :: (e_X10_why_0 ++ (wsX100 ++ (wsX00 ++ [])))
theorem te_X10_why_0 : GoodIn lw_tbl e_X10_why_0 := wGc z115 (wGc z683 (wG0))
theorem t_X10_why_0 : GoodIn lw_tbl v_X10_why_0 := wGc z695 (wGa te_X10_why_0 (wGa zcX10 (wGa zcX0 (wG0))))
set_option maxHeartbeats 4000000 in
set_option maxRecDepth 100000 in
theorem m_X10_why_0 (l : Launch) (G : va_G) (K : Nat → ClassId) (h0 h1 h2 h3 h4 h5 h6 h7 h8 h9 h10 : Nat) (sz : Nat) : Met l yX10_why v_X10_why_0 ({ frames := 0, cells := 0, slots := 0, locals := 0 }) (va_Pc [.ref h0] (wS G K sz [(h0, .inr (7, [.ref h1, .ref h2, .null, .null, .ref h3])), (h1, .inr (0, [.ref h4, .ref h5, .ref h6, .ref h7, .ref h8, .ref h9, .ref h10, .int 0, .int 0, .int 0, .null]))])) (va_Qi (fun (r : Int32) (u : va_W) => (0 = r ∧ u = [(h0, .inr (7, [.ref h1, .ref h2, .null, .null, .ref h3])), (h1, .inr (0, [.ref h4, .ref h5, .ref h6, .ref h7, .ref h8, .ref h9, .ref h10, .int 0, .int 0, .int 0, .null]))])) (wB G (va_A [(h0, .inr (7, [.ref h1, .ref h2, .null, .null, .ref h3])), (h1, .inr (0, [.ref h4, .ref h5, .ref h6, .ref h7, .ref h8, .ref h9, .ref h10, .int 0, .int 0, .int 0, .null]))] sz)) (va_A [(h0, .inr (7, [.ref h1, .ref h2, .null, .null, .ref h3])), (h1, .inr (0, [.ref h4, .ref h5, .ref h6, .ref h7, .ref h8, .ref h9, .ref h10, .int 0, .int 0, .int 0, .null]))] sz)) 0 0 (va_A [(h0, .inr (7, [.ref h1, .ref h2, .null, .null, .ref h3])), (h1, .inr (0, [.ref h4, .ref h5, .ref h6, .ref h7, .ref h8, .ref h9, .ref h10, .int 0, .int 0, .int 0, .null]))] sz) := by
  refine Met.ofW (cc := cX10_why) (maxL := 1) (ret := (some .int)) (by decide) rfl ?_
  intro p e s m args below meth c s₁ B hml hv
  obtain ⟨rfl, hsz, hP, hK, hD0, hE⟩ := hv
  have hx := B.exec
  have hb := B.bytes
  have hr := B.returns
  have hts := atoms_spec (ws := v_X10_why_0) B.pre
  have t_ := t_X10_why_0
  have mw : ∀ w ∈ e_X10_why_0, w ∈ v_X10_why_0 := fun w h => List.mem_cons_of_mem _ (List.mem_append_left _ h)
  have hw := fun w (h : w ∈ e_X10_why_0) => hts w (mw w h)
  have iX10 : ∀ w ∈ wsX100, w ∈ v_X10_why_0 := fun w h => List.mem_cons_of_mem _ (List.mem_append_right _ (List.mem_append_left _ h))
  have iX0 : ∀ w ∈ wsX00, w ∈ v_X10_why_0 := fun w h => List.mem_cons_of_mem _ (List.mem_append_right _ (List.mem_append_right _ (List.mem_append_left _ h)))
  have hown : s.vm.findClass RX10 = some m.cls := findClass_of_methodNamed B.named
  have hlocks := B.notSynchronized
  subst hsz
  have hD := hD0.self (sz := s.heap.size)
  generalize hAe : va_A [(h0, .inr (7, [.ref h1, .ref h2, .null, .null, .ref h3])), (h1, .inr (0, [.ref h4, .ref h5, .ref h6, .ref h7, .ref h8, .ref h9, .ref h10, .int 0, .int 0, .int 0, .null]))] s.heap.size = A at hD ⊢
  have hA : ∀ q : Nat, s.heap.size ≤ q → A q := fun q h => by rw [← hAe]; exact Or.inr h
  have hS : va_S A s.heap s.heap [] := va_S.rf
  have hP : va_P G vwCl [(h0, .inr (7, [.ref h1, .ref h2, .null, .null, .ref h3])), (h1, .inr (0, [.ref h4, .ref h5, .ref h6, .ref h7, .ref h8, .ref h9, .ref h10, .int 0, .int 0, .int 0, .null]))] s.heap := hP
  have hl := lv_entry ([.ref h0]) (n := 1) (Nat.le_of_ble_eq_true rfl)
  rw [lg_entry_eq]
  generalize (lg_sl ([.ref h0]) ++ List.replicate (1 - (lg_sl ([.ref h0])).length) Slot.unset).toArray = ls at hl ⊢
  have hl : lv_has ls 1 [(0, .ref h0)] := hl
  refine lv_aload_n hx hb dX10_why_0 rfl (lv_at hl 0 rfl) ?_
  refine va_get (D := G) (ci := 7) (v := .ref h1) (C := RX10) (T := TX10) (N := 5) hx hb hts iX10 hown hK hP 0 rfl rfl 0 (by decide) (hw (.fieldLink RX10 10 "MotionFloor" "now" "LMotionFloor$Assembly;") (List.mem_of_getElem? (i := 0) rfl)) (fun _ h9 => h9) rfl dX10_why_1 ?_
  refine va_get (D := G) (ci := 0) (v := .int 0) (C := RX0) (T := TX0) (N := 11) hx hb hts iX0 hown hK hP 1 rfl rfl 9 (by decide) (hw (.fieldLink RX10 42 "MotionFloor$Assembly" "reason" "I") (List.mem_of_getElem? (i := 1) rfl)) (fun _ h9 => h9) rfl dX10_why_4 ?_
  have hP9 : va_P G vwCl [(h0, .inr (7, [.ref h1, .ref h2, .null, .null, .ref h3])), (h1, .inr (0, [.ref h4, .ref h5, .ref h6, .ref h7, .ref h8, .ref h9, .ref h10, .int 0, .int 0, .int 0, .null]))] _ := hP
  have hD9 : va_D A [(h0, .inr (7, [.ref h1, .ref h2, .null, .null, .ref h3])), (h1, .inr (0, [.ref h4, .ref h5, .ref h6, .ref h7, .ref h8, .ref h9, .ref h10, .int 0, .int 0, .int 0, .null]))] := hD
  exact W.iret (v := 0) hx hb hr (fun t ht hW => ⟨⟨0, _, rfl, ⟨rfl, rfl⟩, by rw [ht]; exact hP9, hD9⟩, hS.F ht⟩) hS.2.2 dX10_why_7
def e_X12_why_0 : List Cond := [.fieldLink RX12 16 "MotionFloorModel" "hall" "LMotionFloorModel$Hall;", .fieldLink RX12 52 "MotionFloorModel$Hall" "why" "I"]
def v_X12_why_0 : List Cond := .code yX12_why cX12_why 1 (some .int) :: (e_X12_why_0 ++ (wsX120 ++ (wsX110 ++ [])))
theorem te_X12_why_0 : GoodIn lw_tbl e_X12_why_0 := wGc z225 (wGc z686 (wG0))
theorem t_X12_why_0 : GoodIn lw_tbl v_X12_why_0 := wGc z696 (wGa te_X12_why_0 (wGa zcX12 (wGa zcX11 (wG0))))
set_option maxHeartbeats 4000000 in
set_option maxRecDepth 100000 in
theorem m_X12_why_0 (l : Launch) (G : va_G) (K : Nat → ClassId) (h0 h1 h2 h3 h4 h5 h6 h7 h8 h9 h10 h11 h12 h13 h14 h15 h16 h17 h18 h19 h20 h21 h22 h23 h24 h25 h26 h27 h28 h29 h30 h31 h32 h33 : Nat) (sz : Nat) : Met l yX12_why v_X12_why_0 ({ frames := 0, cells := 0, slots := 0, locals := 0 }) (va_Pc [.ref h0] (wS G K sz [(h0, .inr (9, [.ref h1, .ref h2, .ref h3, .ref h4, .ref h5, .ref h6, .int 0])), (h1, .inr (8, [.int 1, .int 0, .int (-1), .int 0, .int 0, .int (-1), .int 0, .int 0, .int 0, .int 0, .int 0, .ref h7, .ref h8, .ref h9, .ref h10, .ref h11, .ref h12, .ref h13, .ref h14, .ref h15, .ref h16, .ref h17, .ref h18, .ref h19, .ref h20, .ref h21, .ref h22, .ref h23, .ref h24, .ref h25, .int 0, .ref h26, .ref h27, .ref h28, .ref h29, .int 0, .int 0, .ref h30, .ref h31, .int (-1), .ref h32, .ref h33]))])) (va_Qi (fun (r : Int32) (u : va_W) => (0 = r ∧ u = [(h0, .inr (9, [.ref h1, .ref h2, .ref h3, .ref h4, .ref h5, .ref h6, .int 0])), (h1, .inr (8, [.int 1, .int 0, .int (-1), .int 0, .int 0, .int (-1), .int 0, .int 0, .int 0, .int 0, .int 0, .ref h7, .ref h8, .ref h9, .ref h10, .ref h11, .ref h12, .ref h13, .ref h14, .ref h15, .ref h16, .ref h17, .ref h18, .ref h19, .ref h20, .ref h21, .ref h22, .ref h23, .ref h24, .ref h25, .int 0, .ref h26, .ref h27, .ref h28, .ref h29, .int 0, .int 0, .ref h30, .ref h31, .int (-1), .ref h32, .ref h33]))])) (wB G (va_A [(h0, .inr (9, [.ref h1, .ref h2, .ref h3, .ref h4, .ref h5, .ref h6, .int 0])), (h1, .inr (8, [.int 1, .int 0, .int (-1), .int 0, .int 0, .int (-1), .int 0, .int 0, .int 0, .int 0, .int 0, .ref h7, .ref h8, .ref h9, .ref h10, .ref h11, .ref h12, .ref h13, .ref h14, .ref h15, .ref h16, .ref h17, .ref h18, .ref h19, .ref h20, .ref h21, .ref h22, .ref h23, .ref h24, .ref h25, .int 0, .ref h26, .ref h27, .ref h28, .ref h29, .int 0, .int 0, .ref h30, .ref h31, .int (-1), .ref h32, .ref h33]))] sz)) (va_A [(h0, .inr (9, [.ref h1, .ref h2, .ref h3, .ref h4, .ref h5, .ref h6, .int 0])), (h1, .inr (8, [.int 1, .int 0, .int (-1), .int 0, .int 0, .int (-1), .int 0, .int 0, .int 0, .int 0, .int 0, .ref h7, .ref h8, .ref h9, .ref h10, .ref h11, .ref h12, .ref h13, .ref h14, .ref h15, .ref h16, .ref h17, .ref h18, .ref h19, .ref h20, .ref h21, .ref h22, .ref h23, .ref h24, .ref h25, .int 0, .ref h26, .ref h27, .ref h28, .ref h29, .int 0, .int 0, .ref h30, .ref h31, .int (-1), .ref h32, .ref h33]))] sz)) 0 0 (va_A [(h0, .inr (9, [.ref h1, .ref h2, .ref h3, .ref h4, .ref h5, .ref h6, .int 0])), (h1, .inr (8, [.int 1, .int 0, .int (-1), .int 0, .int 0, .int (-1), .int 0, .int 0, .int 0, .int 0, .int 0, .ref h7, .ref h8, .ref h9, .ref h10, .ref h11, .ref h12, .ref h13, .ref h14, .ref h15, .ref h16, .ref h17, .ref h18, .ref h19, .ref h20, .ref h21, .ref h22, .ref h23, .ref h24, .ref h25, .int 0, .ref h26, .ref h27, .ref h28, .ref h29, .int 0, .int 0, .ref h30, .ref h31, .int (-1), .ref h32, .ref h33]))] sz) := by
  refine Met.ofW (cc := cX12_why) (maxL := 1) (ret := (some .int)) (by decide) rfl ?_
  intro p e s m args below meth c s₁ B hml hv
  obtain ⟨rfl, hsz, hP, hK, hD0, hE⟩ := hv
  have hx := B.exec
  have hb := B.bytes
  have hr := B.returns
  have hts := atoms_spec (ws := v_X12_why_0) B.pre
  have t_ := t_X12_why_0
  have mw : ∀ w ∈ e_X12_why_0, w ∈ v_X12_why_0 := fun w h => List.mem_cons_of_mem _ (List.mem_append_left _ h)
  have hw := fun w (h : w ∈ e_X12_why_0) => hts w (mw w h)
  have iX12 : ∀ w ∈ wsX120, w ∈ v_X12_why_0 := fun w h => List.mem_cons_of_mem _ (List.mem_append_right _ (List.mem_append_left _ h))
  have iX11 : ∀ w ∈ wsX110, w ∈ v_X12_why_0 := fun w h => List.mem_cons_of_mem _ (List.mem_append_right _ (List.mem_append_right _ (List.mem_append_left _ h)))
  have hown : s.vm.findClass RX12 = some m.cls := findClass_of_methodNamed B.named
  have hlocks := B.notSynchronized
  subst hsz
  have hD := hD0.self (sz := s.heap.size)
  generalize hAe : va_A [(h0, .inr (9, [.ref h1, .ref h2, .ref h3, .ref h4, .ref h5, .ref h6, .int 0])), (h1, .inr (8, [.int 1, .int 0, .int (-1), .int 0, .int 0, .int (-1), .int 0, .int 0, .int 0, .int 0, .int 0, .ref h7, .ref h8, .ref h9, .ref h10, .ref h11, .ref h12, .ref h13, .ref h14, .ref h15, .ref h16, .ref h17, .ref h18, .ref h19, .ref h20, .ref h21, .ref h22, .ref h23, .ref h24, .ref h25, .int 0, .ref h26, .ref h27, .ref h28, .ref h29, .int 0, .int 0, .ref h30, .ref h31, .int (-1), .ref h32, .ref h33]))] s.heap.size = A at hD ⊢
  have hA : ∀ q : Nat, s.heap.size ≤ q → A q := fun q h => by rw [← hAe]; exact Or.inr h
  have hS : va_S A s.heap s.heap [] := va_S.rf
  have hP : va_P G vwCl [(h0, .inr (9, [.ref h1, .ref h2, .ref h3, .ref h4, .ref h5, .ref h6, .int 0])), (h1, .inr (8, [.int 1, .int 0, .int (-1), .int 0, .int 0, .int (-1), .int 0, .int 0, .int 0, .int 0, .int 0, .ref h7, .ref h8, .ref h9, .ref h10, .ref h11, .ref h12, .ref h13, .ref h14, .ref h15, .ref h16, .ref h17, .ref h18, .ref h19, .ref h20, .ref h21, .ref h22, .ref h23, .ref h24, .ref h25, .int 0, .ref h26, .ref h27, .ref h28, .ref h29, .int 0, .int 0, .ref h30, .ref h31, .int (-1), .ref h32, .ref h33]))] s.heap := hP
  have hl := lv_entry ([.ref h0]) (n := 1) (Nat.le_of_ble_eq_true rfl)
  rw [lg_entry_eq]
  generalize (lg_sl ([.ref h0]) ++ List.replicate (1 - (lg_sl ([.ref h0])).length) Slot.unset).toArray = ls at hl ⊢
  have hl : lv_has ls 1 [(0, .ref h0)] := hl
  refine lv_aload_n hx hb dX12_why_0 rfl (lv_at hl 0 rfl) ?_
  refine va_get (D := G) (ci := 9) (v := .ref h1) (C := RX12) (T := TX12) (N := 7) hx hb hts iX12 hown hK hP 0 rfl rfl 0 (by decide) (hw (.fieldLink RX12 16 "MotionFloorModel" "hall" "LMotionFloorModel$Hall;") (List.mem_of_getElem? (i := 0) rfl)) (fun _ h9 => h9) rfl dX12_why_1 ?_
  refine va_get (D := G) (ci := 8) (v := .int 0) (C := RX11) (T := TX11) (N := 42) hx hb hts iX11 hown hK hP 1 rfl rfl 10 (by decide) (hw (.fieldLink RX12 52 "MotionFloorModel$Hall" "why" "I") (List.mem_of_getElem? (i := 1) rfl)) (fun _ h9 => h9) rfl dX12_why_4 ?_
  have hP9 : va_P G vwCl [(h0, .inr (9, [.ref h1, .ref h2, .ref h3, .ref h4, .ref h5, .ref h6, .int 0])), (h1, .inr (8, [.int 1, .int 0, .int (-1), .int 0, .int 0, .int (-1), .int 0, .int 0, .int 0, .int 0, .int 0, .ref h7, .ref h8, .ref h9, .ref h10, .ref h11, .ref h12, .ref h13, .ref h14, .ref h15, .ref h16, .ref h17, .ref h18, .ref h19, .ref h20, .ref h21, .ref h22, .ref h23, .ref h24, .ref h25, .int 0, .ref h26, .ref h27, .ref h28, .ref h29, .int 0, .int 0, .ref h30, .ref h31, .int (-1), .ref h32, .ref h33]))] _ := hP
  have hD9 : va_D A [(h0, .inr (9, [.ref h1, .ref h2, .ref h3, .ref h4, .ref h5, .ref h6, .int 0])), (h1, .inr (8, [.int 1, .int 0, .int (-1), .int 0, .int 0, .int (-1), .int 0, .int 0, .int 0, .int 0, .int 0, .ref h7, .ref h8, .ref h9, .ref h10, .ref h11, .ref h12, .ref h13, .ref h14, .ref h15, .ref h16, .ref h17, .ref h18, .ref h19, .ref h20, .ref h21, .ref h22, .ref h23, .ref h24, .ref h25, .int 0, .ref h26, .ref h27, .ref h28, .ref h29, .int 0, .int 0, .ref h30, .ref h31, .int (-1), .ref h32, .ref h33]))] := hD
  exact W.iret (v := 0) hx hb hr (fun t ht hW => ⟨⟨0, _, rfl, ⟨rfl, rfl⟩, by rw [ht]; exact hP9, hD9⟩, hS.F ht⟩) hS.2.2 dX12_why_7
def e_X5_at_1 : List Cond := [.fieldLink RX5 17 "MotionFloor$Pile" "size" "I"]
def v_X5_at_1 : List Cond := .code yX5_at cX5_at 2 (some (.object "MotionFloor$Motion")) :: (e_X5_at_1 ++ (wsX50 ++ []))
theorem te_X5_at_1 : GoodIn lw_tbl e_X5_at_1 := wGc z315 (wG0)
theorem t_X5_at_1 : GoodIn lw_tbl v_X5_at_1 := wGc z311 (wGa te_X5_at_1 (wGa zcX5 (wG0)))
set_option maxHeartbeats 4000000 in
set_option maxRecDepth 100000 in
theorem m_X5_at_1 (l : Launch) (G : va_G) (K : Nat → ClassId) (h0 h1 : Nat) (p0 : Int32) (sz : Nat) : Met l yX5_at v_X5_at_1 ({ frames := 0, cells := 0, slots := 0, locals := 0 }) (va_Pc [.ref h0, .int p0] (wS G K sz [(h0, .inr (4, [.ref h1, .int 0]))])) (va_Qq (fun (r : Option Nat) (u : va_W) => (none = r ∧ u = [(h0, .inr (4, [.ref h1, .int 0]))])) (wB G (va_A [(h0, .inr (4, [.ref h1, .int 0]))] sz)) (va_A [(h0, .inr (4, [.ref h1, .int 0]))] sz)) 0 0 (va_A [(h0, .inr (4, [.ref h1, .int 0]))] sz) := by
  refine Met.ofW (cc := cX5_at) (maxL := 2) (ret := (some (.object "MotionFloor$Motion"))) (by decide) rfl ?_
  intro p e s m args below meth c s₁ B hml hv
  obtain ⟨rfl, hsz, hP, hK, hD0, hE⟩ := hv
  have hx := B.exec
  have hb := B.bytes
  have hr := B.returns
  have hts := atoms_spec (ws := v_X5_at_1) B.pre
  have t_ := t_X5_at_1
  have mw : ∀ w ∈ e_X5_at_1, w ∈ v_X5_at_1 := fun w h => List.mem_cons_of_mem _ (List.mem_append_left _ h)
  have hw := fun w (h : w ∈ e_X5_at_1) => hts w (mw w h)
  have iX5 : ∀ w ∈ wsX50, w ∈ v_X5_at_1 := fun w h => List.mem_cons_of_mem _ (List.mem_append_right _ (List.mem_append_left _ h))
  have hown : s.vm.findClass RX5 = some m.cls := findClass_of_methodNamed B.named
  have hlocks := B.notSynchronized
  subst hsz
  have hD := hD0.self (sz := s.heap.size)
  generalize hAe : va_A [(h0, .inr (4, [.ref h1, .int 0]))] s.heap.size = A at hD ⊢
  have hA : ∀ q : Nat, s.heap.size ≤ q → A q := fun q h => by rw [← hAe]; exact Or.inr h
  have hS : va_S A s.heap s.heap [] := va_S.rf
  have hP : va_P G vwCl [(h0, .inr (4, [.ref h1, .int 0]))] s.heap := hP
  have hl := lv_entry ([.ref h0, .int p0]) (n := 2) (Nat.le_of_ble_eq_true rfl)
  rw [lg_entry_eq]
  generalize (lg_sl ([.ref h0, .int p0]) ++ List.replicate (2 - (lg_sl ([.ref h0, .int p0])).length) Slot.unset).toArray = ls at hl ⊢
  have hl : lv_has ls 2 [(0, .ref h0), (1, .int p0)] := hl
  refine lv_iload_n hx hb dX5_at_0 rfl (lv_at hl 1 rfl) ?_
  refine lv_if_lt (tgt := 21) hx hb dX5_at_1 (by decide) (fun c1 => ?_) (fun c1 => ?_)
  · have c1 : p0.toInt < 0 := wLt rfl (by decide) c1
    refine lv_null hx hb dX5_at_21 ?_
    refine lv_goto (tgt := 31) hx hb dX5_at_22 (by decide) ?_
    have hP9 : va_P G vwCl [(h0, .inr (4, [.ref h1, .int 0]))] _ := hP
    have hD9 : va_D A [(h0, .inr (4, [.ref h1, .int 0]))] := hD
    exact W.aret (v := .null) hx hb hr (Or.inl ⟨_, rfl⟩) (Or.inl rfl) (fun t ht hW => ⟨⟨none, _, rfl, ⟨rfl, rfl⟩, by rw [ht]; exact hP9, hD9⟩, hS.F ht⟩) hS.2.2 dX5_at_31
  · have c1 : p0.toInt ≥ 0 := wNlt rfl (by decide) c1
    refine lv_iload_n hx hb dX5_at_4 rfl (lv_at hl 1 rfl) ?_
    refine lv_aload_n hx hb dX5_at_5 rfl (lv_at hl 0 rfl) ?_
    refine va_get (D := G) (ci := 4) (v := .int 0) (C := RX5) (T := TX5) (N := 2) hx hb hts iX5 hown hK hP 0 rfl rfl 1 (by decide) (hw (.fieldLink RX5 17 "MotionFloor$Pile" "size" "I") (List.mem_of_getElem? (i := 0) rfl)) (fun _ h9 => h9) rfl dX5_at_6 ?_
    refine lv_icmp_ge (tgt := 21) hx hb dX5_at_9 (by decide) (fun c2 => ?_) (fun c2 => by have c2 : 0 > p0.toInt := wNle (by decide) rfl c2; omega)
    have c2 : 0 ≤ p0.toInt := wLe (by decide) rfl c2
    refine lv_null hx hb dX5_at_21 ?_
    refine lv_goto (tgt := 31) hx hb dX5_at_22 (by decide) ?_
    have hP9 : va_P G vwCl [(h0, .inr (4, [.ref h1, .int 0]))] _ := hP
    have hD9 : va_D A [(h0, .inr (4, [.ref h1, .int 0]))] := hD
    exact W.aret (v := .null) hx hb hr (Or.inl ⟨_, rfl⟩) (Or.inl rfl) (fun t ht hW => ⟨⟨none, _, rfl, ⟨rfl, rfl⟩, by rw [ht]; exact hP9, hD9⟩, hS.F ht⟩) hS.2.2 dX5_at_31
def e_X10_pending_0 : List Cond := [.fieldLink RX10 10 "MotionFloor" "now" "LMotionFloor$Assembly;", .fieldLink RX10 46 "MotionFloor$Assembly" "pending" "LMotionFloor$Pile;", .methodLink RX10 50 yX5_at, .instanceMethod yX5_at, .selects RX5 yX5_at yX5_at, .initialized RX5]
def v_X10_pending_0 : List Cond := .code yX10_pending cX10_pending 4 (some .int) :: (e_X10_pending_0 ++ (wsX100 ++ (wsX00 ++ (v_X5_at_1 ++ []))))
theorem te_X10_pending_0 : GoodIn lw_tbl e_X10_pending_0 := wGc z115 (wGc z704 (wGc z703 (wGc z313 (wGc z312 (wGc z26 (wG0))))))
theorem t_X10_pending_0 : GoodIn lw_tbl v_X10_pending_0 := wGc z705 (wGa te_X10_pending_0 (wGa zcX10 (wGa zcX0 (wGa t_X5_at_1 (wG0)))))
set_option maxHeartbeats 4000000 in
set_option maxRecDepth 100000 in
theorem m_X10_pending_0 (l : Launch) (G : va_G) (K : Nat → ClassId) (h0 h1 h2 h3 h4 h5 h6 h7 h8 h9 h10 h11 : Nat) (p0 p1 : Int32) (sz : Nat) : Met l yX10_pending v_X10_pending_0 ({ frames := 1, cells := 0, slots := 0, locals := 21 }) (va_Pc [.ref h0, .int p0, .int p1] (wS G K sz [(h0, .inr (7, [.ref h1, .ref h3, .null, .null, .ref h4])), (h1, .inr (0, [.ref h5, .ref h2, .ref h6, .ref h7, .ref h8, .ref h9, .ref h10, .int 0, .int 0, .int 0, .null])), (h2, .inr (4, [.ref h11, .int 0]))])) (va_Qi (fun (r : Int32) (u : va_W) => ((-1) = r ∧ u = [(h0, .inr (7, [.ref h1, .ref h3, .null, .null, .ref h4])), (h1, .inr (0, [.ref h5, .ref h2, .ref h6, .ref h7, .ref h8, .ref h9, .ref h10, .int 0, .int 0, .int 0, .null])), (h2, .inr (4, [.ref h11, .int 0]))])) (wB G (va_A [(h0, .inr (7, [.ref h1, .ref h3, .null, .null, .ref h4])), (h1, .inr (0, [.ref h5, .ref h2, .ref h6, .ref h7, .ref h8, .ref h9, .ref h10, .int 0, .int 0, .int 0, .null])), (h2, .inr (4, [.ref h11, .int 0]))] sz)) (va_A [(h0, .inr (7, [.ref h1, .ref h3, .null, .null, .ref h4])), (h1, .inr (0, [.ref h5, .ref h2, .ref h6, .ref h7, .ref h8, .ref h9, .ref h10, .int 0, .int 0, .int 0, .null])), (h2, .inr (4, [.ref h11, .int 0]))] sz)) 0 0 (va_A [(h0, .inr (7, [.ref h1, .ref h3, .null, .null, .ref h4])), (h1, .inr (0, [.ref h5, .ref h2, .ref h6, .ref h7, .ref h8, .ref h9, .ref h10, .int 0, .int 0, .int 0, .null])), (h2, .inr (4, [.ref h11, .int 0]))] sz) := by
  refine Met.ofW (cc := cX10_pending) (maxL := 4) (ret := (some .int)) (by decide) rfl ?_
  intro p e s m args below meth c s₁ B hml hv
  obtain ⟨rfl, hsz, hP, hK, hD0, hE⟩ := hv
  have hx := B.exec
  have hb := B.bytes
  have hr := B.returns
  have hts := atoms_spec (ws := v_X10_pending_0) B.pre
  have t_ := t_X10_pending_0
  have mw : ∀ w ∈ e_X10_pending_0, w ∈ v_X10_pending_0 := fun w h => List.mem_cons_of_mem _ (List.mem_append_left _ h)
  have hw := fun w (h : w ∈ e_X10_pending_0) => hts w (mw w h)
  have iX10 : ∀ w ∈ wsX100, w ∈ v_X10_pending_0 := fun w h => List.mem_cons_of_mem _ (List.mem_append_right _ (List.mem_append_left _ h))
  have iX0 : ∀ w ∈ wsX00, w ∈ v_X10_pending_0 := fun w h => List.mem_cons_of_mem _ (List.mem_append_right _ (List.mem_append_right _ (List.mem_append_left _ h)))
  have j_X5_at_1 : ∀ w ∈ v_X5_at_1, w ∈ v_X10_pending_0 := fun w h => List.mem_cons_of_mem _ (List.mem_append_right _ (List.mem_append_right _ (List.mem_append_right _ (List.mem_append_left _ h))))
  have hown : s.vm.findClass RX10 = some m.cls := findClass_of_methodNamed B.named
  have hlocks := B.notSynchronized
  subst hsz
  have hD := hD0.self (sz := s.heap.size)
  generalize hAe : va_A [(h0, .inr (7, [.ref h1, .ref h3, .null, .null, .ref h4])), (h1, .inr (0, [.ref h5, .ref h2, .ref h6, .ref h7, .ref h8, .ref h9, .ref h10, .int 0, .int 0, .int 0, .null])), (h2, .inr (4, [.ref h11, .int 0]))] s.heap.size = A at hD ⊢
  have hA : ∀ q : Nat, s.heap.size ≤ q → A q := fun q h => by rw [← hAe]; exact Or.inr h
  have hS : va_S A s.heap s.heap [] := va_S.rf
  have hP : va_P G vwCl [(h0, .inr (7, [.ref h1, .ref h3, .null, .null, .ref h4])), (h1, .inr (0, [.ref h5, .ref h2, .ref h6, .ref h7, .ref h8, .ref h9, .ref h10, .int 0, .int 0, .int 0, .null])), (h2, .inr (4, [.ref h11, .int 0]))] s.heap := hP
  have hl := lv_entry ([.ref h0, .int p0, .int p1]) (n := 4) (Nat.le_of_ble_eq_true rfl)
  rw [lg_entry_eq]
  generalize (lg_sl ([.ref h0, .int p0, .int p1]) ++ List.replicate (4 - (lg_sl ([.ref h0, .int p0, .int p1])).length) Slot.unset).toArray = ls at hl ⊢
  have hl : lv_has ls 4 [(0, .ref h0), (1, .int p0), (2, .int p1)] := hl
  refine lv_aload_n hx hb dX10_pending_0 rfl (lv_at hl 0 rfl) ?_
  refine va_get (D := G) (ci := 7) (v := .ref h1) (C := RX10) (T := TX10) (N := 5) hx hb hts iX10 hown hK hP 0 rfl rfl 0 (by decide) (hw (.fieldLink RX10 10 "MotionFloor" "now" "LMotionFloor$Assembly;") (List.mem_of_getElem? (i := 0) rfl)) (fun _ h9 => h9) rfl dX10_pending_1 ?_
  refine va_get (D := G) (ci := 0) (v := .ref h2) (C := RX0) (T := TX0) (N := 11) hx hb hts iX0 hown hK hP 1 rfl rfl 1 (by decide) (hw (.fieldLink RX10 46 "MotionFloor$Assembly" "pending" "LMotionFloor$Pile;") (List.mem_of_getElem? (i := 1) rfl)) (fun _ h9 => h9) rfl dX10_pending_4 ?_
  refine lv_iload_n hx hb dX10_pending_7 rfl (lv_at hl 1 rfl) ?_
  have hPc := hP.sub (ws' := [(h2, .inr (4, [.ref h11, .int 0]))]) [2] rfl
  have hDc := hD.sub (ws' := [(h2, .inr (4, [.ref h11, .int 0]))]) [2] (by decide) rfl
  refine wGoq (wc := [(h2, .inr (4, [.ref h11, .int 0]))]) (wr := [(h0, .inr (7, [.ref h1, .ref h3, .null, .null, .ref h4])), (h1, .inr (0, [.ref h5, .ref h2, .ref h6, .ref h7, .ref h8, .ref h9, .ref h10, .int 0, .int 0, .int 0, .null]))]) (va_runV (As := [.int p0]) (rest := []) ⟨hx, hb, hml, hown, hts⟩ (m_X5_at_1 l G K h2 h11 p0 _) (cwV 1 hts (wGV t_ (mw (.methodLink RX10 50 yX5_at) (List.mem_of_getElem? (i := 2) rfl)) (mw (.instanceMethod yX5_at) (List.mem_of_getElem? (i := 3) rfl)) (mw (.selects RX5 yX5_at yX5_at) (List.mem_of_getElem? (i := 4) rfl)) (mw (.initialized RX5) (List.mem_of_getElem? (i := 5) rfl)) j_X5_at_1) rfl rfl rfl (by decide +kernel) ⟨Nat.le_of_ble_eq_true rfl, Nat.le_of_ble_eq_true rfl⟩) (wPV hK hE hPc hDc 4 0 rfl rfl) rfl rfl hl.1 rfl (lv_room (Nat.le_of_ble_eq_true rfl)) dX10_pending_8 ⟨Nat.le_of_ble_eq_true rfl, Nat.le_of_ble_eq_true rfl⟩) hP hD hS hA [2] [0, 1] rfl rfl rfl (by decide) (fun r u H locs hw hP hD hS => ?_)
  rcases hw with ⟨rfl, rfl⟩
  have hP : va_P G vwCl [(h0, .inr (7, [.ref h1, .ref h3, .null, .null, .ref h4])), (h1, .inr (0, [.ref h5, .ref h2, .ref h6, .ref h7, .ref h8, .ref h9, .ref h10, .int 0, .int 0, .int 0, .null])), (h2, .inr (4, [.ref h11, .int 0]))] _ := hP
  have hD : va_D A [(h0, .inr (7, [.ref h1, .ref h3, .null, .null, .ref h4])), (h1, .inr (0, [.ref h5, .ref h2, .ref h6, .ref h7, .ref h8, .ref h9, .ref h10, .int 0, .int 0, .int 0, .null])), (h2, .inr (4, [.ref h11, .int 0]))] := hD
  refine wTop (v1 := .null) rfl ?_
  refine lv_astore_nN (lv' := [(3, .null), (0, .ref h0), (1, .int p0), (2, .int p1)]) hx hb dX10_pending_11 rfl hl (by decide) rfl (fun ls hl => ?_)
  refine lv_aload_nN hx hb dX10_pending_12 rfl (lv_at hl 0 rfl) ?_
  refine lv_ifnonnullN hx hb dX10_pending_13 ?_
  refine lv_iconst (v := (-1)) hx hb dX10_pending_16 (by decide) ?_
  refine lv_goto (tgt := 25) hx hb dX10_pending_17 (by decide) ?_
  have hP9 : va_P G vwCl [(h0, .inr (7, [.ref h1, .ref h3, .null, .null, .ref h4])), (h1, .inr (0, [.ref h5, .ref h2, .ref h6, .ref h7, .ref h8, .ref h9, .ref h10, .int 0, .int 0, .int 0, .null])), (h2, .inr (4, [.ref h11, .int 0]))] _ := hP
  have hD9 : va_D A [(h0, .inr (7, [.ref h1, .ref h3, .null, .null, .ref h4])), (h1, .inr (0, [.ref h5, .ref h2, .ref h6, .ref h7, .ref h8, .ref h9, .ref h10, .int 0, .int 0, .int 0, .null])), (h2, .inr (4, [.ref h11, .int 0]))] := hD
  exact W.iret (v := (-1)) hx hb hr (fun t ht hW => ⟨⟨(-1), _, rfl, ⟨rfl, rfl⟩, by rw [ht]; exact hP9, hD9⟩, hS.F ht⟩) hS.2.2 dX10_pending_25
def e_X12_in_19 : List Cond := []
def v_X12_in_19 : List Cond := .code yX12_in cX12_in 3 (some .boolean) :: (e_X12_in_19 ++ [])
theorem te_X12_in_19 : GoodIn lw_tbl e_X12_in_19 := wG0
theorem t_X12_in_19 : GoodIn lw_tbl v_X12_in_19 := wGc z276 (wGa te_X12_in_19 (wG0))
set_option maxHeartbeats 4000000 in
set_option maxRecDepth 100000 in
theorem m_X12_in_19 (l : Launch) (G : va_G) (K : Nat → ClassId) (p0 : Int32) (sz : Nat) : Met l yX12_in v_X12_in_19 ({ frames := 0, cells := 0, slots := 0, locals := 0 }) (va_Pc [.int p0, .int 0, .int (-1)] (wS G K sz [])) (va_Qi (fun (r : Int32) (u : va_W) => (0 = r ∧ u = [])) (wB G (va_A [] sz)) (va_A [] sz)) 0 0 (va_A [] sz) := by
  refine Met.ofW (cc := cX12_in) (maxL := 3) (ret := (some .boolean)) (by decide) rfl ?_
  intro p e s m args below meth c s₁ B hml hv
  obtain ⟨rfl, hsz, hP, hK, hD0, hE⟩ := hv
  have hx := B.exec
  have hb := B.bytes
  have hr := B.returns
  have hts := atoms_spec (ws := v_X12_in_19) B.pre
  have t_ := t_X12_in_19
  have mw : ∀ w ∈ e_X12_in_19, w ∈ v_X12_in_19 := fun w h => List.mem_cons_of_mem _ (List.mem_append_left _ h)
  have hw := fun w (h : w ∈ e_X12_in_19) => hts w (mw w h)
  have hown : s.vm.findClass RX12 = some m.cls := findClass_of_methodNamed B.named
  have hlocks := B.notSynchronized
  subst hsz
  have hD := hD0.self (sz := s.heap.size)
  generalize hAe : va_A [] s.heap.size = A at hD ⊢
  have hA : ∀ q : Nat, s.heap.size ≤ q → A q := fun q h => by rw [← hAe]; exact Or.inr h
  have hS : va_S A s.heap s.heap [] := va_S.rf
  have hP : va_P G vwCl [] s.heap := hP
  have hl := lv_entry ([.int p0, .int 0, .int (-1)]) (n := 3) (Nat.le_of_ble_eq_true rfl)
  rw [lg_entry_eq]
  generalize (lg_sl ([.int p0, .int 0, .int (-1)]) ++ List.replicate (3 - (lg_sl ([.int p0, .int 0, .int (-1)])).length) Slot.unset).toArray = ls at hl ⊢
  have hl : lv_has ls 3 [(0, .int p0), (1, .int 0), (2, .int (-1))] := hl
  refine lv_iload_n hx hb dX12_in_0 rfl (lv_at hl 0 rfl) ?_
  refine lv_iload_n hx hb dX12_in_1 rfl (lv_at hl 1 rfl) ?_
  refine lv_icmp_lt (tgt := 14) hx hb dX12_in_2 (by decide) (fun c1 => ?_) (fun c1 => ?_)
  · have c1 : p0.toInt < 0 := wLt rfl (by decide) c1
    refine lv_iconst (v := 0) hx hb dX12_in_14 (by decide) ?_
    have hP9 : va_P G vwCl [] _ := hP
    have hD9 : va_D A [] := hD
    exact W.zret (v := 0) (ty := .boolean) hx hb hr rfl (fun t ht hW => ⟨⟨0, _, rfl, ⟨rfl, rfl⟩, by rw [ht]; exact hP9, hD9⟩, hS.F ht⟩) hS.2.2 dX12_in_15
  · have c1 : p0.toInt ≥ 0 := wNlt rfl (by decide) c1
    refine lv_iload_n hx hb dX12_in_5 rfl (lv_at hl 0 rfl) ?_
    refine lv_iload_n hx hb dX12_in_6 rfl (lv_at hl 2 rfl) ?_
    refine lv_icmp_gt (tgt := 14) hx hb dX12_in_7 (by decide) (fun c2 => ?_) (fun c2 => by have c2 : -1 ≥ p0.toInt := wNlt (by decide) rfl c2; omega)
    have c2 : -1 < p0.toInt := wLt (by decide) rfl c2
    refine lv_iconst (v := 0) hx hb dX12_in_14 (by decide) ?_
    have hP9 : va_P G vwCl [] _ := hP
    have hD9 : va_D A [] := hD
    exact W.zret (v := 0) (ty := .boolean) hx hb hr rfl (fun t ht hW => ⟨⟨0, _, rfl, ⟨rfl, rfl⟩, by rw [ht]; exact hP9, hD9⟩, hS.F ht⟩) hS.2.2 dX12_in_15
def e_X12_pending_0 : List Cond := [.fieldLink RX12 16 "MotionFloorModel" "hall" "LMotionFloorModel$Hall;", .fieldLink RX12 55 "MotionFloorModel$Hall" "pending" "I", .methodLink RX12 1 yX12_in, .static yX12_in, .initialized RX12]
def v_X12_pending_0 : List Cond := .code yX12_pending cX12_pending 4 (some .int) :: (e_X12_pending_0 ++ (wsX120 ++ (wsX110 ++ (v_X12_in_19 ++ []))))
theorem te_X12_pending_0 : GoodIn lw_tbl e_X12_pending_0 := wGc z225 (wGc z706 (wGc z279 (wGc z278 (wGc z277 (wG0)))))
theorem t_X12_pending_0 : GoodIn lw_tbl v_X12_pending_0 := wGc z707 (wGa te_X12_pending_0 (wGa zcX12 (wGa zcX11 (wGa t_X12_in_19 (wG0)))))
set_option maxHeartbeats 4000000 in
set_option maxRecDepth 100000 in
theorem m_X12_pending_0 (l : Launch) (G : va_G) (K : Nat → ClassId) (h0 h1 h2 h3 h4 h5 h6 h7 h8 h9 h10 h11 h12 h13 h14 h15 h16 h17 h18 h19 h20 h21 h22 h23 h24 h25 h26 h27 h28 h29 h30 h31 h32 h33 : Nat) (p0 p1 : Int32) (sz : Nat) : Met l yX12_pending v_X12_pending_0 ({ frames := 1, cells := 0, slots := 0, locals := 22 }) (va_Pc [.ref h0, .int p0, .int p1] (wS G K sz [(h0, .inr (9, [.ref h1, .ref h2, .ref h3, .ref h4, .ref h5, .ref h6, .int 0])), (h1, .inr (8, [.int 1, .int 0, .int (-1), .int 0, .int 0, .int (-1), .int 0, .int 0, .int 0, .int 0, .int 0, .ref h7, .ref h8, .ref h9, .ref h10, .ref h11, .ref h12, .ref h13, .ref h14, .ref h15, .ref h16, .ref h17, .ref h18, .ref h19, .ref h20, .ref h21, .ref h22, .ref h23, .ref h24, .ref h25, .int 0, .ref h26, .ref h27, .ref h28, .ref h29, .int 0, .int 0, .ref h30, .ref h31, .int (-1), .ref h32, .ref h33]))])) (va_Qi (fun (r : Int32) (u : va_W) => ((-1) = r ∧ u = [(h0, .inr (9, [.ref h1, .ref h2, .ref h3, .ref h4, .ref h5, .ref h6, .int 0])), (h1, .inr (8, [.int 1, .int 0, .int (-1), .int 0, .int 0, .int (-1), .int 0, .int 0, .int 0, .int 0, .int 0, .ref h7, .ref h8, .ref h9, .ref h10, .ref h11, .ref h12, .ref h13, .ref h14, .ref h15, .ref h16, .ref h17, .ref h18, .ref h19, .ref h20, .ref h21, .ref h22, .ref h23, .ref h24, .ref h25, .int 0, .ref h26, .ref h27, .ref h28, .ref h29, .int 0, .int 0, .ref h30, .ref h31, .int (-1), .ref h32, .ref h33]))])) (wB G (va_A [(h0, .inr (9, [.ref h1, .ref h2, .ref h3, .ref h4, .ref h5, .ref h6, .int 0])), (h1, .inr (8, [.int 1, .int 0, .int (-1), .int 0, .int 0, .int (-1), .int 0, .int 0, .int 0, .int 0, .int 0, .ref h7, .ref h8, .ref h9, .ref h10, .ref h11, .ref h12, .ref h13, .ref h14, .ref h15, .ref h16, .ref h17, .ref h18, .ref h19, .ref h20, .ref h21, .ref h22, .ref h23, .ref h24, .ref h25, .int 0, .ref h26, .ref h27, .ref h28, .ref h29, .int 0, .int 0, .ref h30, .ref h31, .int (-1), .ref h32, .ref h33]))] sz)) (va_A [(h0, .inr (9, [.ref h1, .ref h2, .ref h3, .ref h4, .ref h5, .ref h6, .int 0])), (h1, .inr (8, [.int 1, .int 0, .int (-1), .int 0, .int 0, .int (-1), .int 0, .int 0, .int 0, .int 0, .int 0, .ref h7, .ref h8, .ref h9, .ref h10, .ref h11, .ref h12, .ref h13, .ref h14, .ref h15, .ref h16, .ref h17, .ref h18, .ref h19, .ref h20, .ref h21, .ref h22, .ref h23, .ref h24, .ref h25, .int 0, .ref h26, .ref h27, .ref h28, .ref h29, .int 0, .int 0, .ref h30, .ref h31, .int (-1), .ref h32, .ref h33]))] sz)) 0 0 (va_A [(h0, .inr (9, [.ref h1, .ref h2, .ref h3, .ref h4, .ref h5, .ref h6, .int 0])), (h1, .inr (8, [.int 1, .int 0, .int (-1), .int 0, .int 0, .int (-1), .int 0, .int 0, .int 0, .int 0, .int 0, .ref h7, .ref h8, .ref h9, .ref h10, .ref h11, .ref h12, .ref h13, .ref h14, .ref h15, .ref h16, .ref h17, .ref h18, .ref h19, .ref h20, .ref h21, .ref h22, .ref h23, .ref h24, .ref h25, .int 0, .ref h26, .ref h27, .ref h28, .ref h29, .int 0, .int 0, .ref h30, .ref h31, .int (-1), .ref h32, .ref h33]))] sz) := by
  refine Met.ofW (cc := cX12_pending) (maxL := 4) (ret := (some .int)) (by decide) rfl ?_
  intro p e s m args below meth c s₁ B hml hv
  obtain ⟨rfl, hsz, hP, hK, hD0, hE⟩ := hv
  have hx := B.exec
  have hb := B.bytes
  have hr := B.returns
  have hts := atoms_spec (ws := v_X12_pending_0) B.pre
  have t_ := t_X12_pending_0
  have mw : ∀ w ∈ e_X12_pending_0, w ∈ v_X12_pending_0 := fun w h => List.mem_cons_of_mem _ (List.mem_append_left _ h)
  have hw := fun w (h : w ∈ e_X12_pending_0) => hts w (mw w h)
  have iX12 : ∀ w ∈ wsX120, w ∈ v_X12_pending_0 := fun w h => List.mem_cons_of_mem _ (List.mem_append_right _ (List.mem_append_left _ h))
  have iX11 : ∀ w ∈ wsX110, w ∈ v_X12_pending_0 := fun w h => List.mem_cons_of_mem _ (List.mem_append_right _ (List.mem_append_right _ (List.mem_append_left _ h)))
  have j_X12_in_19 : ∀ w ∈ v_X12_in_19, w ∈ v_X12_pending_0 := fun w h => List.mem_cons_of_mem _ (List.mem_append_right _ (List.mem_append_right _ (List.mem_append_right _ (List.mem_append_left _ h))))
  have hown : s.vm.findClass RX12 = some m.cls := findClass_of_methodNamed B.named
  have hlocks := B.notSynchronized
  subst hsz
  have hD := hD0.self (sz := s.heap.size)
  generalize hAe : va_A [(h0, .inr (9, [.ref h1, .ref h2, .ref h3, .ref h4, .ref h5, .ref h6, .int 0])), (h1, .inr (8, [.int 1, .int 0, .int (-1), .int 0, .int 0, .int (-1), .int 0, .int 0, .int 0, .int 0, .int 0, .ref h7, .ref h8, .ref h9, .ref h10, .ref h11, .ref h12, .ref h13, .ref h14, .ref h15, .ref h16, .ref h17, .ref h18, .ref h19, .ref h20, .ref h21, .ref h22, .ref h23, .ref h24, .ref h25, .int 0, .ref h26, .ref h27, .ref h28, .ref h29, .int 0, .int 0, .ref h30, .ref h31, .int (-1), .ref h32, .ref h33]))] s.heap.size = A at hD ⊢
  have hA : ∀ q : Nat, s.heap.size ≤ q → A q := fun q h => by rw [← hAe]; exact Or.inr h
  have hS : va_S A s.heap s.heap [] := va_S.rf
  have hP : va_P G vwCl [(h0, .inr (9, [.ref h1, .ref h2, .ref h3, .ref h4, .ref h5, .ref h6, .int 0])), (h1, .inr (8, [.int 1, .int 0, .int (-1), .int 0, .int 0, .int (-1), .int 0, .int 0, .int 0, .int 0, .int 0, .ref h7, .ref h8, .ref h9, .ref h10, .ref h11, .ref h12, .ref h13, .ref h14, .ref h15, .ref h16, .ref h17, .ref h18, .ref h19, .ref h20, .ref h21, .ref h22, .ref h23, .ref h24, .ref h25, .int 0, .ref h26, .ref h27, .ref h28, .ref h29, .int 0, .int 0, .ref h30, .ref h31, .int (-1), .ref h32, .ref h33]))] s.heap := hP
  have hl := lv_entry ([.ref h0, .int p0, .int p1]) (n := 4) (Nat.le_of_ble_eq_true rfl)
  rw [lg_entry_eq]
  generalize (lg_sl ([.ref h0, .int p0, .int p1]) ++ List.replicate (4 - (lg_sl ([.ref h0, .int p0, .int p1])).length) Slot.unset).toArray = ls at hl ⊢
  have hl : lv_has ls 4 [(0, .ref h0), (1, .int p0), (2, .int p1)] := hl
  refine lv_iload_n hx hb dX12_pending_0 rfl (lv_at hl 1 rfl) ?_
  refine lv_iconst (v := 0) hx hb dX12_pending_1 (by decide) ?_
  refine lv_aload_n hx hb dX12_pending_2 rfl (lv_at hl 0 rfl) ?_
  refine va_get (D := G) (ci := 9) (v := .ref h1) (C := RX12) (T := TX12) (N := 7) hx hb hts iX12 hown hK hP 0 rfl rfl 0 (by decide) (hw (.fieldLink RX12 16 "MotionFloorModel" "hall" "LMotionFloorModel$Hall;") (List.mem_of_getElem? (i := 0) rfl)) (fun _ h9 => h9) rfl dX12_pending_3 ?_
  refine va_get (D := G) (ci := 8) (v := .int 0) (C := RX11) (T := TX11) (N := 42) hx hb hts iX11 hown hK hP 1 rfl rfl 6 (by decide) (hw (.fieldLink RX12 55 "MotionFloorModel$Hall" "pending" "I") (List.mem_of_getElem? (i := 1) rfl)) (fun _ h9 => h9) rfl dX12_pending_6 ?_
  refine lv_iconst (v := 1) hx hb dX12_pending_9 (by decide) ?_
  refine lv_isub hx hb dX12_pending_10 ?_
  refine wTop (v1 := .int (-1)) (congrArg Value.int (by decide)) ?_
  have hPc := hP.sub (ws' := []) [] rfl
  have hDc := hD.sub (ws' := []) [] (by decide) rfl
  refine wGoi (wc := []) (wr := [(h0, .inr (9, [.ref h1, .ref h2, .ref h3, .ref h4, .ref h5, .ref h6, .int 0])), (h1, .inr (8, [.int 1, .int 0, .int (-1), .int 0, .int 0, .int (-1), .int 0, .int 0, .int 0, .int 0, .int 0, .ref h7, .ref h8, .ref h9, .ref h10, .ref h11, .ref h12, .ref h13, .ref h14, .ref h15, .ref h16, .ref h17, .ref h18, .ref h19, .ref h20, .ref h21, .ref h22, .ref h23, .ref h24, .ref h25, .int 0, .ref h26, .ref h27, .ref h28, .ref h29, .int 0, .int 0, .ref h30, .ref h31, .int (-1), .ref h32, .ref h33]))]) (va_runS (As := [.int p0, .int 0, .int (-1)]) (rest := []) ⟨hx, hb, hml, hown, hts⟩ (m_X12_in_19 l G K p0 _) (va_cwS 3 hts (wGS t_ (mw (.methodLink RX12 1 yX12_in) (List.mem_of_getElem? (i := 2) rfl)) (mw (.static yX12_in) (List.mem_of_getElem? (i := 3) rfl)) (mw (.initialized RX12) (List.mem_of_getElem? (i := 4) rfl)) j_X12_in_19) rfl rfl rfl (by decide +kernel) ⟨Nat.le_of_ble_eq_true rfl, Nat.le_of_ble_eq_true rfl⟩) (wPS hK hE hPc hDc) rfl rfl hl.1 rfl (lv_room (Nat.le_of_ble_eq_true rfl)) dX12_pending_11 ⟨Nat.le_of_ble_eq_true rfl, Nat.le_of_ble_eq_true rfl⟩) hP hD hS hA [] [0, 1] rfl rfl rfl (by decide) (fun r u H locs hw hP hD hS => ?_)
  rcases hw with ⟨rfl, rfl⟩
  have hP : va_P G vwCl [(h0, .inr (9, [.ref h1, .ref h2, .ref h3, .ref h4, .ref h5, .ref h6, .int 0])), (h1, .inr (8, [.int 1, .int 0, .int (-1), .int 0, .int 0, .int (-1), .int 0, .int 0, .int 0, .int 0, .int 0, .ref h7, .ref h8, .ref h9, .ref h10, .ref h11, .ref h12, .ref h13, .ref h14, .ref h15, .ref h16, .ref h17, .ref h18, .ref h19, .ref h20, .ref h21, .ref h22, .ref h23, .ref h24, .ref h25, .int 0, .ref h26, .ref h27, .ref h28, .ref h29, .int 0, .int 0, .ref h30, .ref h31, .int (-1), .ref h32, .ref h33]))] _ := hP
  have hD : va_D A [(h0, .inr (9, [.ref h1, .ref h2, .ref h3, .ref h4, .ref h5, .ref h6, .int 0])), (h1, .inr (8, [.int 1, .int 0, .int (-1), .int 0, .int 0, .int (-1), .int 0, .int 0, .int 0, .int 0, .int 0, .ref h7, .ref h8, .ref h9, .ref h10, .ref h11, .ref h12, .ref h13, .ref h14, .ref h15, .ref h16, .ref h17, .ref h18, .ref h19, .ref h20, .ref h21, .ref h22, .ref h23, .ref h24, .ref h25, .int 0, .ref h26, .ref h27, .ref h28, .ref h29, .int 0, .int 0, .ref h30, .ref h31, .int (-1), .ref h32, .ref h33]))] := hD
  refine lv_if_ne (tgt := 19) hx hb dX12_pending_14 (by decide) (fun c_ => absurd c_ (by decide)) (fun _ => ?_)
  refine lv_iconst (v := (-1)) hx hb dX12_pending_17 (by decide) ?_
  have hP9 : va_P G vwCl [(h0, .inr (9, [.ref h1, .ref h2, .ref h3, .ref h4, .ref h5, .ref h6, .int 0])), (h1, .inr (8, [.int 1, .int 0, .int (-1), .int 0, .int 0, .int (-1), .int 0, .int 0, .int 0, .int 0, .int 0, .ref h7, .ref h8, .ref h9, .ref h10, .ref h11, .ref h12, .ref h13, .ref h14, .ref h15, .ref h16, .ref h17, .ref h18, .ref h19, .ref h20, .ref h21, .ref h22, .ref h23, .ref h24, .ref h25, .int 0, .ref h26, .ref h27, .ref h28, .ref h29, .int 0, .int 0, .ref h30, .ref h31, .int (-1), .ref h32, .ref h33]))] _ := hP
  have hD9 : va_D A [(h0, .inr (9, [.ref h1, .ref h2, .ref h3, .ref h4, .ref h5, .ref h6, .int 0])), (h1, .inr (8, [.int 1, .int 0, .int (-1), .int 0, .int 0, .int (-1), .int 0, .int 0, .int 0, .int 0, .int 0, .ref h7, .ref h8, .ref h9, .ref h10, .ref h11, .ref h12, .ref h13, .ref h14, .ref h15, .ref h16, .ref h17, .ref h18, .ref h19, .ref h20, .ref h21, .ref h22, .ref h23, .ref h24, .ref h25, .int 0, .ref h26, .ref h27, .ref h28, .ref h29, .int 0, .int 0, .ref h30, .ref h31, .int (-1), .ref h32, .ref h33]))] := hD
  exact W.iret (v := (-1)) hx hb hr (fun t ht hW => ⟨⟨(-1), _, rfl, ⟨rfl, rfl⟩, by rw [ht]; exact hP9, hD9⟩, hS.F ht⟩) hS.2.2 dX12_pending_18
def e_X9_wordAt_0 : List Cond := [.fieldLink RX9 15 "MotionFloor$Text" "size" "I"]
def v_X9_wordAt_0 : List Cond := .code yX9_wordAt cX9_wordAt 2 (some .int) :: (e_X9_wordAt_0 ++ (wsX90 ++ []))
theorem te_X9_wordAt_0 : GoodIn lw_tbl e_X9_wordAt_0 := wGc z714 (wG0)
theorem t_X9_wordAt_0 : GoodIn lw_tbl v_X9_wordAt_0 := wGc z715 (wGa te_X9_wordAt_0 (wGa zcX9 (wG0)))
set_option maxHeartbeats 4000000 in
set_option maxRecDepth 100000 in
theorem m_X9_wordAt_0 (l : Launch) (G : va_G) (K : Nat → ClassId) (h0 h1 : Nat) (p0 : Int32) (sz : Nat) : Met l yX9_wordAt v_X9_wordAt_0 ({ frames := 0, cells := 0, slots := 0, locals := 0 }) (va_Pc [.ref h0, .int p0] (wS G K sz [(h0, .inr (6, [.ref h1, .int 0]))])) (va_Qi (fun (r : Int32) (u : va_W) => ((-1) = r ∧ u = [(h0, .inr (6, [.ref h1, .int 0]))])) (wB G (va_A [(h0, .inr (6, [.ref h1, .int 0]))] sz)) (va_A [(h0, .inr (6, [.ref h1, .int 0]))] sz)) 0 0 (va_A [(h0, .inr (6, [.ref h1, .int 0]))] sz) := by
  refine Met.ofW (cc := cX9_wordAt) (maxL := 2) (ret := (some .int)) (by decide) rfl ?_
  intro p e s m args below meth c s₁ B hml hv
  obtain ⟨rfl, hsz, hP, hK, hD0, hE⟩ := hv
  have hx := B.exec
  have hb := B.bytes
  have hr := B.returns
  have hts := atoms_spec (ws := v_X9_wordAt_0) B.pre
  have t_ := t_X9_wordAt_0
  have mw : ∀ w ∈ e_X9_wordAt_0, w ∈ v_X9_wordAt_0 := fun w h => List.mem_cons_of_mem _ (List.mem_append_left _ h)
  have hw := fun w (h : w ∈ e_X9_wordAt_0) => hts w (mw w h)
  have iX9 : ∀ w ∈ wsX90, w ∈ v_X9_wordAt_0 := fun w h => List.mem_cons_of_mem _ (List.mem_append_right _ (List.mem_append_left _ h))
  have hown : s.vm.findClass RX9 = some m.cls := findClass_of_methodNamed B.named
  have hlocks := B.notSynchronized
  subst hsz
  have hD := hD0.self (sz := s.heap.size)
  generalize hAe : va_A [(h0, .inr (6, [.ref h1, .int 0]))] s.heap.size = A at hD ⊢
  have hA : ∀ q : Nat, s.heap.size ≤ q → A q := fun q h => by rw [← hAe]; exact Or.inr h
  have hS : va_S A s.heap s.heap [] := va_S.rf
  have hP : va_P G vwCl [(h0, .inr (6, [.ref h1, .int 0]))] s.heap := hP
  have hl := lv_entry ([.ref h0, .int p0]) (n := 2) (Nat.le_of_ble_eq_true rfl)
  rw [lg_entry_eq]
  generalize (lg_sl ([.ref h0, .int p0]) ++ List.replicate (2 - (lg_sl ([.ref h0, .int p0])).length) Slot.unset).toArray = ls at hl ⊢
  have hl : lv_has ls 2 [(0, .ref h0), (1, .int p0)] := hl
  refine lv_iload_n hx hb dX9_wordAt_0 rfl (lv_at hl 1 rfl) ?_
  refine lv_if_lt (tgt := 21) hx hb dX9_wordAt_1 (by decide) (fun c1 => ?_) (fun c1 => ?_)
  · have c1 : p0.toInt < 0 := wLt rfl (by decide) c1
    refine lv_iconst (v := (-1)) hx hb dX9_wordAt_21 (by decide) ?_
    refine lv_goto (tgt := 31) hx hb dX9_wordAt_22 (by decide) ?_
    have hP9 : va_P G vwCl [(h0, .inr (6, [.ref h1, .int 0]))] _ := hP
    have hD9 : va_D A [(h0, .inr (6, [.ref h1, .int 0]))] := hD
    exact W.iret (v := (-1)) hx hb hr (fun t ht hW => ⟨⟨(-1), _, rfl, ⟨rfl, rfl⟩, by rw [ht]; exact hP9, hD9⟩, hS.F ht⟩) hS.2.2 dX9_wordAt_31
  · have c1 : p0.toInt ≥ 0 := wNlt rfl (by decide) c1
    refine lv_iload_n hx hb dX9_wordAt_4 rfl (lv_at hl 1 rfl) ?_
    refine lv_aload_n hx hb dX9_wordAt_5 rfl (lv_at hl 0 rfl) ?_
    refine va_get (D := G) (ci := 6) (v := .int 0) (C := RX9) (T := TX9) (N := 2) hx hb hts iX9 hown hK hP 0 rfl rfl 1 (by decide) (hw (.fieldLink RX9 15 "MotionFloor$Text" "size" "I") (List.mem_of_getElem? (i := 0) rfl)) (fun _ h9 => h9) rfl dX9_wordAt_6 ?_
    refine lv_icmp_ge (tgt := 21) hx hb dX9_wordAt_9 (by decide) (fun c2 => ?_) (fun c2 => by have c2 : 0 > p0.toInt := wNle (by decide) rfl c2; omega)
    have c2 : 0 ≤ p0.toInt := wLe (by decide) rfl c2
    refine lv_iconst (v := (-1)) hx hb dX9_wordAt_21 (by decide) ?_
    refine lv_goto (tgt := 31) hx hb dX9_wordAt_22 (by decide) ?_
    have hP9 : va_P G vwCl [(h0, .inr (6, [.ref h1, .int 0]))] _ := hP
    have hD9 : va_D A [(h0, .inr (6, [.ref h1, .int 0]))] := hD
    exact W.iret (v := (-1)) hx hb hr (fun t ht hW => ⟨⟨(-1), _, rfl, ⟨rfl, rfl⟩, by rw [ht]; exact hP9, hD9⟩, hS.F ht⟩) hS.2.2 dX9_wordAt_31
def e_X0_wordOf_0 : List Cond := [.fieldLink RX0 21 "MotionFloor$Assembly" "pending" "LMotionFloor$Pile;", .methodLink RX0 97 yX5_at, .instanceMethod yX5_at, .selects RX5 yX5_at yX5_at, .initialized RX5, .fieldLink RX0 28 "MotionFloor$Assembly" "draft" "LMotionFloor$Place;", .methodLink RX0 149 yX6_motion, .instanceMethod yX6_motion, .selects RX6 yX6_motion yX6_motion, .initialized RX6, .fieldLink RX0 51 "MotionFloor$Assembly" "adopted" "LMotionFloor$Text;", .methodLink RX0 145 yX9_wordAt, .instanceMethod yX9_wordAt, .selects RX9 yX9_wordAt yX9_wordAt, .initialized RX9]
def v_X0_wordOf_0 : List Cond := .code yX0_wordOf cX0_wordOf 4 (some .int) :: (e_X0_wordOf_0 ++ (wsX00 ++ (v_X5_at_1 ++ (v_X6_motion_0 ++ (v_X9_wordAt_0 ++ [])))))
theorem te_X0_wordOf_0 : GoodIn lw_tbl e_X0_wordOf_0 := wGc z98 (wGc z720 (wGc z313 (wGc z312 (wGc z26 (wGc z93 (wGc z719 (wGc z537 (wGc z536 (wGc z95 (wGc z80 (wGc z718 (wGc z717 (wGc z716 (wGc z82 (wG0)))))))))))))))
theorem t_X0_wordOf_0 : GoodIn lw_tbl v_X0_wordOf_0 := wGc z721 (wGa te_X0_wordOf_0 (wGa zcX0 (wGa t_X5_at_1 (wGa t_X6_motion_0 (wGa t_X9_wordAt_0 (wG0))))))
set_option maxHeartbeats 4000000 in
set_option maxRecDepth 100000 in
theorem m_X0_wordOf_0 (l : Launch) (G : va_G) (K : Nat → ClassId) (h0 h1 h2 h3 h4 h5 h6 h7 h8 h9 h10 : Nat) (p0 p1 : Int32) (sz : Nat) : Met l yX0_wordOf v_X0_wordOf_0 ({ frames := 1, cells := 0, slots := 0, locals := 21 }) (va_Pc [.ref h0, .int p0, .int p1] (wS G K sz [(h0, .inr (0, [.ref h4, .ref h1, .ref h2, .ref h5, .ref h6, .ref h7, .ref h3, .int 0, .int 0, .int 0, .null])), (h1, .inr (4, [.ref h8, .int 0])), (h2, .inr (5, [.int 0, .ref h9])), (h3, .inr (6, [.ref h10, .int 0]))])) (va_Qi (fun (r : Int32) (u : va_W) => ((-1) = r ∧ u = [(h0, .inr (0, [.ref h4, .ref h1, .ref h2, .ref h5, .ref h6, .ref h7, .ref h3, .int 0, .int 0, .int 0, .null])), (h1, .inr (4, [.ref h8, .int 0])), (h2, .inr (5, [.int 0, .ref h9])), (h3, .inr (6, [.ref h10, .int 0]))])) (wB G (va_A [(h0, .inr (0, [.ref h4, .ref h1, .ref h2, .ref h5, .ref h6, .ref h7, .ref h3, .int 0, .int 0, .int 0, .null])), (h1, .inr (4, [.ref h8, .int 0])), (h2, .inr (5, [.int 0, .ref h9])), (h3, .inr (6, [.ref h10, .int 0]))] sz)) (va_A [(h0, .inr (0, [.ref h4, .ref h1, .ref h2, .ref h5, .ref h6, .ref h7, .ref h3, .int 0, .int 0, .int 0, .null])), (h1, .inr (4, [.ref h8, .int 0])), (h2, .inr (5, [.int 0, .ref h9])), (h3, .inr (6, [.ref h10, .int 0]))] sz)) 0 0 (va_A [(h0, .inr (0, [.ref h4, .ref h1, .ref h2, .ref h5, .ref h6, .ref h7, .ref h3, .int 0, .int 0, .int 0, .null])), (h1, .inr (4, [.ref h8, .int 0])), (h2, .inr (5, [.int 0, .ref h9])), (h3, .inr (6, [.ref h10, .int 0]))] sz) := by
  refine Met.ofW (cc := cX0_wordOf) (maxL := 4) (ret := (some .int)) (by decide) rfl ?_
  intro p e s m args below meth c s₁ B hml hv
  obtain ⟨rfl, hsz, hP, hK, hD0, hE⟩ := hv
  have hx := B.exec
  have hb := B.bytes
  have hr := B.returns
  have hts := atoms_spec (ws := v_X0_wordOf_0) B.pre
  have t_ := t_X0_wordOf_0
  have mw : ∀ w ∈ e_X0_wordOf_0, w ∈ v_X0_wordOf_0 := fun w h => List.mem_cons_of_mem _ (List.mem_append_left _ h)
  have hw := fun w (h : w ∈ e_X0_wordOf_0) => hts w (mw w h)
  have iX0 : ∀ w ∈ wsX00, w ∈ v_X0_wordOf_0 := fun w h => List.mem_cons_of_mem _ (List.mem_append_right _ (List.mem_append_left _ h))
  have j_X5_at_1 : ∀ w ∈ v_X5_at_1, w ∈ v_X0_wordOf_0 := fun w h => List.mem_cons_of_mem _ (List.mem_append_right _ (List.mem_append_right _ (List.mem_append_left _ h)))
  have j_X6_motion_0 : ∀ w ∈ v_X6_motion_0, w ∈ v_X0_wordOf_0 := fun w h => List.mem_cons_of_mem _ (List.mem_append_right _ (List.mem_append_right _ (List.mem_append_right _ (List.mem_append_left _ h))))
  have j_X9_wordAt_0 : ∀ w ∈ v_X9_wordAt_0, w ∈ v_X0_wordOf_0 := fun w h => List.mem_cons_of_mem _ (List.mem_append_right _ (List.mem_append_right _ (List.mem_append_right _ (List.mem_append_right _ (List.mem_append_left _ h)))))
  have hown : s.vm.findClass RX0 = some m.cls := findClass_of_methodNamed B.named
  have hlocks := B.notSynchronized
  subst hsz
  have hD := hD0.self (sz := s.heap.size)
  generalize hAe : va_A [(h0, .inr (0, [.ref h4, .ref h1, .ref h2, .ref h5, .ref h6, .ref h7, .ref h3, .int 0, .int 0, .int 0, .null])), (h1, .inr (4, [.ref h8, .int 0])), (h2, .inr (5, [.int 0, .ref h9])), (h3, .inr (6, [.ref h10, .int 0]))] s.heap.size = A at hD ⊢
  have hA : ∀ q : Nat, s.heap.size ≤ q → A q := fun q h => by rw [← hAe]; exact Or.inr h
  have hS : va_S A s.heap s.heap [] := va_S.rf
  have hP : va_P G vwCl [(h0, .inr (0, [.ref h4, .ref h1, .ref h2, .ref h5, .ref h6, .ref h7, .ref h3, .int 0, .int 0, .int 0, .null])), (h1, .inr (4, [.ref h8, .int 0])), (h2, .inr (5, [.int 0, .ref h9])), (h3, .inr (6, [.ref h10, .int 0]))] s.heap := hP
  have hl := lv_entry ([.ref h0, .int p0, .int p1]) (n := 4) (Nat.le_of_ble_eq_true rfl)
  rw [lg_entry_eq]
  generalize (lg_sl ([.ref h0, .int p0, .int p1]) ++ List.replicate (4 - (lg_sl ([.ref h0, .int p0, .int p1])).length) Slot.unset).toArray = ls at hl ⊢
  have hl : lv_has ls 4 [(0, .ref h0), (1, .int p0), (2, .int p1)] := hl
  refine lv_iload_n hx hb dX0_wordOf_0 rfl (lv_at hl 1 rfl) ?_
  refine lv_iconst (v := (-1)) hx hb dX0_wordOf_1 (by decide) ?_
  refine lv_icmp_ne (tgt := 14) hx hb dX0_wordOf_2 (by decide) (fun c1 => ?_) (fun c1 => ?_)
  · have c1 : ¬ p0.toInt = -1 := wNe rfl (by decide) c1
    refine lv_iload_n hx hb dX0_wordOf_14 rfl (lv_at hl 1 rfl) ?_
    refine lv_bipush (v := 9) hx hb dX0_wordOf_15 (by decide) ?_
    refine lv_icmp_ne (tgt := 30) hx hb dX0_wordOf_17 (by decide) (fun c2 => ?_) (fun c2 => ?_)
    · have c2 : ¬ p0.toInt = 9 := wNe rfl (by decide) c2
      refine lv_aload_n hx hb dX0_wordOf_30 rfl (lv_at hl 0 rfl) ?_
      refine va_get (D := G) (ci := 0) (v := .ref h1) (C := RX0) (T := TX0) (N := 11) hx hb hts iX0 hown hK hP 0 rfl rfl 1 (by decide) (hw (.fieldLink RX0 21 "MotionFloor$Assembly" "pending" "LMotionFloor$Pile;") (List.mem_of_getElem? (i := 0) rfl)) (fun _ h9 => h9) rfl dX0_wordOf_31 ?_
      refine lv_iload_n hx hb dX0_wordOf_34 rfl (lv_at hl 1 rfl) ?_
      have hPc := hP.sub (ws' := [(h1, .inr (4, [.ref h8, .int 0]))]) [1] rfl
      have hDc := hD.sub (ws' := [(h1, .inr (4, [.ref h8, .int 0]))]) [1] (by decide) rfl
      refine wGoq (wc := [(h1, .inr (4, [.ref h8, .int 0]))]) (wr := [(h0, .inr (0, [.ref h4, .ref h1, .ref h2, .ref h5, .ref h6, .ref h7, .ref h3, .int 0, .int 0, .int 0, .null])), (h2, .inr (5, [.int 0, .ref h9])), (h3, .inr (6, [.ref h10, .int 0]))]) (va_runV (As := [.int p0]) (rest := []) ⟨hx, hb, hml, hown, hts⟩ (m_X5_at_1 l G K h1 h8 p0 _) (cwV 1 hts (wGV t_ (mw (.methodLink RX0 97 yX5_at) (List.mem_of_getElem? (i := 1) rfl)) (mw (.instanceMethod yX5_at) (List.mem_of_getElem? (i := 2) rfl)) (mw (.selects RX5 yX5_at yX5_at) (List.mem_of_getElem? (i := 3) rfl)) (mw (.initialized RX5) (List.mem_of_getElem? (i := 4) rfl)) j_X5_at_1) rfl rfl rfl (by decide +kernel) ⟨Nat.le_of_ble_eq_true rfl, Nat.le_of_ble_eq_true rfl⟩) (wPV hK hE hPc hDc 4 0 rfl rfl) rfl rfl hl.1 rfl (lv_room (Nat.le_of_ble_eq_true rfl)) dX0_wordOf_35 ⟨Nat.le_of_ble_eq_true rfl, Nat.le_of_ble_eq_true rfl⟩) hP hD hS hA [1] [0, 2, 3] rfl rfl rfl (by decide) (fun r u H locs hw hP hD hS => ?_)
      rcases hw with ⟨rfl, rfl⟩
      have hP : va_P G vwCl [(h0, .inr (0, [.ref h4, .ref h1, .ref h2, .ref h5, .ref h6, .ref h7, .ref h3, .int 0, .int 0, .int 0, .null])), (h2, .inr (5, [.int 0, .ref h9])), (h3, .inr (6, [.ref h10, .int 0])), (h1, .inr (4, [.ref h8, .int 0]))] _ := hP
      have hD : va_D A [(h0, .inr (0, [.ref h4, .ref h1, .ref h2, .ref h5, .ref h6, .ref h7, .ref h3, .int 0, .int 0, .int 0, .null])), (h2, .inr (5, [.int 0, .ref h9])), (h3, .inr (6, [.ref h10, .int 0])), (h1, .inr (4, [.ref h8, .int 0]))] := hD
      refine wTop (v1 := .null) rfl ?_
      refine lv_astore_nN (lv' := [(3, .null), (0, .ref h0), (1, .int p0), (2, .int p1)]) hx hb dX0_wordOf_38 rfl hl (by decide) rfl (fun ls hl => ?_)
      refine lv_aload_nN hx hb dX0_wordOf_39 rfl (lv_at hl 0 rfl) ?_
      refine lv_ifnonnullN hx hb dX0_wordOf_40 ?_
      refine lv_iconst (v := (-1)) hx hb dX0_wordOf_43 (by decide) ?_
      refine lv_goto (tgt := 55) hx hb dX0_wordOf_44 (by decide) ?_
      have hP9 := hP.sub (ws' := [(h0, .inr (0, [.ref h4, .ref h1, .ref h2, .ref h5, .ref h6, .ref h7, .ref h3, .int 0, .int 0, .int 0, .null])), (h1, .inr (4, [.ref h8, .int 0])), (h2, .inr (5, [.int 0, .ref h9])), (h3, .inr (6, [.ref h10, .int 0]))]) [0, 3, 1, 2] rfl
      have hD9 := hD.sub (ws' := [(h0, .inr (0, [.ref h4, .ref h1, .ref h2, .ref h5, .ref h6, .ref h7, .ref h3, .int 0, .int 0, .int 0, .null])), (h1, .inr (4, [.ref h8, .int 0])), (h2, .inr (5, [.int 0, .ref h9])), (h3, .inr (6, [.ref h10, .int 0]))]) [0, 3, 1, 2] (by decide) rfl
      exact W.iret (v := (-1)) hx hb hr (fun t ht hW => ⟨⟨(-1), _, rfl, ⟨rfl, rfl⟩, by rw [ht]; exact hP9, hD9⟩, hS.F ht⟩) hS.2.2 dX0_wordOf_55
    · have c2 : p0.toInt = 9 := wEq rfl (by decide) c2
      obtain rfl : p0 = 9 := wIs (b := 9) (by decide) (by omega)
      have z_0 : (9 : Int32).toInt = 9 := by decide
      refine lv_aload_n hx hb dX0_wordOf_20 rfl (lv_at hl 0 rfl) ?_
      refine va_get (D := G) (ci := 0) (v := .ref h2) (C := RX0) (T := TX0) (N := 11) hx hb hts iX0 hown hK hP 0 rfl rfl 2 (by decide) (hw (.fieldLink RX0 28 "MotionFloor$Assembly" "draft" "LMotionFloor$Place;") (List.mem_of_getElem? (i := 5) rfl)) (fun _ h9 => h9) rfl dX0_wordOf_21 ?_
      have hPc := hP.sub (ws' := [(h2, .inr (5, [.int 0, .ref h9]))]) [2] rfl
      have hDc := hD.sub (ws' := [(h2, .inr (5, [.int 0, .ref h9]))]) [2] (by decide) rfl
      refine wGoq (wc := [(h2, .inr (5, [.int 0, .ref h9]))]) (wr := [(h0, .inr (0, [.ref h4, .ref h1, .ref h2, .ref h5, .ref h6, .ref h7, .ref h3, .int 0, .int 0, .int 0, .null])), (h1, .inr (4, [.ref h8, .int 0])), (h3, .inr (6, [.ref h10, .int 0]))]) (va_runV (As := []) (rest := []) ⟨hx, hb, hml, hown, hts⟩ (m_X6_motion_0 l G K h2 h9 _) (cwV 0 hts (wGV t_ (mw (.methodLink RX0 149 yX6_motion) (List.mem_of_getElem? (i := 6) rfl)) (mw (.instanceMethod yX6_motion) (List.mem_of_getElem? (i := 7) rfl)) (mw (.selects RX6 yX6_motion yX6_motion) (List.mem_of_getElem? (i := 8) rfl)) (mw (.initialized RX6) (List.mem_of_getElem? (i := 9) rfl)) j_X6_motion_0) rfl rfl rfl (by decide +kernel) ⟨Nat.le_of_ble_eq_true rfl, Nat.le_of_ble_eq_true rfl⟩) (wPV hK hE hPc hDc 5 0 rfl rfl) rfl rfl hl.1 rfl (lv_room (Nat.le_of_ble_eq_true rfl)) dX0_wordOf_24 ⟨Nat.le_of_ble_eq_true rfl, Nat.le_of_ble_eq_true rfl⟩) hP hD hS hA [2] [0, 1, 3] rfl rfl rfl (by decide) (fun r u H locs hw hP hD hS => ?_)
      rcases hw with ⟨rfl, rfl⟩
      have hP : va_P G vwCl [(h0, .inr (0, [.ref h4, .ref h1, .ref h2, .ref h5, .ref h6, .ref h7, .ref h3, .int 0, .int 0, .int 0, .null])), (h1, .inr (4, [.ref h8, .int 0])), (h3, .inr (6, [.ref h10, .int 0])), (h2, .inr (5, [.int 0, .ref h9]))] _ := hP
      have hD : va_D A [(h0, .inr (0, [.ref h4, .ref h1, .ref h2, .ref h5, .ref h6, .ref h7, .ref h3, .int 0, .int 0, .int 0, .null])), (h1, .inr (4, [.ref h8, .int 0])), (h3, .inr (6, [.ref h10, .int 0])), (h2, .inr (5, [.int 0, .ref h9]))] := hD
      refine wTop (v1 := .null) rfl ?_
      refine lv_goto (tgt := 38) hx hb dX0_wordOf_27 (by decide) ?_
      refine lv_astore_nN (lv' := [(3, .null), (0, .ref h0), (1, .int 9), (2, .int p1)]) hx hb dX0_wordOf_38 rfl hl (by decide) rfl (fun ls hl => ?_)
      refine lv_aload_nN hx hb dX0_wordOf_39 rfl (lv_at hl 0 rfl) ?_
      refine lv_ifnonnullN hx hb dX0_wordOf_40 ?_
      refine lv_iconst (v := (-1)) hx hb dX0_wordOf_43 (by decide) ?_
      refine lv_goto (tgt := 55) hx hb dX0_wordOf_44 (by decide) ?_
      have hP9 := hP.sub (ws' := [(h0, .inr (0, [.ref h4, .ref h1, .ref h2, .ref h5, .ref h6, .ref h7, .ref h3, .int 0, .int 0, .int 0, .null])), (h1, .inr (4, [.ref h8, .int 0])), (h2, .inr (5, [.int 0, .ref h9])), (h3, .inr (6, [.ref h10, .int 0]))]) [0, 1, 3, 2] rfl
      have hD9 := hD.sub (ws' := [(h0, .inr (0, [.ref h4, .ref h1, .ref h2, .ref h5, .ref h6, .ref h7, .ref h3, .int 0, .int 0, .int 0, .null])), (h1, .inr (4, [.ref h8, .int 0])), (h2, .inr (5, [.int 0, .ref h9])), (h3, .inr (6, [.ref h10, .int 0]))]) [0, 1, 3, 2] (by decide) rfl
      exact W.iret (v := (-1)) hx hb hr (fun t ht hW => ⟨⟨(-1), _, rfl, ⟨rfl, rfl⟩, by rw [ht]; exact hP9, hD9⟩, hS.F ht⟩) hS.2.2 dX0_wordOf_55
  · have c1 : p0.toInt = -1 := wEq rfl (by decide) c1
    obtain rfl : p0 = (-1) := wIs (b := -1) (by decide) (by omega)
    have z_1 : ((-1) : Int32).toInt = -1 := by decide
    refine lv_aload_n hx hb dX0_wordOf_5 rfl (lv_at hl 0 rfl) ?_
    refine va_get (D := G) (ci := 0) (v := .ref h3) (C := RX0) (T := TX0) (N := 11) hx hb hts iX0 hown hK hP 0 rfl rfl 6 (by decide) (hw (.fieldLink RX0 51 "MotionFloor$Assembly" "adopted" "LMotionFloor$Text;") (List.mem_of_getElem? (i := 10) rfl)) (fun _ h9 => h9) rfl dX0_wordOf_6 ?_
    refine lv_iload_n hx hb dX0_wordOf_9 rfl (lv_at hl 2 rfl) ?_
    have hPc := hP.sub (ws' := [(h3, .inr (6, [.ref h10, .int 0]))]) [3] rfl
    have hDc := hD.sub (ws' := [(h3, .inr (6, [.ref h10, .int 0]))]) [3] (by decide) rfl
    refine wGoi (wc := [(h3, .inr (6, [.ref h10, .int 0]))]) (wr := [(h0, .inr (0, [.ref h4, .ref h1, .ref h2, .ref h5, .ref h6, .ref h7, .ref h3, .int 0, .int 0, .int 0, .null])), (h1, .inr (4, [.ref h8, .int 0])), (h2, .inr (5, [.int 0, .ref h9]))]) (va_runV (As := [.int p1]) (rest := []) ⟨hx, hb, hml, hown, hts⟩ (m_X9_wordAt_0 l G K h3 h10 p1 _) (cwV 1 hts (wGV t_ (mw (.methodLink RX0 145 yX9_wordAt) (List.mem_of_getElem? (i := 11) rfl)) (mw (.instanceMethod yX9_wordAt) (List.mem_of_getElem? (i := 12) rfl)) (mw (.selects RX9 yX9_wordAt yX9_wordAt) (List.mem_of_getElem? (i := 13) rfl)) (mw (.initialized RX9) (List.mem_of_getElem? (i := 14) rfl)) j_X9_wordAt_0) rfl rfl rfl (by decide +kernel) ⟨Nat.le_of_ble_eq_true rfl, Nat.le_of_ble_eq_true rfl⟩) (wPV hK hE hPc hDc 6 0 rfl rfl) rfl rfl hl.1 rfl (lv_room (Nat.le_of_ble_eq_true rfl)) dX0_wordOf_10 ⟨Nat.le_of_ble_eq_true rfl, Nat.le_of_ble_eq_true rfl⟩) hP hD hS hA [3] [0, 1, 2] rfl rfl rfl (by decide) (fun r u H locs hw hP hD hS => ?_)
    rcases hw with ⟨rfl, rfl⟩
    have hP : va_P G vwCl [(h0, .inr (0, [.ref h4, .ref h1, .ref h2, .ref h5, .ref h6, .ref h7, .ref h3, .int 0, .int 0, .int 0, .null])), (h1, .inr (4, [.ref h8, .int 0])), (h2, .inr (5, [.int 0, .ref h9])), (h3, .inr (6, [.ref h10, .int 0]))] _ := hP
    have hD : va_D A [(h0, .inr (0, [.ref h4, .ref h1, .ref h2, .ref h5, .ref h6, .ref h7, .ref h3, .int 0, .int 0, .int 0, .null])), (h1, .inr (4, [.ref h8, .int 0])), (h2, .inr (5, [.int 0, .ref h9])), (h3, .inr (6, [.ref h10, .int 0]))] := hD
    have hP9 : va_P G vwCl [(h0, .inr (0, [.ref h4, .ref h1, .ref h2, .ref h5, .ref h6, .ref h7, .ref h3, .int 0, .int 0, .int 0, .null])), (h1, .inr (4, [.ref h8, .int 0])), (h2, .inr (5, [.int 0, .ref h9])), (h3, .inr (6, [.ref h10, .int 0]))] _ := hP
    have hD9 : va_D A [(h0, .inr (0, [.ref h4, .ref h1, .ref h2, .ref h5, .ref h6, .ref h7, .ref h3, .int 0, .int 0, .int 0, .null])), (h1, .inr (4, [.ref h8, .int 0])), (h2, .inr (5, [.int 0, .ref h9])), (h3, .inr (6, [.ref h10, .int 0]))] := hD
    exact W.iret (v := (-1)) hx hb hr (fun t ht hW => ⟨⟨(-1), _, rfl, ⟨rfl, rfl⟩, by rw [ht]; exact hP9, hD9⟩, hS.F ht⟩) hS.2.2 dX0_wordOf_13
def e_X10_text_0 : List Cond := [.fieldLink RX10 10 "MotionFloor" "now" "LMotionFloor$Assembly;", .methodLink RX10 62 yX0_wordOf, .instanceMethod yX0_wordOf, .selects RX0 yX0_wordOf yX0_wordOf, .initialized RX0]
def v_X10_text_0 : List Cond := .code yX10_text cX10_text 3 (some .int) :: (e_X10_text_0 ++ (wsX100 ++ (v_X0_wordOf_0 ++ [])))
theorem te_X10_text_0 : GoodIn lw_tbl e_X10_text_0 := wGc z115 (wGc z724 (wGc z723 (wGc z722 (wGc z118 (wG0)))))
theorem t_X10_text_0 : GoodIn lw_tbl v_X10_text_0 := wGc z725 (wGa te_X10_text_0 (wGa zcX10 (wGa t_X0_wordOf_0 (wG0))))
set_option maxHeartbeats 4000000 in
set_option maxRecDepth 100000 in
theorem m_X10_text_0 (l : Launch) (G : va_G) (K : Nat → ClassId) (h0 h1 h2 h3 h4 h5 h6 h7 h8 h9 h10 h11 h12 h13 : Nat) (p0 p1 : Int32) (sz : Nat) : Met l yX10_text v_X10_text_0 ({ frames := 2, cells := 0, slots := 0, locals := 44 }) (va_Pc [.ref h0, .int p0, .int p1] (wS G K sz [(h0, .inr (7, [.ref h1, .ref h5, .null, .null, .ref h6])), (h1, .inr (0, [.ref h7, .ref h2, .ref h3, .ref h8, .ref h9, .ref h10, .ref h4, .int 0, .int 0, .int 0, .null])), (h2, .inr (4, [.ref h11, .int 0])), (h3, .inr (5, [.int 0, .ref h12])), (h4, .inr (6, [.ref h13, .int 0]))])) (va_Qi (fun (r : Int32) (u : va_W) => ((-1) = r ∧ u = [(h0, .inr (7, [.ref h1, .ref h5, .null, .null, .ref h6])), (h1, .inr (0, [.ref h7, .ref h2, .ref h3, .ref h8, .ref h9, .ref h10, .ref h4, .int 0, .int 0, .int 0, .null])), (h2, .inr (4, [.ref h11, .int 0])), (h3, .inr (5, [.int 0, .ref h12])), (h4, .inr (6, [.ref h13, .int 0]))])) (wB G (va_A [(h0, .inr (7, [.ref h1, .ref h5, .null, .null, .ref h6])), (h1, .inr (0, [.ref h7, .ref h2, .ref h3, .ref h8, .ref h9, .ref h10, .ref h4, .int 0, .int 0, .int 0, .null])), (h2, .inr (4, [.ref h11, .int 0])), (h3, .inr (5, [.int 0, .ref h12])), (h4, .inr (6, [.ref h13, .int 0]))] sz)) (va_A [(h0, .inr (7, [.ref h1, .ref h5, .null, .null, .ref h6])), (h1, .inr (0, [.ref h7, .ref h2, .ref h3, .ref h8, .ref h9, .ref h10, .ref h4, .int 0, .int 0, .int 0, .null])), (h2, .inr (4, [.ref h11, .int 0])), (h3, .inr (5, [.int 0, .ref h12])), (h4, .inr (6, [.ref h13, .int 0]))] sz)) 0 0 (va_A [(h0, .inr (7, [.ref h1, .ref h5, .null, .null, .ref h6])), (h1, .inr (0, [.ref h7, .ref h2, .ref h3, .ref h8, .ref h9, .ref h10, .ref h4, .int 0, .int 0, .int 0, .null])), (h2, .inr (4, [.ref h11, .int 0])), (h3, .inr (5, [.int 0, .ref h12])), (h4, .inr (6, [.ref h13, .int 0]))] sz) := by
  refine Met.ofW (cc := cX10_text) (maxL := 3) (ret := (some .int)) (by decide) rfl ?_
  intro p e s m args below meth c s₁ B hml hv
  obtain ⟨rfl, hsz, hP, hK, hD0, hE⟩ := hv
  have hx := B.exec
  have hb := B.bytes
  have hr := B.returns
  have hts := atoms_spec (ws := v_X10_text_0) B.pre
  have t_ := t_X10_text_0
  have mw : ∀ w ∈ e_X10_text_0, w ∈ v_X10_text_0 := fun w h => List.mem_cons_of_mem _ (List.mem_append_left _ h)
  have hw := fun w (h : w ∈ e_X10_text_0) => hts w (mw w h)
  have iX10 : ∀ w ∈ wsX100, w ∈ v_X10_text_0 := fun w h => List.mem_cons_of_mem _ (List.mem_append_right _ (List.mem_append_left _ h))
  have j_X0_wordOf_0 : ∀ w ∈ v_X0_wordOf_0, w ∈ v_X10_text_0 := fun w h => List.mem_cons_of_mem _ (List.mem_append_right _ (List.mem_append_right _ (List.mem_append_left _ h)))
  have hown : s.vm.findClass RX10 = some m.cls := findClass_of_methodNamed B.named
  have hlocks := B.notSynchronized
  subst hsz
  have hD := hD0.self (sz := s.heap.size)
  generalize hAe : va_A [(h0, .inr (7, [.ref h1, .ref h5, .null, .null, .ref h6])), (h1, .inr (0, [.ref h7, .ref h2, .ref h3, .ref h8, .ref h9, .ref h10, .ref h4, .int 0, .int 0, .int 0, .null])), (h2, .inr (4, [.ref h11, .int 0])), (h3, .inr (5, [.int 0, .ref h12])), (h4, .inr (6, [.ref h13, .int 0]))] s.heap.size = A at hD ⊢
  have hA : ∀ q : Nat, s.heap.size ≤ q → A q := fun q h => by rw [← hAe]; exact Or.inr h
  have hS : va_S A s.heap s.heap [] := va_S.rf
  have hP : va_P G vwCl [(h0, .inr (7, [.ref h1, .ref h5, .null, .null, .ref h6])), (h1, .inr (0, [.ref h7, .ref h2, .ref h3, .ref h8, .ref h9, .ref h10, .ref h4, .int 0, .int 0, .int 0, .null])), (h2, .inr (4, [.ref h11, .int 0])), (h3, .inr (5, [.int 0, .ref h12])), (h4, .inr (6, [.ref h13, .int 0]))] s.heap := hP
  have hl := lv_entry ([.ref h0, .int p0, .int p1]) (n := 3) (Nat.le_of_ble_eq_true rfl)
  rw [lg_entry_eq]
  generalize (lg_sl ([.ref h0, .int p0, .int p1]) ++ List.replicate (3 - (lg_sl ([.ref h0, .int p0, .int p1])).length) Slot.unset).toArray = ls at hl ⊢
  have hl : lv_has ls 3 [(0, .ref h0), (1, .int p0), (2, .int p1)] := hl
  refine lv_aload_n hx hb dX10_text_0 rfl (lv_at hl 0 rfl) ?_
  refine va_get (D := G) (ci := 7) (v := .ref h1) (C := RX10) (T := TX10) (N := 5) hx hb hts iX10 hown hK hP 0 rfl rfl 0 (by decide) (hw (.fieldLink RX10 10 "MotionFloor" "now" "LMotionFloor$Assembly;") (List.mem_of_getElem? (i := 0) rfl)) (fun _ h9 => h9) rfl dX10_text_1 ?_
  refine lv_iload_n hx hb dX10_text_4 rfl (lv_at hl 1 rfl) ?_
  refine lv_iload_n hx hb dX10_text_5 rfl (lv_at hl 2 rfl) ?_
  have hPc := hP.sub (ws' := [(h1, .inr (0, [.ref h7, .ref h2, .ref h3, .ref h8, .ref h9, .ref h10, .ref h4, .int 0, .int 0, .int 0, .null])), (h2, .inr (4, [.ref h11, .int 0])), (h3, .inr (5, [.int 0, .ref h12])), (h4, .inr (6, [.ref h13, .int 0]))]) [1, 2, 3, 4] rfl
  have hDc := hD.sub (ws' := [(h1, .inr (0, [.ref h7, .ref h2, .ref h3, .ref h8, .ref h9, .ref h10, .ref h4, .int 0, .int 0, .int 0, .null])), (h2, .inr (4, [.ref h11, .int 0])), (h3, .inr (5, [.int 0, .ref h12])), (h4, .inr (6, [.ref h13, .int 0]))]) [1, 2, 3, 4] (by decide) rfl
  refine wGoi (wc := [(h1, .inr (0, [.ref h7, .ref h2, .ref h3, .ref h8, .ref h9, .ref h10, .ref h4, .int 0, .int 0, .int 0, .null])), (h2, .inr (4, [.ref h11, .int 0])), (h3, .inr (5, [.int 0, .ref h12])), (h4, .inr (6, [.ref h13, .int 0]))]) (wr := [(h0, .inr (7, [.ref h1, .ref h5, .null, .null, .ref h6]))]) (va_runV (As := [.int p0, .int p1]) (rest := []) ⟨hx, hb, hml, hown, hts⟩ (m_X0_wordOf_0 l G K h1 h2 h3 h4 h7 h8 h9 h10 h11 h12 h13 p0 p1 _) (cwV 2 hts (wGV t_ (mw (.methodLink RX10 62 yX0_wordOf) (List.mem_of_getElem? (i := 1) rfl)) (mw (.instanceMethod yX0_wordOf) (List.mem_of_getElem? (i := 2) rfl)) (mw (.selects RX0 yX0_wordOf yX0_wordOf) (List.mem_of_getElem? (i := 3) rfl)) (mw (.initialized RX0) (List.mem_of_getElem? (i := 4) rfl)) j_X0_wordOf_0) rfl rfl rfl (by decide +kernel) ⟨Nat.le_of_ble_eq_true rfl, Nat.le_of_ble_eq_true rfl⟩) (wPV hK hE hPc hDc 0 0 rfl rfl) rfl rfl hl.1 rfl (lv_room (Nat.le_of_ble_eq_true rfl)) dX10_text_6 ⟨Nat.le_of_ble_eq_true rfl, Nat.le_of_ble_eq_true rfl⟩) hP hD hS hA [1, 2, 3, 4] [0] rfl rfl rfl (by decide) (fun r u H locs hw hP hD hS => ?_)
  rcases hw with ⟨rfl, rfl⟩
  have hP : va_P G vwCl [(h0, .inr (7, [.ref h1, .ref h5, .null, .null, .ref h6])), (h1, .inr (0, [.ref h7, .ref h2, .ref h3, .ref h8, .ref h9, .ref h10, .ref h4, .int 0, .int 0, .int 0, .null])), (h2, .inr (4, [.ref h11, .int 0])), (h3, .inr (5, [.int 0, .ref h12])), (h4, .inr (6, [.ref h13, .int 0]))] _ := hP
  have hD : va_D A [(h0, .inr (7, [.ref h1, .ref h5, .null, .null, .ref h6])), (h1, .inr (0, [.ref h7, .ref h2, .ref h3, .ref h8, .ref h9, .ref h10, .ref h4, .int 0, .int 0, .int 0, .null])), (h2, .inr (4, [.ref h11, .int 0])), (h3, .inr (5, [.int 0, .ref h12])), (h4, .inr (6, [.ref h13, .int 0]))] := hD
  have hP9 : va_P G vwCl [(h0, .inr (7, [.ref h1, .ref h5, .null, .null, .ref h6])), (h1, .inr (0, [.ref h7, .ref h2, .ref h3, .ref h8, .ref h9, .ref h10, .ref h4, .int 0, .int 0, .int 0, .null])), (h2, .inr (4, [.ref h11, .int 0])), (h3, .inr (5, [.int 0, .ref h12])), (h4, .inr (6, [.ref h13, .int 0]))] _ := hP
  have hD9 : va_D A [(h0, .inr (7, [.ref h1, .ref h5, .null, .null, .ref h6])), (h1, .inr (0, [.ref h7, .ref h2, .ref h3, .ref h8, .ref h9, .ref h10, .ref h4, .int 0, .int 0, .int 0, .null])), (h2, .inr (4, [.ref h11, .int 0])), (h3, .inr (5, [.int 0, .ref h12])), (h4, .inr (6, [.ref h13, .int 0]))] := hD
  exact W.iret (v := (-1)) hx hb hr (fun t ht hW => ⟨⟨(-1), _, rfl, ⟨rfl, rfl⟩, by rw [ht]; exact hP9, hD9⟩, hS.F ht⟩) hS.2.2 dX10_text_9
def e_X12_in_20 : List Cond := []
def v_X12_in_20 : List Cond := .code yX12_in cX12_in 3 (some .boolean) :: (e_X12_in_20 ++ [])
theorem te_X12_in_20 : GoodIn lw_tbl e_X12_in_20 := wG0
theorem t_X12_in_20 : GoodIn lw_tbl v_X12_in_20 := wGc z276 (wGa te_X12_in_20 (wG0))
set_option maxHeartbeats 4000000 in
set_option maxRecDepth 100000 in
theorem m_X12_in_20 (l : Launch) (G : va_G) (K : Nat → ClassId) (p0 : Int32) (sz : Nat) : Met l yX12_in v_X12_in_20 ({ frames := 0, cells := 0, slots := 0, locals := 0 }) (va_Pc [.int p0, .int 0, .int (-2)] (wS G K sz [])) (va_Qi (fun (r : Int32) (u : va_W) => (0 = r ∧ u = [])) (wB G (va_A [] sz)) (va_A [] sz)) 0 0 (va_A [] sz) := by
  refine Met.ofW (cc := cX12_in) (maxL := 3) (ret := (some .boolean)) (by decide) rfl ?_
  intro p e s m args below meth c s₁ B hml hv
  obtain ⟨rfl, hsz, hP, hK, hD0, hE⟩ := hv
  have hx := B.exec
  have hb := B.bytes
  have hr := B.returns
  have hts := atoms_spec (ws := v_X12_in_20) B.pre
  have t_ := t_X12_in_20
  have mw : ∀ w ∈ e_X12_in_20, w ∈ v_X12_in_20 := fun w h => List.mem_cons_of_mem _ (List.mem_append_left _ h)
  have hw := fun w (h : w ∈ e_X12_in_20) => hts w (mw w h)
  have hown : s.vm.findClass RX12 = some m.cls := findClass_of_methodNamed B.named
  have hlocks := B.notSynchronized
  subst hsz
  have hD := hD0.self (sz := s.heap.size)
  generalize hAe : va_A [] s.heap.size = A at hD ⊢
  have hA : ∀ q : Nat, s.heap.size ≤ q → A q := fun q h => by rw [← hAe]; exact Or.inr h
  have hS : va_S A s.heap s.heap [] := va_S.rf
  have hP : va_P G vwCl [] s.heap := hP
  have hl := lv_entry ([.int p0, .int 0, .int (-2)]) (n := 3) (Nat.le_of_ble_eq_true rfl)
  rw [lg_entry_eq]
  generalize (lg_sl ([.int p0, .int 0, .int (-2)]) ++ List.replicate (3 - (lg_sl ([.int p0, .int 0, .int (-2)])).length) Slot.unset).toArray = ls at hl ⊢
  have hl : lv_has ls 3 [(0, .int p0), (1, .int 0), (2, .int (-2))] := hl
  refine lv_iload_n hx hb dX12_in_0 rfl (lv_at hl 0 rfl) ?_
  refine lv_iload_n hx hb dX12_in_1 rfl (lv_at hl 1 rfl) ?_
  refine lv_icmp_lt (tgt := 14) hx hb dX12_in_2 (by decide) (fun c1 => ?_) (fun c1 => ?_)
  · have c1 : p0.toInt < 0 := wLt rfl (by decide) c1
    refine lv_iconst (v := 0) hx hb dX12_in_14 (by decide) ?_
    have hP9 : va_P G vwCl [] _ := hP
    have hD9 : va_D A [] := hD
    exact W.zret (v := 0) (ty := .boolean) hx hb hr rfl (fun t ht hW => ⟨⟨0, _, rfl, ⟨rfl, rfl⟩, by rw [ht]; exact hP9, hD9⟩, hS.F ht⟩) hS.2.2 dX12_in_15
  · have c1 : p0.toInt ≥ 0 := wNlt rfl (by decide) c1
    refine lv_iload_n hx hb dX12_in_5 rfl (lv_at hl 0 rfl) ?_
    refine lv_iload_n hx hb dX12_in_6 rfl (lv_at hl 2 rfl) ?_
    refine lv_icmp_gt (tgt := 14) hx hb dX12_in_7 (by decide) (fun c2 => ?_) (fun c2 => by have c2 : -2 ≥ p0.toInt := wNlt (by decide) rfl c2; omega)
    have c2 : -2 < p0.toInt := wLt (by decide) rfl c2
    refine lv_iconst (v := 0) hx hb dX12_in_14 (by decide) ?_
    have hP9 : va_P G vwCl [] _ := hP
    have hD9 : va_D A [] := hD
    exact W.zret (v := 0) (ty := .boolean) hx hb hr rfl (fun t ht hW => ⟨⟨0, _, rfl, ⟨rfl, rfl⟩, by rw [ht]; exact hP9, hD9⟩, hS.F ht⟩) hS.2.2 dX12_in_15
