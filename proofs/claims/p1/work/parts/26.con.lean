def e_X12_strike_0 : List Cond := [.fieldLink RX12 161 "MotionFloorModel" "tolds" "I"]
def v_X12_strike_0 : List Cond := .code yX12_strike cX12_strike 2 (some .int) :: (e_X12_strike_0 ++ (wsX120 ++ []))
theorem te_X12_strike_0 : GoodIn lw_tbl e_X12_strike_0 := wGc z669 (wG0)
theorem t_X12_strike_0 : GoodIn lw_tbl v_X12_strike_0 := wGc z693 (wGa te_X12_strike_0 (wGa zcX12 (wG0)))
set_option maxHeartbeats 4000000 in
set_option maxRecDepth 100000 in
theorem m_X12_strike_0 (l : Launch) (G : va_G) (K : Nat → ClassId) (h0 h1 h2 h3 h4 h5 h6 : Nat) (sz : Nat) : Met l yX12_strike v_X12_strike_0 ({ frames := 0, cells := 0, slots := 0, locals := 0 }) (va_Pc [.ref h0] (wS G K sz [(h0, .inr (9, [.ref h1, .ref h2, .ref h3, .ref h4, .ref h5, .ref h6, .int 0]))])) (va_Qi (fun (r : Int32) (u : va_W) => (r = 0 ∧ u = [(h0, .inr (9, [.ref h1, .ref h2, .ref h3, .ref h4, .ref h5, .ref h6, .int 0]))])) (wB G (va_A [(h0, .inr (9, [.ref h1, .ref h2, .ref h3, .ref h4, .ref h5, .ref h6, .int 0]))] sz)) (va_A [(h0, .inr (9, [.ref h1, .ref h2, .ref h3, .ref h4, .ref h5, .ref h6, .int 0]))] sz)) 0 0 (va_A [(h0, .inr (9, [.ref h1, .ref h2, .ref h3, .ref h4, .ref h5, .ref h6, .int 0]))] sz) := by
  refine Met.ofW (cc := cX12_strike) (maxL := 2) (ret := (some .int)) (by decide) rfl ?_
  intro p e s m args below meth c s₁ B hml hv
  obtain ⟨rfl, hsz, hP, hK, hD0, hE⟩ := hv
  have hx := B.exec
  have hb := B.bytes
  have hr := B.returns
  have hts := atoms_spec (ws := v_X12_strike_0) B.pre
  have t_ := t_X12_strike_0
  have mw : ∀ w ∈ e_X12_strike_0, w ∈ v_X12_strike_0 := fun w h => List.mem_cons_of_mem _ (List.mem_append_left _ h)
  have hw := fun w (h : w ∈ e_X12_strike_0) => hts w (mw w h)
  have iX12 : ∀ w ∈ wsX120, w ∈ v_X12_strike_0 := fun w h => List.mem_cons_of_mem _ (List.mem_append_right _ (List.mem_append_left _ h))
  have hown : s.vm.findClass RX12 = some m.cls := findClass_of_methodNamed B.named
  have hlocks := B.notSynchronized
  subst hsz
  have hD := hD0.self (sz := s.heap.size)
  generalize hAe : va_A [(h0, .inr (9, [.ref h1, .ref h2, .ref h3, .ref h4, .ref h5, .ref h6, .int 0]))] s.heap.size = A at hD ⊢
  have hA : ∀ q : Nat, s.heap.size ≤ q → A q := fun q h => by rw [← hAe]; exact Or.inr h
  have hS : va_S A s.heap s.heap [] := va_S.rf
  have hP : va_P G vwCl [(h0, .inr (9, [.ref h1, .ref h2, .ref h3, .ref h4, .ref h5, .ref h6, .int 0]))] s.heap := hP
  have hl := lv_entry ([.ref h0]) (n := 2) (Nat.le_of_ble_eq_true rfl)
  rw [lg_entry_eq]
  generalize (lg_sl ([.ref h0]) ++ List.replicate (2 - (lg_sl ([.ref h0])).length) Slot.unset).toArray = ls at hl ⊢
  have hl : lv_has ls 2 [(0, .ref h0)] := hl
  refine lv_aload_n hx hb dX12_strike_0 rfl (lv_at hl 0 rfl) ?_
  refine va_get (D := G) (ci := 9) (v := .int 0) (C := RX12) (T := TX12) (N := 7) hx hb hts iX12 hown hK hP 0 rfl rfl 6 (by decide) (hw (.fieldLink RX12 161 "MotionFloorModel" "tolds" "I") (List.mem_of_getElem? (i := 0) rfl)) (fun _ h9 => h9) rfl dX12_strike_1 ?_
  refine lv_istore_n (lv' := [(1, .int 0), (0, .ref h0)]) hx hb dX12_strike_4 rfl hl (by decide) rfl (fun ls hl => ?_)
  refine lv_aload_n hx hb dX12_strike_5 rfl (lv_at hl 1 rfl) ?_
  refine lv_iconst (v := 0) hx hb dX12_strike_6 (by decide) ?_
  refine va_put (D := G) (ci := 9) (v := .int 0) (ty := .int) (C := RX12) (T := TX12) (N := 7) hx hb hts iX12 tyX12 tyX12_ok nmX12 hown hK hP hD hS 0 rfl rfl 6 (by decide) (hw (.fieldLink RX12 161 "MotionFloorModel" "tolds" "I") (List.mem_of_getElem? (i := 0) rfl)) (fun _ h9 => h9) rfl (by decide +kernel) rfl rfl (Nat.le_of_ble_eq_true rfl) dX12_strike_7 (fun H locs hP hD hS => ?_)
  have hP : va_P G vwCl [(h0, .inr (9, [.ref h1, .ref h2, .ref h3, .ref h4, .ref h5, .ref h6, .int 0]))] _ := hP
  have hD : va_D A [(h0, .inr (9, [.ref h1, .ref h2, .ref h3, .ref h4, .ref h5, .ref h6, .int 0]))] := hD
  refine lv_iload_n hx hb dX12_strike_10 rfl (lv_at hl 0 rfl) ?_
  have hP9 : va_P G vwCl [(h0, .inr (9, [.ref h1, .ref h2, .ref h3, .ref h4, .ref h5, .ref h6, .int 0]))] _ := hP
  have hD9 : va_D A [(h0, .inr (9, [.ref h1, .ref h2, .ref h3, .ref h4, .ref h5, .ref h6, .int 0]))] := hD
  exact W.iret (v := 0) hx hb hr (fun t ht hW => ⟨⟨0, _, rfl, ⟨rfl, rfl⟩, by rw [ht]; exact hP9, hD9⟩, hS.F ht⟩) hS.2.2 dX12_strike_11
def e_X12_in_15 : List Cond := []
def v_X12_in_15 : List Cond := .code yX12_in cX12_in 3 (some .boolean) :: (e_X12_in_15 ++ [])
theorem te_X12_in_15 : GoodIn lw_tbl e_X12_in_15 := wG0
theorem t_X12_in_15 : GoodIn lw_tbl v_X12_in_15 := wGc z573 (wGa te_X12_in_15 (wG0))
set_option maxHeartbeats 4000000 in
set_option maxRecDepth 100000 in
theorem m_X12_in_15 (l : Launch) (G : va_G) (K : Nat → ClassId) (p0 : Int32) (sz : Nat) : Met l yX12_in v_X12_in_15 ({ frames := 0, cells := 0, slots := 0, locals := 0 }) (va_Pc [.int p0, .int 0, .int 1] (wS G K sz [])) (va_Qi (fun (r : Int32) (u : va_W) => ((p0.toInt < 0 ∨ (p0.toInt ≥ 0 ∧ p0.toInt > 1)) ∧ r = 0 ∧ u = []) ∨ (((p0.toInt ≥ 0 ∧ p0.toInt ≤ 1)) ∧ r = 1 ∧ u = [])) (wB G (va_A [] sz)) (va_A [] sz)) 0 0 (va_A [] sz) := by
  refine Met.ofW (cc := cX12_in) (maxL := 3) (ret := (some .boolean)) (by decide) rfl ?_
  intro p e s m args below meth c s₁ B hml hv
  obtain ⟨rfl, hsz, hP, hK, hD0, hE⟩ := hv
  have hx := B.exec
  have hb := B.bytes
  have hr := B.returns
  have hts := atoms_spec (ws := v_X12_in_15) B.pre
  have t_ := t_X12_in_15
  have mw : ∀ w ∈ e_X12_in_15, w ∈ v_X12_in_15 := fun w h => List.mem_cons_of_mem _ (List.mem_append_left _ h)
  have hw := fun w (h : w ∈ e_X12_in_15) => hts w (mw w h)
  have hown : s.vm.findClass RX12 = some m.cls := findClass_of_methodNamed B.named
  have hlocks := B.notSynchronized
  subst hsz
  have hD := hD0.self (sz := s.heap.size)
  generalize hAe : va_A [] s.heap.size = A at hD ⊢
  have hA : ∀ q : Nat, s.heap.size ≤ q → A q := fun q h => by rw [← hAe]; exact Or.inr h
  have hS : va_S A s.heap s.heap [] := va_S.rf
  have hP : va_P G vwCl [] s.heap := hP
  have hl := lv_entry ([.int p0, .int 0, .int 1]) (n := 3) (Nat.le_of_ble_eq_true rfl)
  rw [lg_entry_eq]
  generalize (lg_sl ([.int p0, .int 0, .int 1]) ++ List.replicate (3 - (lg_sl ([.int p0, .int 0, .int 1])).length) Slot.unset).toArray = ls at hl ⊢
  have hl : lv_has ls 3 [(0, .int p0), (1, .int 0), (2, .int 1)] := hl
  refine lv_iload_n hx hb dX12_in_0 rfl (lv_at hl 0 rfl) ?_
  refine lv_iload_n hx hb dX12_in_1 rfl (lv_at hl 1 rfl) ?_
  refine lv_icmp_lt (tgt := 14) hx hb dX12_in_2 (by decide) (fun c1 => ?_) (fun c1 => ?_)
  · have c1 : p0.toInt < 0 := wLt rfl (by decide) c1
    refine lv_iconst (v := 0) hx hb dX12_in_14 (by decide) ?_
    have hP9 : va_P G vwCl [] _ := hP
    have hD9 : va_D A [] := hD
    exact W.zret (v := 0) (ty := .boolean) hx hb hr rfl (fun t ht hW => ⟨⟨0, _, rfl, Or.inl ⟨(by first | omega | decide | simp), rfl, rfl⟩, by rw [ht]; exact hP9, hD9⟩, hS.F ht⟩) hS.2.2 dX12_in_15
  · have c1 : p0.toInt ≥ 0 := wNlt rfl (by decide) c1
    refine lv_iload_n hx hb dX12_in_5 rfl (lv_at hl 0 rfl) ?_
    refine lv_iload_n hx hb dX12_in_6 rfl (lv_at hl 2 rfl) ?_
    refine lv_icmp_gt (tgt := 14) hx hb dX12_in_7 (by decide) (fun c2 => ?_) (fun c2 => ?_)
    · have c2 : 1 < p0.toInt := wLt (by decide) rfl c2
      refine lv_iconst (v := 0) hx hb dX12_in_14 (by decide) ?_
      have hP9 : va_P G vwCl [] _ := hP
      have hD9 : va_D A [] := hD
      exact W.zret (v := 0) (ty := .boolean) hx hb hr rfl (fun t ht hW => ⟨⟨0, _, rfl, Or.inl ⟨(by first | omega | decide | simp), rfl, rfl⟩, by rw [ht]; exact hP9, hD9⟩, hS.F ht⟩) hS.2.2 dX12_in_15
    · have c2 : 1 ≥ p0.toInt := wNlt (by decide) rfl c2
      refine lv_iconst (v := 1) hx hb dX12_in_10 (by decide) ?_
      refine lv_goto (tgt := 15) hx hb dX12_in_11 (by decide) ?_
      have hP9 : va_P G vwCl [] _ := hP
      have hD9 : va_D A [] := hD
      exact W.zret (v := 1) (ty := .boolean) hx hb hr rfl (fun t ht hW => ⟨⟨1, _, rfl, Or.inr (⟨(by first | omega | decide | simp), rfl, rfl⟩), by rw [ht]; exact hP9, hD9⟩, hS.F ht⟩) hS.2.2 dX12_in_15
def e_X12_image_0 : List Cond := [.methodLink RX12 1 yX12_in, .static yX12_in, .initialized RX12, .fieldLink RX12 23 "MotionFloorModel" "imageSeats" "[I", .fieldLink RX12 16 "MotionFloorModel" "hall" "LMotionFloorModel$Hall;", .fieldLink RX12 96 "MotionFloorModel$Hall" "seats" "I", .fieldLink RX12 27 "MotionFloorModel" "imageEntries" "[I", .fieldLink RX12 48 "MotionFloorModel$Hall" "entries" "I"]
def v_X12_image_0 : List Cond := .code yX12_image cX12_image 3 (some .int) :: (e_X12_image_0 ++ (wsX120 ++ (wsX110 ++ (v_X12_in_15 ++ []))))
theorem te_X12_image_0 : GoodIn lw_tbl e_X12_image_0 := wGc z576 (wGc z575 (wGc z574 (wGc z564 (wGc z566 (wGc z679 (wGc z563 (wGc z672 (wG0))))))))
theorem t_X12_image_0 : GoodIn lw_tbl v_X12_image_0 := wGc z694 (wGa te_X12_image_0 (wGa zcX12 (wGa zcX11 (wGa t_X12_in_15 (wG0)))))
set_option maxHeartbeats 4000000 in
set_option maxRecDepth 100000 in
theorem m_X12_image_0 (l : Launch) (G : va_G) (K : Nat → ClassId) (h0 h1 h2 h3 h4 h5 h6 h7 h8 h9 h10 h11 h12 h13 h14 h15 h16 h17 h18 h19 h20 h21 h22 h23 h24 h25 h26 h27 h28 h29 h30 h31 h32 h33 : Nat) (p0 : Int32) (sz : Nat) : Met l yX12_image v_X12_image_0 ({ frames := 1, cells := 0, slots := 0, locals := 22 }) (va_Pc [.ref h0, .int p0] (wS G K sz [(h0, .inr (9, [.ref h1, .ref h4, .ref h2, .ref h3, .ref h5, .ref h6, .int 0])), (h1, .inr (8, [.int 1, .int 0, .int (-1), .int 0, .int 0, .int (-1), .int 0, .int 0, .int 0, .int 0, .int 0, .ref h7, .ref h8, .ref h9, .ref h10, .ref h11, .ref h12, .ref h13, .ref h14, .ref h15, .ref h16, .ref h17, .ref h18, .ref h19, .ref h20, .ref h21, .ref h22, .ref h23, .ref h24, .ref h25, .int 0, .ref h26, .ref h27, .ref h28, .ref h29, .int 0, .int 0, .ref h30, .ref h31, .int (-1), .ref h32, .ref h33])), (h2, .inl (K 0, 2, .inl (fun _ => 0))), (h3, .inl (K 0, 2, .inl (fun _ => (-1))))])) (va_Qi (fun (r : Int32) (u : va_W) => (((p0.toInt < 0 ∨ (p0.toInt ≥ 0 ∧ p0.toInt > 1))) ∧ r = (-9) ∧ u = [(h0, .inr (9, [.ref h1, .ref h4, .ref h2, .ref h3, .ref h5, .ref h6, .int 0])), (h1, .inr (8, [.int 1, .int 0, .int (-1), .int 0, .int 0, .int (-1), .int 0, .int 0, .int 0, .int 0, .int 0, .ref h7, .ref h8, .ref h9, .ref h10, .ref h11, .ref h12, .ref h13, .ref h14, .ref h15, .ref h16, .ref h17, .ref h18, .ref h19, .ref h20, .ref h21, .ref h22, .ref h23, .ref h24, .ref h25, .int 0, .ref h26, .ref h27, .ref h28, .ref h29, .int 0, .int 0, .ref h30, .ref h31, .int (-1), .ref h32, .ref h33])), (h2, .inl (K 0, 2, .inl (fun _ => 0))), (h3, .inl (K 0, 2, .inl (fun _ => (-1))))]) ∨ (∃ u0 u1 : Nat → Int32, (((p0.toInt ≥ 0 ∧ p0.toInt ≤ 1))) ∧ r = 0 ∧ u = [(h0, .inr (9, [.ref h1, .ref h4, .ref h2, .ref h3, .ref h5, .ref h6, .int 0])), (h1, .inr (8, [.int 1, .int 0, .int (-1), .int 0, .int 0, .int (-1), .int 0, .int 0, .int 0, .int 0, .int 0, .ref h7, .ref h8, .ref h9, .ref h10, .ref h11, .ref h12, .ref h13, .ref h14, .ref h15, .ref h16, .ref h17, .ref h18, .ref h19, .ref h20, .ref h21, .ref h22, .ref h23, .ref h24, .ref h25, .int 0, .ref h26, .ref h27, .ref h28, .ref h29, .int 0, .int 0, .ref h30, .ref h31, .int (-1), .ref h32, .ref h33])), (h2, .inl (K 0, 2, .inl u0)), (h3, .inl (K 0, 2, .inl u1))])) (wB G (va_A [(h0, .inr (9, [.ref h1, .ref h4, .ref h2, .ref h3, .ref h5, .ref h6, .int 0])), (h1, .inr (8, [.int 1, .int 0, .int (-1), .int 0, .int 0, .int (-1), .int 0, .int 0, .int 0, .int 0, .int 0, .ref h7, .ref h8, .ref h9, .ref h10, .ref h11, .ref h12, .ref h13, .ref h14, .ref h15, .ref h16, .ref h17, .ref h18, .ref h19, .ref h20, .ref h21, .ref h22, .ref h23, .ref h24, .ref h25, .int 0, .ref h26, .ref h27, .ref h28, .ref h29, .int 0, .int 0, .ref h30, .ref h31, .int (-1), .ref h32, .ref h33])), (h2, .inl (K 0, 2, .inl (fun _ => 0))), (h3, .inl (K 0, 2, .inl (fun _ => (-1))))] sz)) (va_A [(h0, .inr (9, [.ref h1, .ref h4, .ref h2, .ref h3, .ref h5, .ref h6, .int 0])), (h1, .inr (8, [.int 1, .int 0, .int (-1), .int 0, .int 0, .int (-1), .int 0, .int 0, .int 0, .int 0, .int 0, .ref h7, .ref h8, .ref h9, .ref h10, .ref h11, .ref h12, .ref h13, .ref h14, .ref h15, .ref h16, .ref h17, .ref h18, .ref h19, .ref h20, .ref h21, .ref h22, .ref h23, .ref h24, .ref h25, .int 0, .ref h26, .ref h27, .ref h28, .ref h29, .int 0, .int 0, .ref h30, .ref h31, .int (-1), .ref h32, .ref h33])), (h2, .inl (K 0, 2, .inl (fun _ => 0))), (h3, .inl (K 0, 2, .inl (fun _ => (-1))))] sz)) 0 0 (va_A [(h0, .inr (9, [.ref h1, .ref h4, .ref h2, .ref h3, .ref h5, .ref h6, .int 0])), (h1, .inr (8, [.int 1, .int 0, .int (-1), .int 0, .int 0, .int (-1), .int 0, .int 0, .int 0, .int 0, .int 0, .ref h7, .ref h8, .ref h9, .ref h10, .ref h11, .ref h12, .ref h13, .ref h14, .ref h15, .ref h16, .ref h17, .ref h18, .ref h19, .ref h20, .ref h21, .ref h22, .ref h23, .ref h24, .ref h25, .int 0, .ref h26, .ref h27, .ref h28, .ref h29, .int 0, .int 0, .ref h30, .ref h31, .int (-1), .ref h32, .ref h33])), (h2, .inl (K 0, 2, .inl (fun _ => 0))), (h3, .inl (K 0, 2, .inl (fun _ => (-1))))] sz) := by
  refine Met.ofW (cc := cX12_image) (maxL := 3) (ret := (some .int)) (by decide) rfl ?_
  intro p e s m args below meth c s₁ B hml hv
  obtain ⟨rfl, hsz, hP, hK, hD0, hE⟩ := hv
  have hx := B.exec
  have hb := B.bytes
  have hr := B.returns
  have hts := atoms_spec (ws := v_X12_image_0) B.pre
  have t_ := t_X12_image_0
  have mw : ∀ w ∈ e_X12_image_0, w ∈ v_X12_image_0 := fun w h => List.mem_cons_of_mem _ (List.mem_append_left _ h)
  have hw := fun w (h : w ∈ e_X12_image_0) => hts w (mw w h)
  have iX12 : ∀ w ∈ wsX120, w ∈ v_X12_image_0 := fun w h => List.mem_cons_of_mem _ (List.mem_append_right _ (List.mem_append_left _ h))
  have iX11 : ∀ w ∈ wsX110, w ∈ v_X12_image_0 := fun w h => List.mem_cons_of_mem _ (List.mem_append_right _ (List.mem_append_right _ (List.mem_append_left _ h)))
  have j_X12_in_15 : ∀ w ∈ v_X12_in_15, w ∈ v_X12_image_0 := fun w h => List.mem_cons_of_mem _ (List.mem_append_right _ (List.mem_append_right _ (List.mem_append_right _ (List.mem_append_left _ h))))
  have hown : s.vm.findClass RX12 = some m.cls := findClass_of_methodNamed B.named
  have hlocks := B.notSynchronized
  subst hsz
  have hD := hD0.self (sz := s.heap.size)
  generalize hAe : va_A [(h0, .inr (9, [.ref h1, .ref h4, .ref h2, .ref h3, .ref h5, .ref h6, .int 0])), (h1, .inr (8, [.int 1, .int 0, .int (-1), .int 0, .int 0, .int (-1), .int 0, .int 0, .int 0, .int 0, .int 0, .ref h7, .ref h8, .ref h9, .ref h10, .ref h11, .ref h12, .ref h13, .ref h14, .ref h15, .ref h16, .ref h17, .ref h18, .ref h19, .ref h20, .ref h21, .ref h22, .ref h23, .ref h24, .ref h25, .int 0, .ref h26, .ref h27, .ref h28, .ref h29, .int 0, .int 0, .ref h30, .ref h31, .int (-1), .ref h32, .ref h33])), (h2, .inl (K 0, 2, .inl (fun _ => 0))), (h3, .inl (K 0, 2, .inl (fun _ => (-1))))] s.heap.size = A at hD ⊢
  have hA : ∀ q : Nat, s.heap.size ≤ q → A q := fun q h => by rw [← hAe]; exact Or.inr h
  have hS : va_S A s.heap s.heap [] := va_S.rf
  have hP : va_P G vwCl [(h0, .inr (9, [.ref h1, .ref h4, .ref h2, .ref h3, .ref h5, .ref h6, .int 0])), (h1, .inr (8, [.int 1, .int 0, .int (-1), .int 0, .int 0, .int (-1), .int 0, .int 0, .int 0, .int 0, .int 0, .ref h7, .ref h8, .ref h9, .ref h10, .ref h11, .ref h12, .ref h13, .ref h14, .ref h15, .ref h16, .ref h17, .ref h18, .ref h19, .ref h20, .ref h21, .ref h22, .ref h23, .ref h24, .ref h25, .int 0, .ref h26, .ref h27, .ref h28, .ref h29, .int 0, .int 0, .ref h30, .ref h31, .int (-1), .ref h32, .ref h33])), (h2, .inl (K 0, 2, .inl (fun _ => 0))), (h3, .inl (K 0, 2, .inl (fun _ => (-1))))] s.heap := hP
  have hl := lv_entry ([.ref h0, .int p0]) (n := 3) (Nat.le_of_ble_eq_true rfl)
  rw [lg_entry_eq]
  generalize (lg_sl ([.ref h0, .int p0]) ++ List.replicate (3 - (lg_sl ([.ref h0, .int p0])).length) Slot.unset).toArray = ls at hl ⊢
  have hl : lv_has ls 3 [(0, .ref h0), (1, .int p0)] := hl
  refine lv_iload_n hx hb dX12_image_0 rfl (lv_at hl 1 rfl) ?_
  refine lv_iconst (v := 0) hx hb dX12_image_1 (by decide) ?_
  refine lv_iconst (v := 1) hx hb dX12_image_2 (by decide) ?_
  have hPc := hP.sub (ws' := []) [] rfl
  have hDc := hD.sub (ws' := []) [] (by decide) rfl
  refine wGoi (wc := []) (wr := [(h0, .inr (9, [.ref h1, .ref h4, .ref h2, .ref h3, .ref h5, .ref h6, .int 0])), (h1, .inr (8, [.int 1, .int 0, .int (-1), .int 0, .int 0, .int (-1), .int 0, .int 0, .int 0, .int 0, .int 0, .ref h7, .ref h8, .ref h9, .ref h10, .ref h11, .ref h12, .ref h13, .ref h14, .ref h15, .ref h16, .ref h17, .ref h18, .ref h19, .ref h20, .ref h21, .ref h22, .ref h23, .ref h24, .ref h25, .int 0, .ref h26, .ref h27, .ref h28, .ref h29, .int 0, .int 0, .ref h30, .ref h31, .int (-1), .ref h32, .ref h33])), (h2, .inl (K 0, 2, .inl (fun _ => 0))), (h3, .inl (K 0, 2, .inl (fun _ => (-1))))]) (va_runS (As := [.int p0, .int 0, .int 1]) (rest := []) ⟨hx, hb, hml, hown, hts⟩ (m_X12_in_15 l G K p0 _) (va_cwS 3 hts (wGS t_ (mw (.methodLink RX12 1 yX12_in) (List.mem_of_getElem? (i := 0) rfl)) (mw (.static yX12_in) (List.mem_of_getElem? (i := 1) rfl)) (mw (.initialized RX12) (List.mem_of_getElem? (i := 2) rfl)) j_X12_in_15) rfl rfl rfl (by decide +kernel) ⟨Nat.le_of_ble_eq_true rfl, Nat.le_of_ble_eq_true rfl⟩) (wPS hK hE hPc hDc) rfl rfl hl.1 rfl (lv_room (Nat.le_of_ble_eq_true rfl)) dX12_image_3 ⟨Nat.le_of_ble_eq_true rfl, Nat.le_of_ble_eq_true rfl⟩) hP hD hS hA [] [0, 1, 2, 3] rfl rfl rfl (by decide) (fun r u H locs hw hP hD hS => ?_)
  rcases hw with ⟨c_w, rfl, rfl⟩ | ⟨c_w, rfl, rfl⟩
  · have c1 := c_w
    have hP : va_P G vwCl [(h0, .inr (9, [.ref h1, .ref h4, .ref h2, .ref h3, .ref h5, .ref h6, .int 0])), (h1, .inr (8, [.int 1, .int 0, .int (-1), .int 0, .int 0, .int (-1), .int 0, .int 0, .int 0, .int 0, .int 0, .ref h7, .ref h8, .ref h9, .ref h10, .ref h11, .ref h12, .ref h13, .ref h14, .ref h15, .ref h16, .ref h17, .ref h18, .ref h19, .ref h20, .ref h21, .ref h22, .ref h23, .ref h24, .ref h25, .int 0, .ref h26, .ref h27, .ref h28, .ref h29, .int 0, .int 0, .ref h30, .ref h31, .int (-1), .ref h32, .ref h33])), (h2, .inl (K 0, 2, .inl (fun _ => 0))), (h3, .inl (K 0, 2, .inl (fun _ => (-1))))] _ := hP
    have hD : va_D A [(h0, .inr (9, [.ref h1, .ref h4, .ref h2, .ref h3, .ref h5, .ref h6, .int 0])), (h1, .inr (8, [.int 1, .int 0, .int (-1), .int 0, .int 0, .int (-1), .int 0, .int 0, .int 0, .int 0, .int 0, .ref h7, .ref h8, .ref h9, .ref h10, .ref h11, .ref h12, .ref h13, .ref h14, .ref h15, .ref h16, .ref h17, .ref h18, .ref h19, .ref h20, .ref h21, .ref h22, .ref h23, .ref h24, .ref h25, .int 0, .ref h26, .ref h27, .ref h28, .ref h29, .int 0, .int 0, .ref h30, .ref h31, .int (-1), .ref h32, .ref h33])), (h2, .inl (K 0, 2, .inl (fun _ => 0))), (h3, .inl (K 0, 2, .inl (fun _ => (-1))))] := hD
    refine lv_if_ne (tgt := 12) hx hb dX12_image_6 (by decide) (fun c_ => absurd c_ (by decide)) (fun _ => ?_)
    refine lv_bipush (v := (-9)) hx hb dX12_image_9 (by decide) ?_
    have hP9 : va_P G vwCl [(h0, .inr (9, [.ref h1, .ref h4, .ref h2, .ref h3, .ref h5, .ref h6, .int 0])), (h1, .inr (8, [.int 1, .int 0, .int (-1), .int 0, .int 0, .int (-1), .int 0, .int 0, .int 0, .int 0, .int 0, .ref h7, .ref h8, .ref h9, .ref h10, .ref h11, .ref h12, .ref h13, .ref h14, .ref h15, .ref h16, .ref h17, .ref h18, .ref h19, .ref h20, .ref h21, .ref h22, .ref h23, .ref h24, .ref h25, .int 0, .ref h26, .ref h27, .ref h28, .ref h29, .int 0, .int 0, .ref h30, .ref h31, .int (-1), .ref h32, .ref h33])), (h2, .inl (K 0, 2, .inl (fun _ => 0))), (h3, .inl (K 0, 2, .inl (fun _ => (-1))))] _ := hP
    have hD9 : va_D A [(h0, .inr (9, [.ref h1, .ref h4, .ref h2, .ref h3, .ref h5, .ref h6, .int 0])), (h1, .inr (8, [.int 1, .int 0, .int (-1), .int 0, .int 0, .int (-1), .int 0, .int 0, .int 0, .int 0, .int 0, .ref h7, .ref h8, .ref h9, .ref h10, .ref h11, .ref h12, .ref h13, .ref h14, .ref h15, .ref h16, .ref h17, .ref h18, .ref h19, .ref h20, .ref h21, .ref h22, .ref h23, .ref h24, .ref h25, .int 0, .ref h26, .ref h27, .ref h28, .ref h29, .int 0, .int 0, .ref h30, .ref h31, .int (-1), .ref h32, .ref h33])), (h2, .inl (K 0, 2, .inl (fun _ => 0))), (h3, .inl (K 0, 2, .inl (fun _ => (-1))))] := hD
    exact W.iret (v := (-9)) hx hb hr (fun t ht hW => ⟨⟨(-9), _, rfl, Or.inl ⟨(by first | omega | decide | simp), rfl, rfl⟩, by rw [ht]; exact hP9, hD9⟩, hS.F ht⟩) hS.2.2 dX12_image_11
  · have c2 := c_w
    have hP : va_P G vwCl [(h0, .inr (9, [.ref h1, .ref h4, .ref h2, .ref h3, .ref h5, .ref h6, .int 0])), (h1, .inr (8, [.int 1, .int 0, .int (-1), .int 0, .int 0, .int (-1), .int 0, .int 0, .int 0, .int 0, .int 0, .ref h7, .ref h8, .ref h9, .ref h10, .ref h11, .ref h12, .ref h13, .ref h14, .ref h15, .ref h16, .ref h17, .ref h18, .ref h19, .ref h20, .ref h21, .ref h22, .ref h23, .ref h24, .ref h25, .int 0, .ref h26, .ref h27, .ref h28, .ref h29, .int 0, .int 0, .ref h30, .ref h31, .int (-1), .ref h32, .ref h33])), (h2, .inl (K 0, 2, .inl (fun _ => 0))), (h3, .inl (K 0, 2, .inl (fun _ => (-1))))] _ := hP
    have hD : va_D A [(h0, .inr (9, [.ref h1, .ref h4, .ref h2, .ref h3, .ref h5, .ref h6, .int 0])), (h1, .inr (8, [.int 1, .int 0, .int (-1), .int 0, .int 0, .int (-1), .int 0, .int 0, .int 0, .int 0, .int 0, .ref h7, .ref h8, .ref h9, .ref h10, .ref h11, .ref h12, .ref h13, .ref h14, .ref h15, .ref h16, .ref h17, .ref h18, .ref h19, .ref h20, .ref h21, .ref h22, .ref h23, .ref h24, .ref h25, .int 0, .ref h26, .ref h27, .ref h28, .ref h29, .int 0, .int 0, .ref h30, .ref h31, .int (-1), .ref h32, .ref h33])), (h2, .inl (K 0, 2, .inl (fun _ => 0))), (h3, .inl (K 0, 2, .inl (fun _ => (-1))))] := hD
    refine lv_if_ne (tgt := 12) hx hb dX12_image_6 (by decide) (fun _ => ?_) (fun c_ => absurd c_ (by decide))
    refine lv_aload_n hx hb dX12_image_12 rfl (lv_at hl 0 rfl) ?_
    refine va_get (D := G) (ci := 9) (v := .ref h2) (C := RX12) (T := TX12) (N := 7) hx hb hts iX12 hown hK hP 0 rfl rfl 2 (by decide) (hw (.fieldLink RX12 23 "MotionFloorModel" "imageSeats" "[I") (List.mem_of_getElem? (i := 3) rfl)) (fun _ h9 => h9) rfl dX12_image_13 ?_
    refine lv_iload_n hx hb dX12_image_16 rfl (lv_at hl 1 rfl) ?_
    refine lv_aload_n hx hb dX12_image_17 rfl (lv_at hl 0 rfl) ?_
    refine va_get (D := G) (ci := 9) (v := .ref h1) (C := RX12) (T := TX12) (N := 7) hx hb hts iX12 hown hK hP 0 rfl rfl 0 (by decide) (hw (.fieldLink RX12 16 "MotionFloorModel" "hall" "LMotionFloorModel$Hall;") (List.mem_of_getElem? (i := 4) rfl)) (fun _ h9 => h9) rfl dX12_image_18 ?_
    refine va_get (D := G) (ci := 8) (v := .int 1) (C := RX11) (T := TX11) (N := 42) hx hb hts iX11 hown hK hP 1 rfl rfl 0 (by decide) (hw (.fieldLink RX12 96 "MotionFloorModel$Hall" "seats" "I") (List.mem_of_getElem? (i := 5) rfl)) (fun _ h9 => h9) rfl dX12_image_21 ?_
    refine va_iast hx hb hK hP hD hS 2 0 rfl rfl (vp_in_iff.mpr (by omega)) dX12_image_24 (fun H locs hP hD hS => ?_)
    generalize upd (fun _ => 0) p0.toNatClampNeg 1 = f3 at hP hD
    have hP : va_P G vwCl [(h0, .inr (9, [.ref h1, .ref h4, .ref h2, .ref h3, .ref h5, .ref h6, .int 0])), (h1, .inr (8, [.int 1, .int 0, .int (-1), .int 0, .int 0, .int (-1), .int 0, .int 0, .int 0, .int 0, .int 0, .ref h7, .ref h8, .ref h9, .ref h10, .ref h11, .ref h12, .ref h13, .ref h14, .ref h15, .ref h16, .ref h17, .ref h18, .ref h19, .ref h20, .ref h21, .ref h22, .ref h23, .ref h24, .ref h25, .int 0, .ref h26, .ref h27, .ref h28, .ref h29, .int 0, .int 0, .ref h30, .ref h31, .int (-1), .ref h32, .ref h33])), (h2, .inl (K 0, 2, .inl f3)), (h3, .inl (K 0, 2, .inl (fun _ => (-1))))] _ := hP
    have hD : va_D A [(h0, .inr (9, [.ref h1, .ref h4, .ref h2, .ref h3, .ref h5, .ref h6, .int 0])), (h1, .inr (8, [.int 1, .int 0, .int (-1), .int 0, .int 0, .int (-1), .int 0, .int 0, .int 0, .int 0, .int 0, .ref h7, .ref h8, .ref h9, .ref h10, .ref h11, .ref h12, .ref h13, .ref h14, .ref h15, .ref h16, .ref h17, .ref h18, .ref h19, .ref h20, .ref h21, .ref h22, .ref h23, .ref h24, .ref h25, .int 0, .ref h26, .ref h27, .ref h28, .ref h29, .int 0, .int 0, .ref h30, .ref h31, .int (-1), .ref h32, .ref h33])), (h2, .inl (K 0, 2, .inl f3)), (h3, .inl (K 0, 2, .inl (fun _ => (-1))))] := hD
    refine lv_aload_n hx hb dX12_image_25 rfl (lv_at hl 0 rfl) ?_
    refine va_get (D := G) (ci := 9) (v := .ref h3) (C := RX12) (T := TX12) (N := 7) hx hb hts iX12 hown hK hP 0 rfl rfl 3 (by decide) (hw (.fieldLink RX12 27 "MotionFloorModel" "imageEntries" "[I") (List.mem_of_getElem? (i := 6) rfl)) (fun _ h9 => h9) rfl dX12_image_26 ?_
    refine lv_iload_n hx hb dX12_image_29 rfl (lv_at hl 1 rfl) ?_
    refine lv_aload_n hx hb dX12_image_30 rfl (lv_at hl 0 rfl) ?_
    refine va_get (D := G) (ci := 9) (v := .ref h1) (C := RX12) (T := TX12) (N := 7) hx hb hts iX12 hown hK hP 0 rfl rfl 0 (by decide) (hw (.fieldLink RX12 16 "MotionFloorModel" "hall" "LMotionFloorModel$Hall;") (List.mem_of_getElem? (i := 4) rfl)) (fun _ h9 => h9) rfl dX12_image_31 ?_
    refine va_get (D := G) (ci := 8) (v := .int 0) (C := RX11) (T := TX11) (N := 42) hx hb hts iX11 hown hK hP 1 rfl rfl 7 (by decide) (hw (.fieldLink RX12 48 "MotionFloorModel$Hall" "entries" "I") (List.mem_of_getElem? (i := 7) rfl)) (fun _ h9 => h9) rfl dX12_image_34 ?_
    refine va_iast hx hb hK hP hD hS 3 0 rfl rfl (vp_in_iff.mpr (by omega)) dX12_image_37 (fun H locs hP hD hS => ?_)
    generalize upd (fun _ => (-1)) p0.toNatClampNeg 0 = f4 at hP hD
    have hP : va_P G vwCl [(h0, .inr (9, [.ref h1, .ref h4, .ref h2, .ref h3, .ref h5, .ref h6, .int 0])), (h1, .inr (8, [.int 1, .int 0, .int (-1), .int 0, .int 0, .int (-1), .int 0, .int 0, .int 0, .int 0, .int 0, .ref h7, .ref h8, .ref h9, .ref h10, .ref h11, .ref h12, .ref h13, .ref h14, .ref h15, .ref h16, .ref h17, .ref h18, .ref h19, .ref h20, .ref h21, .ref h22, .ref h23, .ref h24, .ref h25, .int 0, .ref h26, .ref h27, .ref h28, .ref h29, .int 0, .int 0, .ref h30, .ref h31, .int (-1), .ref h32, .ref h33])), (h2, .inl (K 0, 2, .inl f3)), (h3, .inl (K 0, 2, .inl f4))] _ := hP
    have hD : va_D A [(h0, .inr (9, [.ref h1, .ref h4, .ref h2, .ref h3, .ref h5, .ref h6, .int 0])), (h1, .inr (8, [.int 1, .int 0, .int (-1), .int 0, .int 0, .int (-1), .int 0, .int 0, .int 0, .int 0, .int 0, .ref h7, .ref h8, .ref h9, .ref h10, .ref h11, .ref h12, .ref h13, .ref h14, .ref h15, .ref h16, .ref h17, .ref h18, .ref h19, .ref h20, .ref h21, .ref h22, .ref h23, .ref h24, .ref h25, .int 0, .ref h26, .ref h27, .ref h28, .ref h29, .int 0, .int 0, .ref h30, .ref h31, .int (-1), .ref h32, .ref h33])), (h2, .inl (K 0, 2, .inl f3)), (h3, .inl (K 0, 2, .inl f4))] := hD
    refine lv_iconst (v := 0) hx hb dX12_image_38 (by decide) ?_
    refine lv_istore_n (lv' := [(2, .int 0), (0, .ref h0), (1, .int p0)]) hx hb dX12_image_39 rfl hl (by decide) rfl (fun ls hl => ?_)
    refine lv_iload_n hx hb dX12_image_40 rfl (lv_at hl 0 rfl) ?_
    refine lv_bipush (v := 6) hx hb dX12_image_41 (by decide) ?_
    refine lv_aload_n hx hb dX12_image_43 rfl (lv_at hl 1 rfl) ?_
    refine va_get (D := G) (ci := 9) (v := .ref h1) (C := RX12) (T := TX12) (N := 7) hx hb hts iX12 hown hK hP 0 rfl rfl 0 (by decide) (hw (.fieldLink RX12 16 "MotionFloorModel" "hall" "LMotionFloorModel$Hall;") (List.mem_of_getElem? (i := 4) rfl)) (fun _ h9 => h9) rfl dX12_image_44 ?_
    refine va_get (D := G) (ci := 8) (v := .int 0) (C := RX11) (T := TX11) (N := 42) hx hb hts iX11 hown hK hP 1 rfl rfl 7 (by decide) (hw (.fieldLink RX12 48 "MotionFloorModel$Hall" "entries" "I") (List.mem_of_getElem? (i := 7) rfl)) (fun _ h9 => h9) rfl dX12_image_47 ?_
    refine lv_imul hx hb dX12_image_50 ?_
    refine wTop (v1 := .int 0) (congrArg Value.int (by decide)) ?_
    refine lv_icmp_ge (tgt := 81) hx hb dX12_image_51 (by decide) (fun _ => ?_) (fun c_ => absurd c_ (by decide))
    refine lv_aload_n hx hb dX12_image_81 rfl (lv_at hl 1 rfl) ?_
    refine va_get (D := G) (ci := 9) (v := .ref h1) (C := RX12) (T := TX12) (N := 7) hx hb hts iX12 hown hK hP 0 rfl rfl 0 (by decide) (hw (.fieldLink RX12 16 "MotionFloorModel" "hall" "LMotionFloorModel$Hall;") (List.mem_of_getElem? (i := 4) rfl)) (fun _ h9 => h9) rfl dX12_image_82 ?_
    refine va_get (D := G) (ci := 8) (v := .int 0) (C := RX11) (T := TX11) (N := 42) hx hb hts iX11 hown hK hP 1 rfl rfl 7 (by decide) (hw (.fieldLink RX12 48 "MotionFloorModel$Hall" "entries" "I") (List.mem_of_getElem? (i := 7) rfl)) (fun _ h9 => h9) rfl dX12_image_85 ?_
    have hP9 : va_P G vwCl [(h0, .inr (9, [.ref h1, .ref h4, .ref h2, .ref h3, .ref h5, .ref h6, .int 0])), (h1, .inr (8, [.int 1, .int 0, .int (-1), .int 0, .int 0, .int (-1), .int 0, .int 0, .int 0, .int 0, .int 0, .ref h7, .ref h8, .ref h9, .ref h10, .ref h11, .ref h12, .ref h13, .ref h14, .ref h15, .ref h16, .ref h17, .ref h18, .ref h19, .ref h20, .ref h21, .ref h22, .ref h23, .ref h24, .ref h25, .int 0, .ref h26, .ref h27, .ref h28, .ref h29, .int 0, .int 0, .ref h30, .ref h31, .int (-1), .ref h32, .ref h33])), (h2, .inl (K 0, 2, .inl f3)), (h3, .inl (K 0, 2, .inl f4))] _ := hP
    have hD9 : va_D A [(h0, .inr (9, [.ref h1, .ref h4, .ref h2, .ref h3, .ref h5, .ref h6, .int 0])), (h1, .inr (8, [.int 1, .int 0, .int (-1), .int 0, .int 0, .int (-1), .int 0, .int 0, .int 0, .int 0, .int 0, .ref h7, .ref h8, .ref h9, .ref h10, .ref h11, .ref h12, .ref h13, .ref h14, .ref h15, .ref h16, .ref h17, .ref h18, .ref h19, .ref h20, .ref h21, .ref h22, .ref h23, .ref h24, .ref h25, .int 0, .ref h26, .ref h27, .ref h28, .ref h29, .int 0, .int 0, .ref h30, .ref h31, .int (-1), .ref h32, .ref h33])), (h2, .inl (K 0, 2, .inl f3)), (h3, .inl (K 0, 2, .inl f4))] := hD
    exact W.iret (v := 0) hx hb hr (fun t ht hW => ⟨⟨0, _, rfl, Or.inr (⟨f3, f4, (by first | omega | decide | simp), rfl, rfl⟩), by rw [ht]; exact hP9, hD9⟩, hS.F ht⟩) hS.2.2 dX12_image_88
def e_X12_back_0 : List Cond := [.methodLink RX12 1 yX12_in, .static yX12_in, .initialized RX12, .fieldLink RX12 27 "MotionFloorModel" "imageEntries" "[I"]
def v_X12_back_0 : List Cond := .code yX12_back cX12_back 5 (some .int) :: (e_X12_back_0 ++ (wsX120 ++ (v_X12_in_15 ++ [])))
theorem te_X12_back_0 : GoodIn lw_tbl e_X12_back_0 := wGc z576 (wGc z575 (wGc z574 (wGc z563 (wG0))))
theorem t_X12_back_0 : GoodIn lw_tbl v_X12_back_0 := wGc z695 (wGa te_X12_back_0 (wGa zcX12 (wGa t_X12_in_15 (wG0))))
set_option maxHeartbeats 4000000 in
set_option maxRecDepth 100000 in
theorem m_X12_back_0 (l : Launch) (G : va_G) (K : Nat → ClassId) (h0 h1 h2 h3 h4 h5 h6 : Nat) (p0 : Int32) (sz : Nat) : Met l yX12_back v_X12_back_0 ({ frames := 1, cells := 0, slots := 0, locals := 22 }) (va_Pc [.ref h0, .int p0] (wS G K sz [(h0, .inr (9, [.ref h2, .ref h3, .ref h4, .ref h1, .ref h5, .ref h6, .int 0])), (h1, .inl (K 0, 2, .inl (fun _ => (-1))))])) (va_Qi (fun (r : Int32) (u : va_W) => (((p0.toInt < 0 ∨ (p0.toInt ≥ 0 ∧ p0.toInt > 1))) ∧ r = (-9) ∧ u = [(h0, .inr (9, [.ref h2, .ref h3, .ref h4, .ref h1, .ref h5, .ref h6, .int 0])), (h1, .inl (K 0, 2, .inl (fun _ => (-1))))]) ∨ ((((p0.toInt ≥ 0 ∧ p0.toInt ≤ 1))) ∧ r = (-11) ∧ u = [(h0, .inr (9, [.ref h2, .ref h3, .ref h4, .ref h1, .ref h5, .ref h6, .int 0])), (h1, .inl (K 0, 2, .inl (fun _ => (-1))))])) (wB G (va_A [(h0, .inr (9, [.ref h2, .ref h3, .ref h4, .ref h1, .ref h5, .ref h6, .int 0])), (h1, .inl (K 0, 2, .inl (fun _ => (-1))))] sz)) (va_A [(h0, .inr (9, [.ref h2, .ref h3, .ref h4, .ref h1, .ref h5, .ref h6, .int 0])), (h1, .inl (K 0, 2, .inl (fun _ => (-1))))] sz)) 0 0 (va_A [(h0, .inr (9, [.ref h2, .ref h3, .ref h4, .ref h1, .ref h5, .ref h6, .int 0])), (h1, .inl (K 0, 2, .inl (fun _ => (-1))))] sz) := by
  refine Met.ofW (cc := cX12_back) (maxL := 5) (ret := (some .int)) (by decide) rfl ?_
  intro p e s m args below meth c s₁ B hml hv
  obtain ⟨rfl, hsz, hP, hK, hD0, hE⟩ := hv
  have hx := B.exec
  have hb := B.bytes
  have hr := B.returns
  have hts := atoms_spec (ws := v_X12_back_0) B.pre
  have t_ := t_X12_back_0
  have mw : ∀ w ∈ e_X12_back_0, w ∈ v_X12_back_0 := fun w h => List.mem_cons_of_mem _ (List.mem_append_left _ h)
  have hw := fun w (h : w ∈ e_X12_back_0) => hts w (mw w h)
  have iX12 : ∀ w ∈ wsX120, w ∈ v_X12_back_0 := fun w h => List.mem_cons_of_mem _ (List.mem_append_right _ (List.mem_append_left _ h))
  have j_X12_in_15 : ∀ w ∈ v_X12_in_15, w ∈ v_X12_back_0 := fun w h => List.mem_cons_of_mem _ (List.mem_append_right _ (List.mem_append_right _ (List.mem_append_left _ h)))
  have hown : s.vm.findClass RX12 = some m.cls := findClass_of_methodNamed B.named
  have hlocks := B.notSynchronized
  subst hsz
  have hD := hD0.self (sz := s.heap.size)
  generalize hAe : va_A [(h0, .inr (9, [.ref h2, .ref h3, .ref h4, .ref h1, .ref h5, .ref h6, .int 0])), (h1, .inl (K 0, 2, .inl (fun _ => (-1))))] s.heap.size = A at hD ⊢
  have hA : ∀ q : Nat, s.heap.size ≤ q → A q := fun q h => by rw [← hAe]; exact Or.inr h
  have hS : va_S A s.heap s.heap [] := va_S.rf
  have hP : va_P G vwCl [(h0, .inr (9, [.ref h2, .ref h3, .ref h4, .ref h1, .ref h5, .ref h6, .int 0])), (h1, .inl (K 0, 2, .inl (fun _ => (-1))))] s.heap := hP
  have hl := lv_entry ([.ref h0, .int p0]) (n := 5) (Nat.le_of_ble_eq_true rfl)
  rw [lg_entry_eq]
  generalize (lg_sl ([.ref h0, .int p0]) ++ List.replicate (5 - (lg_sl ([.ref h0, .int p0])).length) Slot.unset).toArray = ls at hl ⊢
  have hl : lv_has ls 5 [(0, .ref h0), (1, .int p0)] := hl
  refine lv_iload_n hx hb dX12_back_0 rfl (lv_at hl 1 rfl) ?_
  refine lv_iconst (v := 0) hx hb dX12_back_1 (by decide) ?_
  refine lv_iconst (v := 1) hx hb dX12_back_2 (by decide) ?_
  have hPc := hP.sub (ws' := []) [] rfl
  have hDc := hD.sub (ws' := []) [] (by decide) rfl
  refine wGoi (wc := []) (wr := [(h0, .inr (9, [.ref h2, .ref h3, .ref h4, .ref h1, .ref h5, .ref h6, .int 0])), (h1, .inl (K 0, 2, .inl (fun _ => (-1))))]) (va_runS (As := [.int p0, .int 0, .int 1]) (rest := []) ⟨hx, hb, hml, hown, hts⟩ (m_X12_in_15 l G K p0 _) (va_cwS 3 hts (wGS t_ (mw (.methodLink RX12 1 yX12_in) (List.mem_of_getElem? (i := 0) rfl)) (mw (.static yX12_in) (List.mem_of_getElem? (i := 1) rfl)) (mw (.initialized RX12) (List.mem_of_getElem? (i := 2) rfl)) j_X12_in_15) rfl rfl rfl (by decide +kernel) ⟨Nat.le_of_ble_eq_true rfl, Nat.le_of_ble_eq_true rfl⟩) (wPS hK hE hPc hDc) rfl rfl hl.1 rfl (lv_room (Nat.le_of_ble_eq_true rfl)) dX12_back_3 ⟨Nat.le_of_ble_eq_true rfl, Nat.le_of_ble_eq_true rfl⟩) hP hD hS hA [] [0, 1] rfl rfl rfl (by decide) (fun r u H locs hw hP hD hS => ?_)
  rcases hw with ⟨c_w, rfl, rfl⟩ | ⟨c_w, rfl, rfl⟩
  · have c1 := c_w
    have hP : va_P G vwCl [(h0, .inr (9, [.ref h2, .ref h3, .ref h4, .ref h1, .ref h5, .ref h6, .int 0])), (h1, .inl (K 0, 2, .inl (fun _ => (-1))))] _ := hP
    have hD : va_D A [(h0, .inr (9, [.ref h2, .ref h3, .ref h4, .ref h1, .ref h5, .ref h6, .int 0])), (h1, .inl (K 0, 2, .inl (fun _ => (-1))))] := hD
    refine lv_if_ne (tgt := 12) hx hb dX12_back_6 (by decide) (fun c_ => absurd c_ (by decide)) (fun _ => ?_)
    refine lv_bipush (v := (-9)) hx hb dX12_back_9 (by decide) ?_
    have hP9 : va_P G vwCl [(h0, .inr (9, [.ref h2, .ref h3, .ref h4, .ref h1, .ref h5, .ref h6, .int 0])), (h1, .inl (K 0, 2, .inl (fun _ => (-1))))] _ := hP
    have hD9 : va_D A [(h0, .inr (9, [.ref h2, .ref h3, .ref h4, .ref h1, .ref h5, .ref h6, .int 0])), (h1, .inl (K 0, 2, .inl (fun _ => (-1))))] := hD
    exact W.iret (v := (-9)) hx hb hr (fun t ht hW => ⟨⟨(-9), _, rfl, Or.inl ⟨(by first | omega | decide | simp), rfl, rfl⟩, by rw [ht]; exact hP9, hD9⟩, hS.F ht⟩) hS.2.2 dX12_back_11
  · have c2 := c_w
    have hP : va_P G vwCl [(h0, .inr (9, [.ref h2, .ref h3, .ref h4, .ref h1, .ref h5, .ref h6, .int 0])), (h1, .inl (K 0, 2, .inl (fun _ => (-1))))] _ := hP
    have hD : va_D A [(h0, .inr (9, [.ref h2, .ref h3, .ref h4, .ref h1, .ref h5, .ref h6, .int 0])), (h1, .inl (K 0, 2, .inl (fun _ => (-1))))] := hD
    refine lv_if_ne (tgt := 12) hx hb dX12_back_6 (by decide) (fun _ => ?_) (fun c_ => absurd c_ (by decide))
    refine lv_aload_n hx hb dX12_back_12 rfl (lv_at hl 0 rfl) ?_
    refine va_get (D := G) (ci := 9) (v := .ref h1) (C := RX12) (T := TX12) (N := 7) hx hb hts iX12 hown hK hP 0 rfl rfl 3 (by decide) (hw (.fieldLink RX12 27 "MotionFloorModel" "imageEntries" "[I") (List.mem_of_getElem? (i := 3) rfl)) (fun _ h9 => h9) rfl dX12_back_13 ?_
    refine lv_iload_n hx hb dX12_back_16 rfl (lv_at hl 1 rfl) ?_
    refine va_iald hx hb hK hP 1 0 rfl rfl (vp_in_iff.mpr (by omega)) dX12_back_17 ?_
    refine wTop (v1 := .int (-1)) rfl ?_
    refine lv_iconst (v := (-1)) hx hb dX12_back_18 (by decide) ?_
    refine lv_icmp_ne (tgt := 25) hx hb dX12_back_19 (by decide) (fun c_ => absurd c_ (by decide)) (fun _ => ?_)
    refine lv_bipush (v := (-11)) hx hb dX12_back_22 (by decide) ?_
    have hP9 : va_P G vwCl [(h0, .inr (9, [.ref h2, .ref h3, .ref h4, .ref h1, .ref h5, .ref h6, .int 0])), (h1, .inl (K 0, 2, .inl (fun _ => (-1))))] _ := hP
    have hD9 : va_D A [(h0, .inr (9, [.ref h2, .ref h3, .ref h4, .ref h1, .ref h5, .ref h6, .int 0])), (h1, .inl (K 0, 2, .inl (fun _ => (-1))))] := hD
    exact W.iret (v := (-11)) hx hb hr (fun t ht hW => ⟨⟨(-11), _, rfl, Or.inr (⟨(by first | omega | decide | simp), rfl, rfl⟩), by rw [ht]; exact hP9, hD9⟩, hS.F ht⟩) hS.2.2 dX12_back_24
