def e_X12_in_11 : List Cond := []
def v_X12_in_11 : List Cond := .code yX12_in cX12_in 3 (some .boolean) :: (e_X12_in_11 ++ [])
theorem te_X12_in_11 : GoodIn lw_tbl e_X12_in_11 := wG0
theorem t_X12_in_11 : GoodIn lw_tbl v_X12_in_11 := wGc z276 (wGa te_X12_in_11 (wG0))
set_option maxHeartbeats 4000000 in
set_option maxRecDepth 100000 in
theorem m_X12_in_11 (l : Launch) (G : va_G) (K : Nat → ClassId) (p0 : Int32) (sz : Nat) (bp0 : 1 ≤ p0.toInt ∧ p0.toInt ≤ 3) : Met l yX12_in v_X12_in_11 ({ frames := 0, cells := 0, slots := 0, locals := 0 }) (va_Pc [.int p0, .int 1, .int 3] (wS G K sz [])) (va_Qi (fun (r : Int32) (u : va_W) => (1 = r ∧ u = [])) (wB G (va_A [] sz)) (va_A [] sz)) 0 0 (va_A [] sz) := by
  refine Met.ofW (cc := cX12_in) (maxL := 3) (ret := (some .boolean)) (by decide) rfl ?_
  intro p e s m args below meth c s₁ B hml hv
  obtain ⟨rfl, hsz, hP, hK, hD0, hE⟩ := hv
  have hx := B.exec
  have hb := B.bytes
  have hr := B.returns
  have hts := atoms_spec (ws := v_X12_in_11) B.pre
  have t_ := t_X12_in_11
  have mw : ∀ w ∈ e_X12_in_11, w ∈ v_X12_in_11 := fun w h => List.mem_cons_of_mem _ (List.mem_append_left _ h)
  have hw := fun w (h : w ∈ e_X12_in_11) => hts w (mw w h)
  have hown : s.vm.findClass RX12 = some m.cls := findClass_of_methodNamed B.named
  have hlocks := B.notSynchronized
  subst hsz
  have hD := hD0.self (sz := s.heap.size)
  generalize hAe : va_A [] s.heap.size = A at hD ⊢
  have hA : ∀ q : Nat, s.heap.size ≤ q → A q := fun q h => by rw [← hAe]; exact Or.inr h
  have hS : va_S A s.heap s.heap [] := va_S.rf
  have hP : va_P G vwCl [] s.heap := hP
  have hl := lv_entry ([.int p0, .int 1, .int 3]) (n := 3) (Nat.le_of_ble_eq_true rfl)
  rw [lg_entry_eq]
  generalize (lg_sl ([.int p0, .int 1, .int 3]) ++ List.replicate (3 - (lg_sl ([.int p0, .int 1, .int 3])).length) Slot.unset).toArray = ls at hl ⊢
  have hl : lv_has ls 3 [(0, .int p0), (1, .int 1), (2, .int 3)] := hl
  refine lv_iload_n hx hb dX12_in_0 rfl (lv_at hl 0 rfl) ?_
  refine lv_iload_n hx hb dX12_in_1 rfl (lv_at hl 1 rfl) ?_
  refine lv_icmp_lt (tgt := 14) hx hb dX12_in_2 (by decide) (fun c1 => by have c1 : p0.toInt < 1 := wLt rfl (by decide) c1; omega) (fun c1 => ?_)
  have c1 : p0.toInt ≥ 1 := wNlt rfl (by decide) c1
  refine lv_iload_n hx hb dX12_in_5 rfl (lv_at hl 0 rfl) ?_
  refine lv_iload_n hx hb dX12_in_6 rfl (lv_at hl 2 rfl) ?_
  refine lv_icmp_gt (tgt := 14) hx hb dX12_in_7 (by decide) (fun c2 => by have c2 : 3 < p0.toInt := wLt (by decide) rfl c2; omega) (fun c2 => ?_)
  have c2 : 3 ≥ p0.toInt := wNlt (by decide) rfl c2
  refine lv_iconst (v := 1) hx hb dX12_in_10 (by decide) ?_
  refine lv_goto (tgt := 15) hx hb dX12_in_11 (by decide) ?_
  have hP9 : va_P G vwCl [] _ := hP
  have hD9 : va_D A [] := hD
  exact W.zret (v := 1) (ty := .boolean) hx hb hr rfl (fun t ht hW => ⟨⟨1, _, rfl, ⟨rfl, rfl⟩, by rw [ht]; exact hP9, hD9⟩, hS.F ht⟩) hS.2.2 dX12_in_15
def e_X11_reason_9 : List Cond := [.initialized RX12, .static yX12_in, .fieldLink RX11 115 "MotionFloorModel$Hall" "pending" "I"]
def v_X11_reason_9 : List Cond := .code yX11_reason cX11_reason 6 (some .int) :: (e_X11_reason_9 ++ (wsX110 ++ (v_X12_in_10 ++ (v_X12_in_11 ++ []))))
theorem te_X11_reason_9 : GoodIn lw_tbl e_X11_reason_9 := wGc z277 (wGc z278 (wGc z202 (wG0)))
theorem t_X11_reason_9 : GoodIn lw_tbl v_X11_reason_9 := wGc z355 (wGa te_X11_reason_9 (wGa zcX11 (wGa t_X12_in_10 (wGa t_X12_in_11 (wG0)))))
set_option maxHeartbeats 4000000 in
set_option maxRecDepth 100000 in
theorem m_X11_reason_9 (l : Launch) (G : va_G) (K : Nat → ClassId) (h0 h1 h2 h3 h4 h5 h6 h7 h8 h9 h10 h11 h12 h13 h14 h15 h16 h17 h18 h19 h20 h21 h22 h23 h24 h25 h26 h27 : Nat) (p0 p1 : Int32) (sz : Nat) (bp0 : 1 ≤ p0.toInt ∧ p0.toInt ≤ 8) (bp1 : 1 ≤ p1.toInt ∧ p1.toInt ≤ 3) : Met l yX11_reason v_X11_reason_9 ({ frames := 1, cells := 0, slots := 0, locals := 22 }) (va_Pc [.ref h0, .int 5, .int p0, .int p1, .int 0, .int 0] (wS G K sz [(h0, .inr (8, [.int 1, .int 0, .int (-1), .int 0, .int 0, .int (-1), .int 0, .int 0, .int 0, .int 0, .int 0, .ref h1, .ref h2, .ref h3, .ref h4, .ref h5, .ref h6, .ref h7, .ref h8, .ref h9, .ref h10, .ref h11, .ref h12, .ref h13, .ref h14, .ref h15, .ref h16, .ref h17, .ref h18, .ref h19, .int 0, .ref h20, .ref h21, .ref h22, .ref h23, .int 0, .int 0, .ref h24, .ref h25, .int (-1), .ref h26, .ref h27]))])) (va_Qi (fun (r : Int32) (u : va_W) => (0 = r ∧ u = [(h0, .inr (8, [.int 1, .int 0, .int (-1), .int 0, .int 0, .int (-1), .int 0, .int 0, .int 0, .int 0, .int 0, .ref h1, .ref h2, .ref h3, .ref h4, .ref h5, .ref h6, .ref h7, .ref h8, .ref h9, .ref h10, .ref h11, .ref h12, .ref h13, .ref h14, .ref h15, .ref h16, .ref h17, .ref h18, .ref h19, .int 0, .ref h20, .ref h21, .ref h22, .ref h23, .int 0, .int 0, .ref h24, .ref h25, .int (-1), .ref h26, .ref h27]))])) (wB G (va_A [(h0, .inr (8, [.int 1, .int 0, .int (-1), .int 0, .int 0, .int (-1), .int 0, .int 0, .int 0, .int 0, .int 0, .ref h1, .ref h2, .ref h3, .ref h4, .ref h5, .ref h6, .ref h7, .ref h8, .ref h9, .ref h10, .ref h11, .ref h12, .ref h13, .ref h14, .ref h15, .ref h16, .ref h17, .ref h18, .ref h19, .int 0, .ref h20, .ref h21, .ref h22, .ref h23, .int 0, .int 0, .ref h24, .ref h25, .int (-1), .ref h26, .ref h27]))] sz)) (va_A [(h0, .inr (8, [.int 1, .int 0, .int (-1), .int 0, .int 0, .int (-1), .int 0, .int 0, .int 0, .int 0, .int 0, .ref h1, .ref h2, .ref h3, .ref h4, .ref h5, .ref h6, .ref h7, .ref h8, .ref h9, .ref h10, .ref h11, .ref h12, .ref h13, .ref h14, .ref h15, .ref h16, .ref h17, .ref h18, .ref h19, .int 0, .ref h20, .ref h21, .ref h22, .ref h23, .int 0, .int 0, .ref h24, .ref h25, .int (-1), .ref h26, .ref h27]))] sz)) 0 0 (va_A [(h0, .inr (8, [.int 1, .int 0, .int (-1), .int 0, .int 0, .int (-1), .int 0, .int 0, .int 0, .int 0, .int 0, .ref h1, .ref h2, .ref h3, .ref h4, .ref h5, .ref h6, .ref h7, .ref h8, .ref h9, .ref h10, .ref h11, .ref h12, .ref h13, .ref h14, .ref h15, .ref h16, .ref h17, .ref h18, .ref h19, .int 0, .ref h20, .ref h21, .ref h22, .ref h23, .int 0, .int 0, .ref h24, .ref h25, .int (-1), .ref h26, .ref h27]))] sz) := by
  refine Met.ofW (cc := cX11_reason) (maxL := 6) (ret := (some .int)) (by decide) rfl ?_
  intro p e s m args below meth c s₁ B hml hv
  obtain ⟨rfl, hsz, hP, hK, hD0, hE⟩ := hv
  have hx := B.exec
  have hb := B.bytes
  have hr := B.returns
  have hts := atoms_spec (ws := v_X11_reason_9) B.pre
  have t_ := t_X11_reason_9
  have mw : ∀ w ∈ e_X11_reason_9, w ∈ v_X11_reason_9 := fun w h => List.mem_cons_of_mem _ (List.mem_append_left _ h)
  have hw := fun w (h : w ∈ e_X11_reason_9) => hts w (mw w h)
  have iX11 : ∀ w ∈ wsX110, w ∈ v_X11_reason_9 := fun w h => List.mem_cons_of_mem _ (List.mem_append_right _ (List.mem_append_left _ h))
  have j_X12_in_10 : ∀ w ∈ v_X12_in_10, w ∈ v_X11_reason_9 := fun w h => List.mem_cons_of_mem _ (List.mem_append_right _ (List.mem_append_right _ (List.mem_append_left _ h)))
  have j_X12_in_11 : ∀ w ∈ v_X12_in_11, w ∈ v_X11_reason_9 := fun w h => List.mem_cons_of_mem _ (List.mem_append_right _ (List.mem_append_right _ (List.mem_append_right _ (List.mem_append_left _ h))))
  have hown : s.vm.findClass RX11 = some m.cls := findClass_of_methodNamed B.named
  have hlocks := B.notSynchronized
  subst hsz
  have hD := hD0.self (sz := s.heap.size)
  generalize hAe : va_A [(h0, .inr (8, [.int 1, .int 0, .int (-1), .int 0, .int 0, .int (-1), .int 0, .int 0, .int 0, .int 0, .int 0, .ref h1, .ref h2, .ref h3, .ref h4, .ref h5, .ref h6, .ref h7, .ref h8, .ref h9, .ref h10, .ref h11, .ref h12, .ref h13, .ref h14, .ref h15, .ref h16, .ref h17, .ref h18, .ref h19, .int 0, .ref h20, .ref h21, .ref h22, .ref h23, .int 0, .int 0, .ref h24, .ref h25, .int (-1), .ref h26, .ref h27]))] s.heap.size = A at hD ⊢
  have hA : ∀ q : Nat, s.heap.size ≤ q → A q := fun q h => by rw [← hAe]; exact Or.inr h
  have hS : va_S A s.heap s.heap [] := va_S.rf
  have hP : va_P G vwCl [(h0, .inr (8, [.int 1, .int 0, .int (-1), .int 0, .int 0, .int (-1), .int 0, .int 0, .int 0, .int 0, .int 0, .ref h1, .ref h2, .ref h3, .ref h4, .ref h5, .ref h6, .ref h7, .ref h8, .ref h9, .ref h10, .ref h11, .ref h12, .ref h13, .ref h14, .ref h15, .ref h16, .ref h17, .ref h18, .ref h19, .int 0, .ref h20, .ref h21, .ref h22, .ref h23, .int 0, .int 0, .ref h24, .ref h25, .int (-1), .ref h26, .ref h27]))] s.heap := hP
  have hl := lv_entry ([.ref h0, .int 5, .int p0, .int p1, .int 0, .int 0]) (n := 6) (Nat.le_of_ble_eq_true rfl)
  rw [lg_entry_eq]
  generalize (lg_sl ([.ref h0, .int 5, .int p0, .int p1, .int 0, .int 0]) ++ List.replicate (6 - (lg_sl ([.ref h0, .int 5, .int p0, .int p1, .int 0, .int 0])).length) Slot.unset).toArray = ls at hl ⊢
  have hl : lv_has ls 6 [(0, .ref h0), (1, .int 5), (2, .int p0), (3, .int p1), (4, .int 0), (5, .int 0)] := hl
  refine lv_iload_n hx hb dX11_reason_0 rfl (lv_at hl 1 rfl) ?_
  refine lv_tableIn (off := 187) (tgt := 188) hx hb dX11_reason_1 (by decide) (by decide) (by decide) (by decide) ?_
  refine lv_iload_n hx hb dX11_reason_188 rfl (lv_at hl 2 rfl) ?_
  refine lv_iconst (v := 1) hx hb dX11_reason_189 (by decide) ?_
  refine lv_bipush (v := 8) hx hb dX11_reason_190 (by decide) ?_
  have hPc := hP.sub (ws' := []) [] rfl
  have hDc := hD.sub (ws' := []) [] (by decide) rfl
  refine wGoi (wc := []) (wr := [(h0, .inr (8, [.int 1, .int 0, .int (-1), .int 0, .int 0, .int (-1), .int 0, .int 0, .int 0, .int 0, .int 0, .ref h1, .ref h2, .ref h3, .ref h4, .ref h5, .ref h6, .ref h7, .ref h8, .ref h9, .ref h10, .ref h11, .ref h12, .ref h13, .ref h14, .ref h15, .ref h16, .ref h17, .ref h18, .ref h19, .int 0, .ref h20, .ref h21, .ref h22, .ref h23, .int 0, .int 0, .ref h24, .ref h25, .int (-1), .ref h26, .ref h27]))]) (va_runSN (As := [.int p0, .int 1, .int 8]) (rest := []) ⟨hx, hb, hml, hown, hts⟩ (m_X12_in_10 l G K p0 _ (by omega)) ⟨va_cnB (host := "MotionFloorModel") 3 hts (wGP t_ j_X12_in_10) rfl rfl rfl hE.2.2.2.2.2.2.2.2.2.1 (hw (.initialized RX12) (List.mem_of_getElem? (i := 0) rfl)) (by decide +kernel) ⟨Nat.le_of_ble_eq_true rfl, Nat.le_of_ble_eq_true rfl⟩, (hw (.static yX12_in) (List.mem_of_getElem? (i := 1) rfl)), trivial⟩ (wPS hK hE hPc hDc) rfl rfl hl.1 rfl (lv_room (Nat.le_of_ble_eq_true rfl)) dX11_reason_192 ⟨Nat.le_of_ble_eq_true rfl, Nat.le_of_ble_eq_true rfl⟩) hP hD hS hA [] [0] rfl rfl rfl (by decide) (fun r u H locs hw hP hD hS => ?_)
  rcases hw with ⟨rfl, rfl⟩
  have hP : va_P G vwCl [(h0, .inr (8, [.int 1, .int 0, .int (-1), .int 0, .int 0, .int (-1), .int 0, .int 0, .int 0, .int 0, .int 0, .ref h1, .ref h2, .ref h3, .ref h4, .ref h5, .ref h6, .ref h7, .ref h8, .ref h9, .ref h10, .ref h11, .ref h12, .ref h13, .ref h14, .ref h15, .ref h16, .ref h17, .ref h18, .ref h19, .int 0, .ref h20, .ref h21, .ref h22, .ref h23, .int 0, .int 0, .ref h24, .ref h25, .int (-1), .ref h26, .ref h27]))] _ := hP
  have hD : va_D A [(h0, .inr (8, [.int 1, .int 0, .int (-1), .int 0, .int 0, .int (-1), .int 0, .int 0, .int 0, .int 0, .int 0, .ref h1, .ref h2, .ref h3, .ref h4, .ref h5, .ref h6, .ref h7, .ref h8, .ref h9, .ref h10, .ref h11, .ref h12, .ref h13, .ref h14, .ref h15, .ref h16, .ref h17, .ref h18, .ref h19, .int 0, .ref h20, .ref h21, .ref h22, .ref h23, .int 0, .int 0, .ref h24, .ref h25, .int (-1), .ref h26, .ref h27]))] := hD
  refine lv_if_eq (tgt := 207) hx hb dX11_reason_195 (by decide) (fun c_ => absurd c_ (by decide)) (fun _ => ?_)
  refine lv_iload_n hx hb dX11_reason_198 rfl (lv_at hl 3 rfl) ?_
  refine lv_iconst (v := 1) hx hb dX11_reason_199 (by decide) ?_
  refine lv_iconst (v := 3) hx hb dX11_reason_200 (by decide) ?_
  have hPc := hP.sub (ws' := []) [] rfl
  have hDc := hD.sub (ws' := []) [] (by decide) rfl
  refine wGoi (wc := []) (wr := [(h0, .inr (8, [.int 1, .int 0, .int (-1), .int 0, .int 0, .int (-1), .int 0, .int 0, .int 0, .int 0, .int 0, .ref h1, .ref h2, .ref h3, .ref h4, .ref h5, .ref h6, .ref h7, .ref h8, .ref h9, .ref h10, .ref h11, .ref h12, .ref h13, .ref h14, .ref h15, .ref h16, .ref h17, .ref h18, .ref h19, .int 0, .ref h20, .ref h21, .ref h22, .ref h23, .int 0, .int 0, .ref h24, .ref h25, .int (-1), .ref h26, .ref h27]))]) (va_runSN (As := [.int p1, .int 1, .int 3]) (rest := []) ⟨hx, hb, hml, hown, hts⟩ (m_X12_in_11 l G K p1 _ (by omega)) ⟨va_cnB (host := "MotionFloorModel") 3 hts (wGP t_ j_X12_in_11) rfl rfl rfl hE.2.2.2.2.2.2.2.2.2.1 (hw (.initialized RX12) (List.mem_of_getElem? (i := 0) rfl)) (by decide +kernel) ⟨Nat.le_of_ble_eq_true rfl, Nat.le_of_ble_eq_true rfl⟩, (hw (.static yX12_in) (List.mem_of_getElem? (i := 1) rfl)), trivial⟩ (wPS hK hE hPc hDc) rfl rfl hl.1 rfl (lv_room (Nat.le_of_ble_eq_true rfl)) dX11_reason_201 ⟨Nat.le_of_ble_eq_true rfl, Nat.le_of_ble_eq_true rfl⟩) hP hD hS hA [] [0] rfl rfl rfl (by decide) (fun r u H locs hw hP hD hS => ?_)
  rcases hw with ⟨rfl, rfl⟩
  have hP : va_P G vwCl [(h0, .inr (8, [.int 1, .int 0, .int (-1), .int 0, .int 0, .int (-1), .int 0, .int 0, .int 0, .int 0, .int 0, .ref h1, .ref h2, .ref h3, .ref h4, .ref h5, .ref h6, .ref h7, .ref h8, .ref h9, .ref h10, .ref h11, .ref h12, .ref h13, .ref h14, .ref h15, .ref h16, .ref h17, .ref h18, .ref h19, .int 0, .ref h20, .ref h21, .ref h22, .ref h23, .int 0, .int 0, .ref h24, .ref h25, .int (-1), .ref h26, .ref h27]))] _ := hP
  have hD : va_D A [(h0, .inr (8, [.int 1, .int 0, .int (-1), .int 0, .int 0, .int (-1), .int 0, .int 0, .int 0, .int 0, .int 0, .ref h1, .ref h2, .ref h3, .ref h4, .ref h5, .ref h6, .ref h7, .ref h8, .ref h9, .ref h10, .ref h11, .ref h12, .ref h13, .ref h14, .ref h15, .ref h16, .ref h17, .ref h18, .ref h19, .int 0, .ref h20, .ref h21, .ref h22, .ref h23, .int 0, .int 0, .ref h24, .ref h25, .int (-1), .ref h26, .ref h27]))] := hD
  refine lv_if_ne (tgt := 212) hx hb dX11_reason_204 (by decide) (fun _ => ?_) (fun c_ => absurd c_ (by decide))
  refine lv_aload_n hx hb dX11_reason_212 rfl (lv_at hl 0 rfl) ?_
  refine va_get (D := G) (ci := 8) (v := .int 0) (C := RX11) (T := TX11) (N := 42) hx hb hts iX11 hown hK hP 0 rfl rfl 6 (by decide) (hw (.fieldLink RX11 115 "MotionFloorModel$Hall" "pending" "I") (List.mem_of_getElem? (i := 2) rfl)) (fun _ h9 => h9) rfl dX11_reason_213 ?_
  refine lv_if_le (tgt := 224) hx hb dX11_reason_216 (by decide) (fun _ => ?_) (fun c_ => absurd c_ (by decide))
  refine lv_iconst (v := 0) hx hb dX11_reason_224 (by decide) ?_
  have hP9 : va_P G vwCl [(h0, .inr (8, [.int 1, .int 0, .int (-1), .int 0, .int 0, .int (-1), .int 0, .int 0, .int 0, .int 0, .int 0, .ref h1, .ref h2, .ref h3, .ref h4, .ref h5, .ref h6, .ref h7, .ref h8, .ref h9, .ref h10, .ref h11, .ref h12, .ref h13, .ref h14, .ref h15, .ref h16, .ref h17, .ref h18, .ref h19, .int 0, .ref h20, .ref h21, .ref h22, .ref h23, .int 0, .int 0, .ref h24, .ref h25, .int (-1), .ref h26, .ref h27]))] _ := hP
  have hD9 : va_D A [(h0, .inr (8, [.int 1, .int 0, .int (-1), .int 0, .int 0, .int (-1), .int 0, .int 0, .int 0, .int 0, .int 0, .ref h1, .ref h2, .ref h3, .ref h4, .ref h5, .ref h6, .ref h7, .ref h8, .ref h9, .ref h10, .ref h11, .ref h12, .ref h13, .ref h14, .ref h15, .ref h16, .ref h17, .ref h18, .ref h19, .int 0, .ref h20, .ref h21, .ref h22, .ref h23, .int 0, .int 0, .ref h24, .ref h25, .int (-1), .ref h26, .ref h27]))] := hD
  exact W.iret (v := 0) hx hb hr (fun t ht hW => ⟨⟨0, _, rfl, ⟨rfl, rfl⟩, by rw [ht]; exact hP9, hD9⟩, hS.F ht⟩) hS.2.2 dX11_reason_225
def e_X11_act_9 : List Cond := [.methodLink RX11 196 yX11_reason, .instanceMethod yX11_reason, .selects RX11 yX11_reason yX11_reason, .initialized RX11, .fieldLink RX11 118 "MotionFloorModel$Hall" "entries" "I", .fieldLink RX11 127 "MotionFloorModel$Hall" "why" "I", .methodLink RX11 200 yX11_does, .instanceMethod yX11_does, .selects RX11 yX11_does yX11_does, .initialized RX12, .static yX12_numbers, .fieldLink RX11 90 "MotionFloorModel$Hall" "minutes" "[I"]
def v_X11_act_9 : List Cond := .code yX11_act cX11_act 10 (some .int) :: (e_X11_act_9 ++ (wsX110 ++ (v_X11_reason_9 ++ (v_X11_does_2 ++ (v_X12_numbers_2 ++ [])))))
theorem te_X11_act_9 : GoodIn lw_tbl e_X11_act_9 := wGc z364 (wGc z363 (wGc z362 (wGc z227 (wGc z201 (wGc z198 (wGc z361 (wGc z360 (wGc z359 (wGc z277 (wGc z358 (wGc z166 (wG0))))))))))))
theorem t_X11_act_9 : GoodIn lw_tbl v_X11_act_9 := wGc z365 (wGa te_X11_act_9 (wGa zcX11 (wGa t_X11_reason_9 (wGa t_X11_does_2 (wGa t_X12_numbers_2 (wG0))))))
set_option maxHeartbeats 4000000 in
set_option maxRecDepth 100000 in
theorem m_X11_act_9 (l : Launch) (G : va_G) (K : Nat → ClassId) (h0 h1 h2 h3 h4 h5 h6 h7 h8 h9 h10 h11 h12 h13 h14 h15 h16 h17 h18 h19 h20 h21 h22 h23 h24 h25 h26 h27 : Nat) (p0 p1 : Int32) (sz : Nat) (bp0 : 1 ≤ p0.toInt ∧ p0.toInt ≤ 8) (bp1 : 1 ≤ p1.toInt ∧ p1.toInt ≤ 3) : Met l yX11_act v_X11_act_9 ({ frames := 2, cells := 0, slots := 0, locals := 47 }) (va_Pc [.ref h0, .int 5, .int p0, .int p1, .int 0, .int 0] (wS G K sz [(h0, .inr (8, [.int 1, .int 0, .int (-1), .int 0, .int 0, .int (-1), .int 0, .int 0, .int 0, .int 0, .int 0, .ref h3, .ref h1, .ref h4, .ref h5, .ref h6, .ref h7, .ref h8, .ref h9, .ref h10, .ref h11, .ref h12, .ref h13, .ref h14, .ref h15, .ref h16, .ref h17, .ref h18, .ref h19, .ref h20, .int 0, .ref h21, .ref h22, .ref h23, .ref h24, .int 0, .int 0, .ref h25, .ref h26, .int (-1), .ref h2, .ref h27])), (h1, .inl (K 0, 9, .inl (upd (fun _ => 1) 6 2))), (h2, .inl (K 0, 3600, .inl (fun _ => 0)))])) (va_Qi (fun (r : Int32) (u : va_W) => (∃ u0 : Nat → Int32, ((upd (fun _ => 1) 6 2) p0.toNatClampNeg) = r ∧ u = [(h0, .inr (8, [.int 1, .int 0, .int (-1), .int 0, .int 0, .int (-1), .int 0, .int 1, .int 0, .int 0, .int 0, .ref h3, .ref h1, .ref h4, .ref h5, .ref h6, .ref h7, .ref h8, .ref h9, .ref h10, .ref h11, .ref h12, .ref h13, .ref h14, .ref h15, .ref h16, .ref h17, .ref h18, .ref h19, .ref h20, .int 0, .ref h21, .ref h22, .ref h23, .ref h24, .int 0, .int 0, .ref h25, .ref h26, .int (-1), .ref h2, .ref h27])), (h1, .inl (K 0, 9, .inl u0)), (h2, .inl (K 0, 3600, .inl (upd (upd (upd (upd (upd (upd (fun _ => 0) 0 5) 1 p0) 2 p1) 3 0) 4 0) 5 ((upd (fun _ => 1) 6 2) p0.toNatClampNeg))))])) (wB G (va_A [(h0, .inr (8, [.int 1, .int 0, .int (-1), .int 0, .int 0, .int (-1), .int 0, .int 0, .int 0, .int 0, .int 0, .ref h3, .ref h1, .ref h4, .ref h5, .ref h6, .ref h7, .ref h8, .ref h9, .ref h10, .ref h11, .ref h12, .ref h13, .ref h14, .ref h15, .ref h16, .ref h17, .ref h18, .ref h19, .ref h20, .int 0, .ref h21, .ref h22, .ref h23, .ref h24, .int 0, .int 0, .ref h25, .ref h26, .int (-1), .ref h2, .ref h27])), (h1, .inl (K 0, 9, .inl (upd (fun _ => 1) 6 2))), (h2, .inl (K 0, 3600, .inl (fun _ => 0)))] sz)) (va_A [(h0, .inr (8, [.int 1, .int 0, .int (-1), .int 0, .int 0, .int (-1), .int 0, .int 0, .int 0, .int 0, .int 0, .ref h3, .ref h1, .ref h4, .ref h5, .ref h6, .ref h7, .ref h8, .ref h9, .ref h10, .ref h11, .ref h12, .ref h13, .ref h14, .ref h15, .ref h16, .ref h17, .ref h18, .ref h19, .ref h20, .int 0, .ref h21, .ref h22, .ref h23, .ref h24, .int 0, .int 0, .ref h25, .ref h26, .int (-1), .ref h2, .ref h27])), (h1, .inl (K 0, 9, .inl (upd (fun _ => 1) 6 2))), (h2, .inl (K 0, 3600, .inl (fun _ => 0)))] sz)) 0 0 (va_A [(h0, .inr (8, [.int 1, .int 0, .int (-1), .int 0, .int 0, .int (-1), .int 0, .int 0, .int 0, .int 0, .int 0, .ref h3, .ref h1, .ref h4, .ref h5, .ref h6, .ref h7, .ref h8, .ref h9, .ref h10, .ref h11, .ref h12, .ref h13, .ref h14, .ref h15, .ref h16, .ref h17, .ref h18, .ref h19, .ref h20, .int 0, .ref h21, .ref h22, .ref h23, .ref h24, .int 0, .int 0, .ref h25, .ref h26, .int (-1), .ref h2, .ref h27])), (h1, .inl (K 0, 9, .inl (upd (fun _ => 1) 6 2))), (h2, .inl (K 0, 3600, .inl (fun _ => 0)))] sz) := by
  refine Met.ofW (cc := cX11_act) (maxL := 10) (ret := (some .int)) (by decide) rfl ?_
  intro p e s m args below meth c s₁ B hml hv
  obtain ⟨rfl, hsz, hP, hK, hD0, hE⟩ := hv
  have hx := B.exec
  have hb := B.bytes
  have hr := B.returns
  have hts := atoms_spec (ws := v_X11_act_9) B.pre
  have t_ := t_X11_act_9
  have mw : ∀ w ∈ e_X11_act_9, w ∈ v_X11_act_9 := fun w h => List.mem_cons_of_mem _ (List.mem_append_left _ h)
  have hw := fun w (h : w ∈ e_X11_act_9) => hts w (mw w h)
  have iX11 : ∀ w ∈ wsX110, w ∈ v_X11_act_9 := fun w h => List.mem_cons_of_mem _ (List.mem_append_right _ (List.mem_append_left _ h))
  have j_X11_reason_9 : ∀ w ∈ v_X11_reason_9, w ∈ v_X11_act_9 := fun w h => List.mem_cons_of_mem _ (List.mem_append_right _ (List.mem_append_right _ (List.mem_append_left _ h)))
  have j_X11_does_2 : ∀ w ∈ v_X11_does_2, w ∈ v_X11_act_9 := fun w h => List.mem_cons_of_mem _ (List.mem_append_right _ (List.mem_append_right _ (List.mem_append_right _ (List.mem_append_left _ h))))
  have j_X12_numbers_2 : ∀ w ∈ v_X12_numbers_2, w ∈ v_X11_act_9 := fun w h => List.mem_cons_of_mem _ (List.mem_append_right _ (List.mem_append_right _ (List.mem_append_right _ (List.mem_append_right _ (List.mem_append_left _ h)))))
  have hown : s.vm.findClass RX11 = some m.cls := findClass_of_methodNamed B.named
  have hlocks := B.notSynchronized
  subst hsz
  have hD := hD0.self (sz := s.heap.size)
  generalize hAe : va_A [(h0, .inr (8, [.int 1, .int 0, .int (-1), .int 0, .int 0, .int (-1), .int 0, .int 0, .int 0, .int 0, .int 0, .ref h3, .ref h1, .ref h4, .ref h5, .ref h6, .ref h7, .ref h8, .ref h9, .ref h10, .ref h11, .ref h12, .ref h13, .ref h14, .ref h15, .ref h16, .ref h17, .ref h18, .ref h19, .ref h20, .int 0, .ref h21, .ref h22, .ref h23, .ref h24, .int 0, .int 0, .ref h25, .ref h26, .int (-1), .ref h2, .ref h27])), (h1, .inl (K 0, 9, .inl (upd (fun _ => 1) 6 2))), (h2, .inl (K 0, 3600, .inl (fun _ => 0)))] s.heap.size = A at hD ⊢
  have hA : ∀ q : Nat, s.heap.size ≤ q → A q := fun q h => by rw [← hAe]; exact Or.inr h
  have hS : va_S A s.heap s.heap [] := va_S.rf
  have hP : va_P G vwCl [(h0, .inr (8, [.int 1, .int 0, .int (-1), .int 0, .int 0, .int (-1), .int 0, .int 0, .int 0, .int 0, .int 0, .ref h3, .ref h1, .ref h4, .ref h5, .ref h6, .ref h7, .ref h8, .ref h9, .ref h10, .ref h11, .ref h12, .ref h13, .ref h14, .ref h15, .ref h16, .ref h17, .ref h18, .ref h19, .ref h20, .int 0, .ref h21, .ref h22, .ref h23, .ref h24, .int 0, .int 0, .ref h25, .ref h26, .int (-1), .ref h2, .ref h27])), (h1, .inl (K 0, 9, .inl (upd (fun _ => 1) 6 2))), (h2, .inl (K 0, 3600, .inl (fun _ => 0)))] s.heap := hP
  have hl := lv_entry ([.ref h0, .int 5, .int p0, .int p1, .int 0, .int 0]) (n := 10) (Nat.le_of_ble_eq_true rfl)
  rw [lg_entry_eq]
  generalize (lg_sl ([.ref h0, .int 5, .int p0, .int p1, .int 0, .int 0]) ++ List.replicate (10 - (lg_sl ([.ref h0, .int 5, .int p0, .int p1, .int 0, .int 0])).length) Slot.unset).toArray = ls at hl ⊢
  have hl : lv_has ls 10 [(0, .ref h0), (1, .int 5), (2, .int p0), (3, .int p1), (4, .int 0), (5, .int 0)] := hl
  refine lv_aload_n hx hb dX11_act_0 rfl (lv_at hl 0 rfl) ?_
  refine lv_iload_n hx hb dX11_act_1 rfl (lv_at hl 1 rfl) ?_
  refine lv_iload_n hx hb dX11_act_2 rfl (lv_at hl 2 rfl) ?_
  refine lv_iload_n hx hb dX11_act_3 rfl (lv_at hl 3 rfl) ?_
  refine lv_iload hx hb dX11_act_4 (lv_at hl 4 rfl) ?_
  refine lv_iload hx hb dX11_act_6 (lv_at hl 5 rfl) ?_
  have hPc := hP.sub (ws' := [(h0, .inr (8, [.int 1, .int 0, .int (-1), .int 0, .int 0, .int (-1), .int 0, .int 0, .int 0, .int 0, .int 0, .ref h3, .ref h1, .ref h4, .ref h5, .ref h6, .ref h7, .ref h8, .ref h9, .ref h10, .ref h11, .ref h12, .ref h13, .ref h14, .ref h15, .ref h16, .ref h17, .ref h18, .ref h19, .ref h20, .int 0, .ref h21, .ref h22, .ref h23, .ref h24, .int 0, .int 0, .ref h25, .ref h26, .int (-1), .ref h2, .ref h27]))]) [0] rfl
  have hDc := hD.sub (ws' := [(h0, .inr (8, [.int 1, .int 0, .int (-1), .int 0, .int 0, .int (-1), .int 0, .int 0, .int 0, .int 0, .int 0, .ref h3, .ref h1, .ref h4, .ref h5, .ref h6, .ref h7, .ref h8, .ref h9, .ref h10, .ref h11, .ref h12, .ref h13, .ref h14, .ref h15, .ref h16, .ref h17, .ref h18, .ref h19, .ref h20, .int 0, .ref h21, .ref h22, .ref h23, .ref h24, .int 0, .int 0, .ref h25, .ref h26, .int (-1), .ref h2, .ref h27]))]) [0] (by decide) rfl
  refine wGoi (wc := [(h0, .inr (8, [.int 1, .int 0, .int (-1), .int 0, .int 0, .int (-1), .int 0, .int 0, .int 0, .int 0, .int 0, .ref h3, .ref h1, .ref h4, .ref h5, .ref h6, .ref h7, .ref h8, .ref h9, .ref h10, .ref h11, .ref h12, .ref h13, .ref h14, .ref h15, .ref h16, .ref h17, .ref h18, .ref h19, .ref h20, .int 0, .ref h21, .ref h22, .ref h23, .ref h24, .int 0, .int 0, .ref h25, .ref h26, .int (-1), .ref h2, .ref h27]))]) (wr := [(h1, .inl (K 0, 9, .inl (upd (fun _ => 1) 6 2))), (h2, .inl (K 0, 3600, .inl (fun _ => 0)))]) (va_runV (As := [.int 5, .int p0, .int p1, .int 0, .int 0]) (rest := []) ⟨hx, hb, hml, hown, hts⟩ (m_X11_reason_9 l G K h0 h3 h1 h4 h5 h6 h7 h8 h9 h10 h11 h12 h13 h14 h15 h16 h17 h18 h19 h20 h21 h22 h23 h24 h25 h26 h2 h27 p0 p1 _ (by omega) (by omega)) (cwV 5 hts (wGV t_ (mw (.methodLink RX11 196 yX11_reason) (List.mem_of_getElem? (i := 0) rfl)) (mw (.instanceMethod yX11_reason) (List.mem_of_getElem? (i := 1) rfl)) (mw (.selects RX11 yX11_reason yX11_reason) (List.mem_of_getElem? (i := 2) rfl)) (mw (.initialized RX11) (List.mem_of_getElem? (i := 3) rfl)) j_X11_reason_9) rfl rfl rfl (by decide +kernel) ⟨Nat.le_of_ble_eq_true rfl, Nat.le_of_ble_eq_true rfl⟩) (wPV hK hE hPc hDc 8 0 rfl rfl) rfl rfl hl.1 rfl (lv_room (Nat.le_of_ble_eq_true rfl)) dX11_act_8 ⟨Nat.le_of_ble_eq_true rfl, Nat.le_of_ble_eq_true rfl⟩) hP hD hS hA [0] [1, 2] rfl rfl rfl (by decide) (fun r u H locs hw hP hD hS => ?_)
  rcases hw with ⟨rfl, rfl⟩
  have hP : va_P G vwCl [(h1, .inl (K 0, 9, .inl (upd (fun _ => 1) 6 2))), (h2, .inl (K 0, 3600, .inl (fun _ => 0))), (h0, .inr (8, [.int 1, .int 0, .int (-1), .int 0, .int 0, .int (-1), .int 0, .int 0, .int 0, .int 0, .int 0, .ref h3, .ref h1, .ref h4, .ref h5, .ref h6, .ref h7, .ref h8, .ref h9, .ref h10, .ref h11, .ref h12, .ref h13, .ref h14, .ref h15, .ref h16, .ref h17, .ref h18, .ref h19, .ref h20, .int 0, .ref h21, .ref h22, .ref h23, .ref h24, .int 0, .int 0, .ref h25, .ref h26, .int (-1), .ref h2, .ref h27]))] _ := hP
  have hD : va_D A [(h1, .inl (K 0, 9, .inl (upd (fun _ => 1) 6 2))), (h2, .inl (K 0, 3600, .inl (fun _ => 0))), (h0, .inr (8, [.int 1, .int 0, .int (-1), .int 0, .int 0, .int (-1), .int 0, .int 0, .int 0, .int 0, .int 0, .ref h3, .ref h1, .ref h4, .ref h5, .ref h6, .ref h7, .ref h8, .ref h9, .ref h10, .ref h11, .ref h12, .ref h13, .ref h14, .ref h15, .ref h16, .ref h17, .ref h18, .ref h19, .ref h20, .int 0, .ref h21, .ref h22, .ref h23, .ref h24, .int 0, .int 0, .ref h25, .ref h26, .int (-1), .ref h2, .ref h27]))] := hD
  refine lv_istore (lv' := [(6, .int 0), (0, .ref h0), (1, .int 5), (2, .int p0), (3, .int p1), (4, .int 0), (5, .int 0)]) hx hb dX11_act_11 hl (by decide) rfl (fun ls hl => ?_)
  refine lv_iload hx hb dX11_act_13 (lv_at hl 0 rfl) ?_
  refine lv_if_ne (tgt := 32) hx hb dX11_act_15 (by decide) (fun c_ => absurd c_ (by decide)) (fun _ => ?_)
  refine lv_aload_n hx hb dX11_act_18 rfl (lv_at hl 1 rfl) ?_
  refine va_get (D := G) (ci := 8) (v := .int 0) (C := RX11) (T := TX11) (N := 42) hx hb hts iX11 hown hK hP 2 rfl rfl 7 (by decide) (hw (.fieldLink RX11 118 "MotionFloorModel$Hall" "entries" "I") (List.mem_of_getElem? (i := 4) rfl)) (fun _ h9 => h9) rfl dX11_act_19 ?_
  refine lv_sipush (v := 600) hx hb dX11_act_22 (by decide) ?_
  refine lv_icmp_ne (tgt := 32) hx hb dX11_act_25 (by decide) (fun _ => ?_) (fun c_ => absurd c_ (by decide))
  refine lv_aload_n hx hb dX11_act_32 rfl (lv_at hl 1 rfl) ?_
  refine lv_iload hx hb dX11_act_33 (lv_at hl 0 rfl) ?_
  refine va_put (D := G) (ci := 8) (v := .int 0) (ty := .int) (C := RX11) (T := TX11) (N := 42) hx hb hts iX11 tyX11 tyX11_ok nmX11 hown hK hP hD hS 2 rfl rfl 10 (by decide) (hw (.fieldLink RX11 127 "MotionFloorModel$Hall" "why" "I") (List.mem_of_getElem? (i := 5) rfl)) (fun _ h9 => h9) rfl (by decide +kernel) rfl rfl (Nat.le_of_ble_eq_true rfl) dX11_act_35 (fun H locs hP hD hS => ?_)
  have hP : va_P G vwCl [(h1, .inl (K 0, 9, .inl (upd (fun _ => 1) 6 2))), (h2, .inl (K 0, 3600, .inl (fun _ => 0))), (h0, .inr (8, [.int 1, .int 0, .int (-1), .int 0, .int 0, .int (-1), .int 0, .int 0, .int 0, .int 0, .int 0, .ref h3, .ref h1, .ref h4, .ref h5, .ref h6, .ref h7, .ref h8, .ref h9, .ref h10, .ref h11, .ref h12, .ref h13, .ref h14, .ref h15, .ref h16, .ref h17, .ref h18, .ref h19, .ref h20, .int 0, .ref h21, .ref h22, .ref h23, .ref h24, .int 0, .int 0, .ref h25, .ref h26, .int (-1), .ref h2, .ref h27]))] _ := hP
  have hD : va_D A [(h1, .inl (K 0, 9, .inl (upd (fun _ => 1) 6 2))), (h2, .inl (K 0, 3600, .inl (fun _ => 0))), (h0, .inr (8, [.int 1, .int 0, .int (-1), .int 0, .int 0, .int (-1), .int 0, .int 0, .int 0, .int 0, .int 0, .ref h3, .ref h1, .ref h4, .ref h5, .ref h6, .ref h7, .ref h8, .ref h9, .ref h10, .ref h11, .ref h12, .ref h13, .ref h14, .ref h15, .ref h16, .ref h17, .ref h18, .ref h19, .ref h20, .int 0, .ref h21, .ref h22, .ref h23, .ref h24, .int 0, .int 0, .ref h25, .ref h26, .int (-1), .ref h2, .ref h27]))] := hD
  refine lv_iload hx hb dX11_act_38 (lv_at hl 0 rfl) ?_
  refine lv_if_le (tgt := 47) hx hb dX11_act_40 (by decide) (fun _ => ?_) (fun c_ => absurd c_ (by decide))
  refine lv_aload_n hx hb dX11_act_47 rfl (lv_at hl 1 rfl) ?_
  refine lv_iload_n hx hb dX11_act_48 rfl (lv_at hl 2 rfl) ?_
  refine lv_iload_n hx hb dX11_act_49 rfl (lv_at hl 3 rfl) ?_
  refine lv_iload_n hx hb dX11_act_50 rfl (lv_at hl 4 rfl) ?_
  refine lv_iload hx hb dX11_act_51 (lv_at hl 5 rfl) ?_
  refine lv_iload hx hb dX11_act_53 (lv_at hl 6 rfl) ?_
  have hPc := hP.sub (ws' := [(h0, .inr (8, [.int 1, .int 0, .int (-1), .int 0, .int 0, .int (-1), .int 0, .int 0, .int 0, .int 0, .int 0, .ref h3, .ref h1, .ref h4, .ref h5, .ref h6, .ref h7, .ref h8, .ref h9, .ref h10, .ref h11, .ref h12, .ref h13, .ref h14, .ref h15, .ref h16, .ref h17, .ref h18, .ref h19, .ref h20, .int 0, .ref h21, .ref h22, .ref h23, .ref h24, .int 0, .int 0, .ref h25, .ref h26, .int (-1), .ref h2, .ref h27])), (h1, .inl (K 0, 9, .inl (upd (fun _ => 1) 6 2)))]) [2, 0] rfl
  have hDc := hD.sub (ws' := [(h0, .inr (8, [.int 1, .int 0, .int (-1), .int 0, .int 0, .int (-1), .int 0, .int 0, .int 0, .int 0, .int 0, .ref h3, .ref h1, .ref h4, .ref h5, .ref h6, .ref h7, .ref h8, .ref h9, .ref h10, .ref h11, .ref h12, .ref h13, .ref h14, .ref h15, .ref h16, .ref h17, .ref h18, .ref h19, .ref h20, .int 0, .ref h21, .ref h22, .ref h23, .ref h24, .int 0, .int 0, .ref h25, .ref h26, .int (-1), .ref h2, .ref h27])), (h1, .inl (K 0, 9, .inl (upd (fun _ => 1) 6 2)))]) [2, 0] (by decide) rfl
  refine wGoi (wc := [(h0, .inr (8, [.int 1, .int 0, .int (-1), .int 0, .int 0, .int (-1), .int 0, .int 0, .int 0, .int 0, .int 0, .ref h3, .ref h1, .ref h4, .ref h5, .ref h6, .ref h7, .ref h8, .ref h9, .ref h10, .ref h11, .ref h12, .ref h13, .ref h14, .ref h15, .ref h16, .ref h17, .ref h18, .ref h19, .ref h20, .int 0, .ref h21, .ref h22, .ref h23, .ref h24, .int 0, .int 0, .ref h25, .ref h26, .int (-1), .ref h2, .ref h27])), (h1, .inl (K 0, 9, .inl (upd (fun _ => 1) 6 2)))]) (wr := [(h2, .inl (K 0, 3600, .inl (fun _ => 0)))]) (va_runV (As := [.int 5, .int p0, .int p1, .int 0, .int 0]) (rest := []) ⟨hx, hb, hml, hown, hts⟩ (m_X11_does_2 l G K h0 h1 h3 h4 h5 h6 h7 h8 h9 h10 h11 h12 h13 h14 h15 h16 h17 h18 h19 h20 h21 h22 h23 h24 h25 h26 h2 h27 p0 p1 _ (by omega) (by omega)) (cwV 5 hts (wGV t_ (mw (.methodLink RX11 200 yX11_does) (List.mem_of_getElem? (i := 6) rfl)) (mw (.instanceMethod yX11_does) (List.mem_of_getElem? (i := 7) rfl)) (mw (.selects RX11 yX11_does yX11_does) (List.mem_of_getElem? (i := 8) rfl)) (mw (.initialized RX11) (List.mem_of_getElem? (i := 3) rfl)) j_X11_does_2) rfl rfl rfl (by decide +kernel) ⟨Nat.le_of_ble_eq_true rfl, Nat.le_of_ble_eq_true rfl⟩) (wPV hK hE hPc hDc 8 0 rfl rfl) rfl rfl hl.1 rfl (lv_room (Nat.le_of_ble_eq_true rfl)) dX11_act_55 ⟨Nat.le_of_ble_eq_true rfl, Nat.le_of_ble_eq_true rfl⟩) hP hD hS hA [2, 0] [1] rfl rfl rfl (by decide) (fun r u H locs hw hP hD hS => ?_)
  rcases hw with ⟨f1, rfl, rfl⟩
  have hP : va_P G vwCl [(h2, .inl (K 0, 3600, .inl (fun _ => 0))), (h0, .inr (8, [.int 1, .int 0, .int (-1), .int 0, .int 0, .int (-1), .int 0, .int 0, .int 0, .int 0, .int 0, .ref h3, .ref h1, .ref h4, .ref h5, .ref h6, .ref h7, .ref h8, .ref h9, .ref h10, .ref h11, .ref h12, .ref h13, .ref h14, .ref h15, .ref h16, .ref h17, .ref h18, .ref h19, .ref h20, .int 0, .ref h21, .ref h22, .ref h23, .ref h24, .int 0, .int 0, .ref h25, .ref h26, .int (-1), .ref h2, .ref h27])), (h1, .inl (K 0, 9, .inl f1))] _ := hP
  have hD : va_D A [(h2, .inl (K 0, 3600, .inl (fun _ => 0))), (h0, .inr (8, [.int 1, .int 0, .int (-1), .int 0, .int 0, .int (-1), .int 0, .int 0, .int 0, .int 0, .int 0, .ref h3, .ref h1, .ref h4, .ref h5, .ref h6, .ref h7, .ref h8, .ref h9, .ref h10, .ref h11, .ref h12, .ref h13, .ref h14, .ref h15, .ref h16, .ref h17, .ref h18, .ref h19, .ref h20, .int 0, .ref h21, .ref h22, .ref h23, .ref h24, .int 0, .int 0, .ref h25, .ref h26, .int (-1), .ref h2, .ref h27])), (h1, .inl (K 0, 9, .inl f1))] := hD
  refine lv_istore (lv' := [(7, .int ((upd (fun _ => 1) 6 2) p0.toNatClampNeg)), (6, .int 0), (0, .ref h0), (1, .int 5), (2, .int p0), (3, .int p1), (4, .int 0), (5, .int 0)]) hx hb dX11_act_58 hl (by decide) rfl (fun ls hl => ?_)
  refine lv_bipush (v := 6) hx hb dX11_act_60 (by decide) ?_
  refine lv_aload_n hx hb dX11_act_62 rfl (lv_at hl 2 rfl) ?_
  refine va_get (D := G) (ci := 8) (v := .int 0) (C := RX11) (T := TX11) (N := 42) hx hb hts iX11 hown hK hP 1 rfl rfl 7 (by decide) (hw (.fieldLink RX11 118 "MotionFloorModel$Hall" "entries" "I") (List.mem_of_getElem? (i := 4) rfl)) (fun _ h9 => h9) rfl dX11_act_63 ?_
  refine lv_imul hx hb dX11_act_66 ?_
  refine wTop (v1 := .int 0) (congrArg Value.int (by decide)) ?_
  refine lv_istore (lv' := [(8, .int 0), (7, .int ((upd (fun _ => 1) 6 2) p0.toNatClampNeg)), (6, .int 0), (0, .ref h0), (1, .int 5), (2, .int p0), (3, .int p1), (4, .int 0), (5, .int 0)]) hx hb dX11_act_67 hl (by decide) rfl (fun ls hl => ?_)
  refine lv_iload_n hx hb dX11_act_69 rfl (lv_at hl 4 rfl) ?_
  have hPc := hP.sub (ws' := []) [] rfl
  have hDc := hD.sub (ws' := []) [] (by decide) rfl
  refine wGoi (wc := []) (wr := [(h2, .inl (K 0, 3600, .inl (fun _ => 0))), (h0, .inr (8, [.int 1, .int 0, .int (-1), .int 0, .int 0, .int (-1), .int 0, .int 0, .int 0, .int 0, .int 0, .ref h3, .ref h1, .ref h4, .ref h5, .ref h6, .ref h7, .ref h8, .ref h9, .ref h10, .ref h11, .ref h12, .ref h13, .ref h14, .ref h15, .ref h16, .ref h17, .ref h18, .ref h19, .ref h20, .int 0, .ref h21, .ref h22, .ref h23, .ref h24, .int 0, .int 0, .ref h25, .ref h26, .int (-1), .ref h2, .ref h27])), (h1, .inl (K 0, 9, .inl f1))]) (va_runSN (As := [.int 5]) (rest := []) ⟨hx, hb, hml, hown, hts⟩ (m_X12_numbers_2 l G K _) ⟨va_cnB (host := "MotionFloorModel") 1 hts (wGP t_ j_X12_numbers_2) rfl rfl rfl hE.2.2.2.2.2.2.2.2.2.2 (hw (.initialized RX12) (List.mem_of_getElem? (i := 9) rfl)) (by decide +kernel) ⟨Nat.le_of_ble_eq_true rfl, Nat.le_of_ble_eq_true rfl⟩, (hw (.static yX12_numbers) (List.mem_of_getElem? (i := 10) rfl)), trivial⟩ (wPS hK hE hPc hDc) rfl rfl hl.1 rfl (lv_room (Nat.le_of_ble_eq_true rfl)) dX11_act_70 ⟨Nat.le_of_ble_eq_true rfl, Nat.le_of_ble_eq_true rfl⟩) hP hD hS hA [] [0, 1, 2] rfl rfl rfl (by decide) (fun r u H locs hw hP hD hS => ?_)
  rcases hw with ⟨rfl, rfl⟩
  have hP : va_P G vwCl [(h2, .inl (K 0, 3600, .inl (fun _ => 0))), (h0, .inr (8, [.int 1, .int 0, .int (-1), .int 0, .int 0, .int (-1), .int 0, .int 0, .int 0, .int 0, .int 0, .ref h3, .ref h1, .ref h4, .ref h5, .ref h6, .ref h7, .ref h8, .ref h9, .ref h10, .ref h11, .ref h12, .ref h13, .ref h14, .ref h15, .ref h16, .ref h17, .ref h18, .ref h19, .ref h20, .int 0, .ref h21, .ref h22, .ref h23, .ref h24, .int 0, .int 0, .ref h25, .ref h26, .int (-1), .ref h2, .ref h27])), (h1, .inl (K 0, 9, .inl f1))] _ := hP
  have hD : va_D A [(h2, .inl (K 0, 3600, .inl (fun _ => 0))), (h0, .inr (8, [.int 1, .int 0, .int (-1), .int 0, .int 0, .int (-1), .int 0, .int 0, .int 0, .int 0, .int 0, .ref h3, .ref h1, .ref h4, .ref h5, .ref h6, .ref h7, .ref h8, .ref h9, .ref h10, .ref h11, .ref h12, .ref h13, .ref h14, .ref h15, .ref h16, .ref h17, .ref h18, .ref h19, .ref h20, .int 0, .ref h21, .ref h22, .ref h23, .ref h24, .int 0, .int 0, .ref h25, .ref h26, .int (-1), .ref h2, .ref h27])), (h1, .inl (K 0, 9, .inl f1))] := hD
  refine lv_istore (lv' := [(9, .int 2), (8, .int 0), (7, .int ((upd (fun _ => 1) 6 2) p0.toNatClampNeg)), (6, .int 0), (0, .ref h0), (1, .int 5), (2, .int p0), (3, .int p1), (4, .int 0), (5, .int 0)]) hx hb dX11_act_73 hl (by decide) rfl (fun ls hl => ?_)
  refine lv_aload_n hx hb dX11_act_75 rfl (lv_at hl 4 rfl) ?_
  refine va_get (D := G) (ci := 8) (v := .ref h2) (C := RX11) (T := TX11) (N := 42) hx hb hts iX11 hown hK hP 1 rfl rfl 40 (by decide) (hw (.fieldLink RX11 90 "MotionFloorModel$Hall" "minutes" "[I") (List.mem_of_getElem? (i := 11) rfl)) (fun _ h9 => h9) rfl dX11_act_76 ?_
  refine lv_iload hx hb dX11_act_79 (lv_at hl 1 rfl) ?_
  refine lv_iload_n hx hb dX11_act_81 rfl (lv_at hl 5 rfl) ?_
  refine va_iast hx hb hK hP hD hS 0 0 rfl rfl (vp_in_iff.mpr (by decide)) dX11_act_82 (fun H locs hP hD hS => ?_)
  have hP : va_P G vwCl [(h2, .inl (K 0, 3600, .inl (upd (fun _ => 0) 0 5))), (h0, .inr (8, [.int 1, .int 0, .int (-1), .int 0, .int 0, .int (-1), .int 0, .int 0, .int 0, .int 0, .int 0, .ref h3, .ref h1, .ref h4, .ref h5, .ref h6, .ref h7, .ref h8, .ref h9, .ref h10, .ref h11, .ref h12, .ref h13, .ref h14, .ref h15, .ref h16, .ref h17, .ref h18, .ref h19, .ref h20, .int 0, .ref h21, .ref h22, .ref h23, .ref h24, .int 0, .int 0, .ref h25, .ref h26, .int (-1), .ref h2, .ref h27])), (h1, .inl (K 0, 9, .inl f1))] _ := hP
  have hD : va_D A [(h2, .inl (K 0, 3600, .inl (upd (fun _ => 0) 0 5))), (h0, .inr (8, [.int 1, .int 0, .int (-1), .int 0, .int 0, .int (-1), .int 0, .int 0, .int 0, .int 0, .int 0, .ref h3, .ref h1, .ref h4, .ref h5, .ref h6, .ref h7, .ref h8, .ref h9, .ref h10, .ref h11, .ref h12, .ref h13, .ref h14, .ref h15, .ref h16, .ref h17, .ref h18, .ref h19, .ref h20, .int 0, .ref h21, .ref h22, .ref h23, .ref h24, .int 0, .int 0, .ref h25, .ref h26, .int (-1), .ref h2, .ref h27])), (h1, .inl (K 0, 9, .inl f1))] := hD
  refine lv_aload_n hx hb dX11_act_83 rfl (lv_at hl 4 rfl) ?_
  refine va_get (D := G) (ci := 8) (v := .ref h2) (C := RX11) (T := TX11) (N := 42) hx hb hts iX11 hown hK hP 1 rfl rfl 40 (by decide) (hw (.fieldLink RX11 90 "MotionFloorModel$Hall" "minutes" "[I") (List.mem_of_getElem? (i := 11) rfl)) (fun _ h9 => h9) rfl dX11_act_84 ?_
  refine lv_iload hx hb dX11_act_87 (lv_at hl 1 rfl) ?_
  refine lv_iconst (v := 1) hx hb dX11_act_89 (by decide) ?_
  refine lv_iadd hx hb dX11_act_90 ?_
  refine wTop (v1 := .int 1) (congrArg Value.int (by decide)) ?_
  refine lv_iload hx hb dX11_act_91 (lv_at hl 0 rfl) ?_
  refine lv_if_le (tgt := 100) hx hb dX11_act_93 (by decide) (fun c_ => absurd c_ (by decide)) (fun _ => ?_)
  refine lv_iload_n hx hb dX11_act_96 rfl (lv_at hl 6 rfl) ?_
  refine lv_goto (tgt := 101) hx hb dX11_act_97 (by decide) ?_
  refine va_iast hx hb hK hP hD hS 0 0 rfl rfl (vp_in_iff.mpr (by decide)) dX11_act_101 (fun H locs hP hD hS => ?_)
  have hP : va_P G vwCl [(h2, .inl (K 0, 3600, .inl (upd (upd (fun _ => 0) 0 5) 1 p0))), (h0, .inr (8, [.int 1, .int 0, .int (-1), .int 0, .int 0, .int (-1), .int 0, .int 0, .int 0, .int 0, .int 0, .ref h3, .ref h1, .ref h4, .ref h5, .ref h6, .ref h7, .ref h8, .ref h9, .ref h10, .ref h11, .ref h12, .ref h13, .ref h14, .ref h15, .ref h16, .ref h17, .ref h18, .ref h19, .ref h20, .int 0, .ref h21, .ref h22, .ref h23, .ref h24, .int 0, .int 0, .ref h25, .ref h26, .int (-1), .ref h2, .ref h27])), (h1, .inl (K 0, 9, .inl f1))] _ := hP
  have hD : va_D A [(h2, .inl (K 0, 3600, .inl (upd (upd (fun _ => 0) 0 5) 1 p0))), (h0, .inr (8, [.int 1, .int 0, .int (-1), .int 0, .int 0, .int (-1), .int 0, .int 0, .int 0, .int 0, .int 0, .ref h3, .ref h1, .ref h4, .ref h5, .ref h6, .ref h7, .ref h8, .ref h9, .ref h10, .ref h11, .ref h12, .ref h13, .ref h14, .ref h15, .ref h16, .ref h17, .ref h18, .ref h19, .ref h20, .int 0, .ref h21, .ref h22, .ref h23, .ref h24, .int 0, .int 0, .ref h25, .ref h26, .int (-1), .ref h2, .ref h27])), (h1, .inl (K 0, 9, .inl f1))] := hD
  refine lv_aload_n hx hb dX11_act_102 rfl (lv_at hl 4 rfl) ?_
  refine va_get (D := G) (ci := 8) (v := .ref h2) (C := RX11) (T := TX11) (N := 42) hx hb hts iX11 hown hK hP 1 rfl rfl 40 (by decide) (hw (.fieldLink RX11 90 "MotionFloorModel$Hall" "minutes" "[I") (List.mem_of_getElem? (i := 11) rfl)) (fun _ h9 => h9) rfl dX11_act_103 ?_
  refine lv_iload hx hb dX11_act_106 (lv_at hl 1 rfl) ?_
  refine lv_iconst (v := 2) hx hb dX11_act_108 (by decide) ?_
  refine lv_iadd hx hb dX11_act_109 ?_
  refine wTop (v1 := .int 2) (congrArg Value.int (by decide)) ?_
  refine lv_iload hx hb dX11_act_110 (lv_at hl 0 rfl) ?_
  refine lv_iconst (v := 1) hx hb dX11_act_112 (by decide) ?_
  refine lv_icmp_le (tgt := 120) hx hb dX11_act_113 (by decide) (fun c_ => absurd c_ (by decide)) (fun _ => ?_)
  refine lv_iload_n hx hb dX11_act_116 rfl (lv_at hl 7 rfl) ?_
  refine lv_goto (tgt := 121) hx hb dX11_act_117 (by decide) ?_
  refine va_iast hx hb hK hP hD hS 0 0 rfl rfl (vp_in_iff.mpr (by decide)) dX11_act_121 (fun H locs hP hD hS => ?_)
  have hP : va_P G vwCl [(h2, .inl (K 0, 3600, .inl (upd (upd (upd (fun _ => 0) 0 5) 1 p0) 2 p1))), (h0, .inr (8, [.int 1, .int 0, .int (-1), .int 0, .int 0, .int (-1), .int 0, .int 0, .int 0, .int 0, .int 0, .ref h3, .ref h1, .ref h4, .ref h5, .ref h6, .ref h7, .ref h8, .ref h9, .ref h10, .ref h11, .ref h12, .ref h13, .ref h14, .ref h15, .ref h16, .ref h17, .ref h18, .ref h19, .ref h20, .int 0, .ref h21, .ref h22, .ref h23, .ref h24, .int 0, .int 0, .ref h25, .ref h26, .int (-1), .ref h2, .ref h27])), (h1, .inl (K 0, 9, .inl f1))] _ := hP
  have hD : va_D A [(h2, .inl (K 0, 3600, .inl (upd (upd (upd (fun _ => 0) 0 5) 1 p0) 2 p1))), (h0, .inr (8, [.int 1, .int 0, .int (-1), .int 0, .int 0, .int (-1), .int 0, .int 0, .int 0, .int 0, .int 0, .ref h3, .ref h1, .ref h4, .ref h5, .ref h6, .ref h7, .ref h8, .ref h9, .ref h10, .ref h11, .ref h12, .ref h13, .ref h14, .ref h15, .ref h16, .ref h17, .ref h18, .ref h19, .ref h20, .int 0, .ref h21, .ref h22, .ref h23, .ref h24, .int 0, .int 0, .ref h25, .ref h26, .int (-1), .ref h2, .ref h27])), (h1, .inl (K 0, 9, .inl f1))] := hD
  refine lv_aload_n hx hb dX11_act_122 rfl (lv_at hl 4 rfl) ?_
  refine va_get (D := G) (ci := 8) (v := .ref h2) (C := RX11) (T := TX11) (N := 42) hx hb hts iX11 hown hK hP 1 rfl rfl 40 (by decide) (hw (.fieldLink RX11 90 "MotionFloorModel$Hall" "minutes" "[I") (List.mem_of_getElem? (i := 11) rfl)) (fun _ h9 => h9) rfl dX11_act_123 ?_
  refine lv_iload hx hb dX11_act_126 (lv_at hl 1 rfl) ?_
  refine lv_iconst (v := 3) hx hb dX11_act_128 (by decide) ?_
  refine lv_iadd hx hb dX11_act_129 ?_
  refine wTop (v1 := .int 3) (congrArg Value.int (by decide)) ?_
  refine lv_iload hx hb dX11_act_130 (lv_at hl 0 rfl) ?_
  refine lv_iconst (v := 2) hx hb dX11_act_132 (by decide) ?_
  refine lv_icmp_le (tgt := 141) hx hb dX11_act_133 (by decide) (fun _ => ?_) (fun c_ => absurd c_ (by decide))
  refine lv_iconst (v := 0) hx hb dX11_act_141 (by decide) ?_
  refine va_iast hx hb hK hP hD hS 0 0 rfl rfl (vp_in_iff.mpr (by decide)) dX11_act_142 (fun H locs hP hD hS => ?_)
  have hP : va_P G vwCl [(h2, .inl (K 0, 3600, .inl (upd (upd (upd (upd (fun _ => 0) 0 5) 1 p0) 2 p1) 3 0))), (h0, .inr (8, [.int 1, .int 0, .int (-1), .int 0, .int 0, .int (-1), .int 0, .int 0, .int 0, .int 0, .int 0, .ref h3, .ref h1, .ref h4, .ref h5, .ref h6, .ref h7, .ref h8, .ref h9, .ref h10, .ref h11, .ref h12, .ref h13, .ref h14, .ref h15, .ref h16, .ref h17, .ref h18, .ref h19, .ref h20, .int 0, .ref h21, .ref h22, .ref h23, .ref h24, .int 0, .int 0, .ref h25, .ref h26, .int (-1), .ref h2, .ref h27])), (h1, .inl (K 0, 9, .inl f1))] _ := hP
  have hD : va_D A [(h2, .inl (K 0, 3600, .inl (upd (upd (upd (upd (fun _ => 0) 0 5) 1 p0) 2 p1) 3 0))), (h0, .inr (8, [.int 1, .int 0, .int (-1), .int 0, .int 0, .int (-1), .int 0, .int 0, .int 0, .int 0, .int 0, .ref h3, .ref h1, .ref h4, .ref h5, .ref h6, .ref h7, .ref h8, .ref h9, .ref h10, .ref h11, .ref h12, .ref h13, .ref h14, .ref h15, .ref h16, .ref h17, .ref h18, .ref h19, .ref h20, .int 0, .ref h21, .ref h22, .ref h23, .ref h24, .int 0, .int 0, .ref h25, .ref h26, .int (-1), .ref h2, .ref h27])), (h1, .inl (K 0, 9, .inl f1))] := hD
  refine lv_aload_n hx hb dX11_act_143 rfl (lv_at hl 4 rfl) ?_
  refine va_get (D := G) (ci := 8) (v := .ref h2) (C := RX11) (T := TX11) (N := 42) hx hb hts iX11 hown hK hP 1 rfl rfl 40 (by decide) (hw (.fieldLink RX11 90 "MotionFloorModel$Hall" "minutes" "[I") (List.mem_of_getElem? (i := 11) rfl)) (fun _ h9 => h9) rfl dX11_act_144 ?_
  refine lv_iload hx hb dX11_act_147 (lv_at hl 1 rfl) ?_
  refine lv_iconst (v := 4) hx hb dX11_act_149 (by decide) ?_
  refine lv_iadd hx hb dX11_act_150 ?_
  refine wTop (v1 := .int 4) (congrArg Value.int (by decide)) ?_
  refine lv_iload hx hb dX11_act_151 (lv_at hl 0 rfl) ?_
  refine lv_iconst (v := 3) hx hb dX11_act_153 (by decide) ?_
  refine lv_icmp_le (tgt := 162) hx hb dX11_act_154 (by decide) (fun _ => ?_) (fun c_ => absurd c_ (by decide))
  refine lv_iconst (v := 0) hx hb dX11_act_162 (by decide) ?_
  refine va_iast hx hb hK hP hD hS 0 0 rfl rfl (vp_in_iff.mpr (by decide)) dX11_act_163 (fun H locs hP hD hS => ?_)
  have hP : va_P G vwCl [(h2, .inl (K 0, 3600, .inl (upd (upd (upd (upd (upd (fun _ => 0) 0 5) 1 p0) 2 p1) 3 0) 4 0))), (h0, .inr (8, [.int 1, .int 0, .int (-1), .int 0, .int 0, .int (-1), .int 0, .int 0, .int 0, .int 0, .int 0, .ref h3, .ref h1, .ref h4, .ref h5, .ref h6, .ref h7, .ref h8, .ref h9, .ref h10, .ref h11, .ref h12, .ref h13, .ref h14, .ref h15, .ref h16, .ref h17, .ref h18, .ref h19, .ref h20, .int 0, .ref h21, .ref h22, .ref h23, .ref h24, .int 0, .int 0, .ref h25, .ref h26, .int (-1), .ref h2, .ref h27])), (h1, .inl (K 0, 9, .inl f1))] _ := hP
  have hD : va_D A [(h2, .inl (K 0, 3600, .inl (upd (upd (upd (upd (upd (fun _ => 0) 0 5) 1 p0) 2 p1) 3 0) 4 0))), (h0, .inr (8, [.int 1, .int 0, .int (-1), .int 0, .int 0, .int (-1), .int 0, .int 0, .int 0, .int 0, .int 0, .ref h3, .ref h1, .ref h4, .ref h5, .ref h6, .ref h7, .ref h8, .ref h9, .ref h10, .ref h11, .ref h12, .ref h13, .ref h14, .ref h15, .ref h16, .ref h17, .ref h18, .ref h19, .ref h20, .int 0, .ref h21, .ref h22, .ref h23, .ref h24, .int 0, .int 0, .ref h25, .ref h26, .int (-1), .ref h2, .ref h27])), (h1, .inl (K 0, 9, .inl f1))] := hD
  refine lv_aload_n hx hb dX11_act_164 rfl (lv_at hl 4 rfl) ?_
  refine va_get (D := G) (ci := 8) (v := .ref h2) (C := RX11) (T := TX11) (N := 42) hx hb hts iX11 hown hK hP 1 rfl rfl 40 (by decide) (hw (.fieldLink RX11 90 "MotionFloorModel$Hall" "minutes" "[I") (List.mem_of_getElem? (i := 11) rfl)) (fun _ h9 => h9) rfl dX11_act_165 ?_
  refine lv_iload hx hb dX11_act_168 (lv_at hl 1 rfl) ?_
  refine lv_iconst (v := 5) hx hb dX11_act_170 (by decide) ?_
  refine lv_iadd hx hb dX11_act_171 ?_
  refine wTop (v1 := .int 5) (congrArg Value.int (by decide)) ?_
  refine lv_iload hx hb dX11_act_172 (lv_at hl 2 rfl) ?_
  refine va_iast hx hb hK hP hD hS 0 0 rfl rfl (vp_in_iff.mpr (by decide)) dX11_act_174 (fun H locs hP hD hS => ?_)
  have hP : va_P G vwCl [(h2, .inl (K 0, 3600, .inl (upd (upd (upd (upd (upd (upd (fun _ => 0) 0 5) 1 p0) 2 p1) 3 0) 4 0) 5 ((upd (fun _ => 1) 6 2) p0.toNatClampNeg)))), (h0, .inr (8, [.int 1, .int 0, .int (-1), .int 0, .int 0, .int (-1), .int 0, .int 0, .int 0, .int 0, .int 0, .ref h3, .ref h1, .ref h4, .ref h5, .ref h6, .ref h7, .ref h8, .ref h9, .ref h10, .ref h11, .ref h12, .ref h13, .ref h14, .ref h15, .ref h16, .ref h17, .ref h18, .ref h19, .ref h20, .int 0, .ref h21, .ref h22, .ref h23, .ref h24, .int 0, .int 0, .ref h25, .ref h26, .int (-1), .ref h2, .ref h27])), (h1, .inl (K 0, 9, .inl f1))] _ := hP
  have hD : va_D A [(h2, .inl (K 0, 3600, .inl (upd (upd (upd (upd (upd (upd (fun _ => 0) 0 5) 1 p0) 2 p1) 3 0) 4 0) 5 ((upd (fun _ => 1) 6 2) p0.toNatClampNeg)))), (h0, .inr (8, [.int 1, .int 0, .int (-1), .int 0, .int 0, .int (-1), .int 0, .int 0, .int 0, .int 0, .int 0, .ref h3, .ref h1, .ref h4, .ref h5, .ref h6, .ref h7, .ref h8, .ref h9, .ref h10, .ref h11, .ref h12, .ref h13, .ref h14, .ref h15, .ref h16, .ref h17, .ref h18, .ref h19, .ref h20, .int 0, .ref h21, .ref h22, .ref h23, .ref h24, .int 0, .int 0, .ref h25, .ref h26, .int (-1), .ref h2, .ref h27])), (h1, .inl (K 0, 9, .inl f1))] := hD
  refine lv_aload_n hx hb dX11_act_175 rfl (lv_at hl 4 rfl) ?_
  refine lv_dup hx hb dX11_act_176 rfl ?_
  refine va_get (D := G) (ci := 8) (v := .int 0) (C := RX11) (T := TX11) (N := 42) hx hb hts iX11 hown hK hP 1 rfl rfl 7 (by decide) (hw (.fieldLink RX11 118 "MotionFloorModel$Hall" "entries" "I") (List.mem_of_getElem? (i := 4) rfl)) (fun _ h9 => h9) rfl dX11_act_177 ?_
  refine lv_iconst (v := 1) hx hb dX11_act_180 (by decide) ?_
  refine lv_iadd hx hb dX11_act_181 ?_
  refine wTop (v1 := .int 1) (congrArg Value.int (by decide)) ?_
  refine va_put (D := G) (ci := 8) (v := .int 1) (ty := .int) (C := RX11) (T := TX11) (N := 42) hx hb hts iX11 tyX11 tyX11_ok nmX11 hown hK hP hD hS 1 rfl rfl 7 (by decide) (hw (.fieldLink RX11 118 "MotionFloorModel$Hall" "entries" "I") (List.mem_of_getElem? (i := 4) rfl)) (fun _ h9 => h9) rfl (by decide +kernel) rfl rfl (Nat.le_of_ble_eq_true rfl) dX11_act_182 (fun H locs hP hD hS => ?_)
  have hP : va_P G vwCl [(h2, .inl (K 0, 3600, .inl (upd (upd (upd (upd (upd (upd (fun _ => 0) 0 5) 1 p0) 2 p1) 3 0) 4 0) 5 ((upd (fun _ => 1) 6 2) p0.toNatClampNeg)))), (h0, .inr (8, [.int 1, .int 0, .int (-1), .int 0, .int 0, .int (-1), .int 0, .int 1, .int 0, .int 0, .int 0, .ref h3, .ref h1, .ref h4, .ref h5, .ref h6, .ref h7, .ref h8, .ref h9, .ref h10, .ref h11, .ref h12, .ref h13, .ref h14, .ref h15, .ref h16, .ref h17, .ref h18, .ref h19, .ref h20, .int 0, .ref h21, .ref h22, .ref h23, .ref h24, .int 0, .int 0, .ref h25, .ref h26, .int (-1), .ref h2, .ref h27])), (h1, .inl (K 0, 9, .inl f1))] _ := hP
  have hD : va_D A [(h2, .inl (K 0, 3600, .inl (upd (upd (upd (upd (upd (upd (fun _ => 0) 0 5) 1 p0) 2 p1) 3 0) 4 0) 5 ((upd (fun _ => 1) 6 2) p0.toNatClampNeg)))), (h0, .inr (8, [.int 1, .int 0, .int (-1), .int 0, .int 0, .int (-1), .int 0, .int 1, .int 0, .int 0, .int 0, .ref h3, .ref h1, .ref h4, .ref h5, .ref h6, .ref h7, .ref h8, .ref h9, .ref h10, .ref h11, .ref h12, .ref h13, .ref h14, .ref h15, .ref h16, .ref h17, .ref h18, .ref h19, .ref h20, .int 0, .ref h21, .ref h22, .ref h23, .ref h24, .int 0, .int 0, .ref h25, .ref h26, .int (-1), .ref h2, .ref h27])), (h1, .inl (K 0, 9, .inl f1))] := hD
  refine lv_iload hx hb dX11_act_185 (lv_at hl 2 rfl) ?_
  have hP9 := hP.sub (ws' := [(h0, .inr (8, [.int 1, .int 0, .int (-1), .int 0, .int 0, .int (-1), .int 0, .int 1, .int 0, .int 0, .int 0, .ref h3, .ref h1, .ref h4, .ref h5, .ref h6, .ref h7, .ref h8, .ref h9, .ref h10, .ref h11, .ref h12, .ref h13, .ref h14, .ref h15, .ref h16, .ref h17, .ref h18, .ref h19, .ref h20, .int 0, .ref h21, .ref h22, .ref h23, .ref h24, .int 0, .int 0, .ref h25, .ref h26, .int (-1), .ref h2, .ref h27])), (h1, .inl (K 0, 9, .inl f1)), (h2, .inl (K 0, 3600, .inl (upd (upd (upd (upd (upd (upd (fun _ => 0) 0 5) 1 p0) 2 p1) 3 0) 4 0) 5 ((upd (fun _ => 1) 6 2) p0.toNatClampNeg))))]) [1, 2, 0] rfl
  have hD9 := hD.sub (ws' := [(h0, .inr (8, [.int 1, .int 0, .int (-1), .int 0, .int 0, .int (-1), .int 0, .int 1, .int 0, .int 0, .int 0, .ref h3, .ref h1, .ref h4, .ref h5, .ref h6, .ref h7, .ref h8, .ref h9, .ref h10, .ref h11, .ref h12, .ref h13, .ref h14, .ref h15, .ref h16, .ref h17, .ref h18, .ref h19, .ref h20, .int 0, .ref h21, .ref h22, .ref h23, .ref h24, .int 0, .int 0, .ref h25, .ref h26, .int (-1), .ref h2, .ref h27])), (h1, .inl (K 0, 9, .inl f1)), (h2, .inl (K 0, 3600, .inl (upd (upd (upd (upd (upd (upd (fun _ => 0) 0 5) 1 p0) 2 p1) 3 0) 4 0) 5 ((upd (fun _ => 1) 6 2) p0.toNatClampNeg))))]) [1, 2, 0] (by decide) rfl
  exact W.iret (v := ((upd (fun _ => 1) 6 2) p0.toNatClampNeg)) hx hb hr (fun t ht hW => ⟨⟨((upd (fun _ => 1) 6 2) p0.toNatClampNeg), _, rfl, ⟨f1, rfl, rfl⟩, by rw [ht]; exact hP9, hD9⟩, hS.F ht⟩) hS.2.2 dX11_act_187
def e_X12_majority_1 : List Cond := [.fieldLink RX12 16 "MotionFloorModel" "hall" "LMotionFloorModel$Hall;", .methodLink RX12 40 yX11_act, .instanceMethod yX11_act, .selects RX11 yX11_act yX11_act, .initialized RX11]
def v_X12_majority_1 : List Cond := .code yX12_majority cX12_majority 3 (some .int) :: (e_X12_majority_1 ++ (wsX120 ++ (v_X11_act_9 ++ [])))
theorem te_X12_majority_1 : GoodIn lw_tbl e_X12_majority_1 := wGc z225 (wGc z368 (wGc z367 (wGc z366 (wGc z227 (wG0)))))
theorem t_X12_majority_1 : GoodIn lw_tbl v_X12_majority_1 := wGc z414 (wGa te_X12_majority_1 (wGa zcX12 (wGa t_X11_act_9 (wG0))))
set_option maxHeartbeats 4000000 in
set_option maxRecDepth 100000 in
theorem m_X12_majority_1 (l : Launch) (G : va_G) (K : Nat → ClassId) (h0 h1 h2 h3 h4 h5 h6 h7 h8 h9 h10 h11 h12 h13 h14 h15 h16 h17 h18 h19 h20 h21 h22 h23 h24 h25 h26 h27 h28 h29 h30 h31 h32 h33 : Nat) (p0 p1 : Int32) (sz : Nat) (bp0 : 1 ≤ p0.toInt ∧ p0.toInt ≤ 8) (bp1 : 1 ≤ p1.toInt ∧ p1.toInt ≤ 3) : Met l yX12_majority v_X12_majority_1 ({ frames := 3, cells := 0, slots := 0, locals := 76 }) (va_Pc [.ref h0, .int p0, .int p1] (wS G K sz [(h0, .inr (9, [.ref h1, .ref h4, .ref h5, .ref h6, .ref h7, .ref h8, .int 0])), (h1, .inr (8, [.int 1, .int 0, .int (-1), .int 0, .int 0, .int (-1), .int 0, .int 0, .int 0, .int 0, .int 0, .ref h9, .ref h2, .ref h10, .ref h11, .ref h12, .ref h13, .ref h14, .ref h15, .ref h16, .ref h17, .ref h18, .ref h19, .ref h20, .ref h21, .ref h22, .ref h23, .ref h24, .ref h25, .ref h26, .int 0, .ref h27, .ref h28, .ref h29, .ref h30, .int 0, .int 0, .ref h31, .ref h32, .int (-1), .ref h3, .ref h33])), (h2, .inl (K 0, 9, .inl (upd (fun _ => 1) 6 2))), (h3, .inl (K 0, 3600, .inl (fun _ => 0)))])) (va_Qi (fun (r : Int32) (u : va_W) => (∃ u0 : Nat → Int32, ((upd (fun _ => 1) 6 2) p0.toNatClampNeg) = r ∧ u = [(h0, .inr (9, [.ref h1, .ref h4, .ref h5, .ref h6, .ref h7, .ref h8, .int 0])), (h1, .inr (8, [.int 1, .int 0, .int (-1), .int 0, .int 0, .int (-1), .int 0, .int 1, .int 0, .int 0, .int 0, .ref h9, .ref h2, .ref h10, .ref h11, .ref h12, .ref h13, .ref h14, .ref h15, .ref h16, .ref h17, .ref h18, .ref h19, .ref h20, .ref h21, .ref h22, .ref h23, .ref h24, .ref h25, .ref h26, .int 0, .ref h27, .ref h28, .ref h29, .ref h30, .int 0, .int 0, .ref h31, .ref h32, .int (-1), .ref h3, .ref h33])), (h2, .inl (K 0, 9, .inl u0)), (h3, .inl (K 0, 3600, .inl (upd (upd (upd (upd (upd (upd (fun _ => 0) 0 5) 1 p0) 2 p1) 3 0) 4 0) 5 ((upd (fun _ => 1) 6 2) p0.toNatClampNeg))))])) (wB G (va_A [(h0, .inr (9, [.ref h1, .ref h4, .ref h5, .ref h6, .ref h7, .ref h8, .int 0])), (h1, .inr (8, [.int 1, .int 0, .int (-1), .int 0, .int 0, .int (-1), .int 0, .int 0, .int 0, .int 0, .int 0, .ref h9, .ref h2, .ref h10, .ref h11, .ref h12, .ref h13, .ref h14, .ref h15, .ref h16, .ref h17, .ref h18, .ref h19, .ref h20, .ref h21, .ref h22, .ref h23, .ref h24, .ref h25, .ref h26, .int 0, .ref h27, .ref h28, .ref h29, .ref h30, .int 0, .int 0, .ref h31, .ref h32, .int (-1), .ref h3, .ref h33])), (h2, .inl (K 0, 9, .inl (upd (fun _ => 1) 6 2))), (h3, .inl (K 0, 3600, .inl (fun _ => 0)))] sz)) (va_A [(h0, .inr (9, [.ref h1, .ref h4, .ref h5, .ref h6, .ref h7, .ref h8, .int 0])), (h1, .inr (8, [.int 1, .int 0, .int (-1), .int 0, .int 0, .int (-1), .int 0, .int 0, .int 0, .int 0, .int 0, .ref h9, .ref h2, .ref h10, .ref h11, .ref h12, .ref h13, .ref h14, .ref h15, .ref h16, .ref h17, .ref h18, .ref h19, .ref h20, .ref h21, .ref h22, .ref h23, .ref h24, .ref h25, .ref h26, .int 0, .ref h27, .ref h28, .ref h29, .ref h30, .int 0, .int 0, .ref h31, .ref h32, .int (-1), .ref h3, .ref h33])), (h2, .inl (K 0, 9, .inl (upd (fun _ => 1) 6 2))), (h3, .inl (K 0, 3600, .inl (fun _ => 0)))] sz)) 0 0 (va_A [(h0, .inr (9, [.ref h1, .ref h4, .ref h5, .ref h6, .ref h7, .ref h8, .int 0])), (h1, .inr (8, [.int 1, .int 0, .int (-1), .int 0, .int 0, .int (-1), .int 0, .int 0, .int 0, .int 0, .int 0, .ref h9, .ref h2, .ref h10, .ref h11, .ref h12, .ref h13, .ref h14, .ref h15, .ref h16, .ref h17, .ref h18, .ref h19, .ref h20, .ref h21, .ref h22, .ref h23, .ref h24, .ref h25, .ref h26, .int 0, .ref h27, .ref h28, .ref h29, .ref h30, .int 0, .int 0, .ref h31, .ref h32, .int (-1), .ref h3, .ref h33])), (h2, .inl (K 0, 9, .inl (upd (fun _ => 1) 6 2))), (h3, .inl (K 0, 3600, .inl (fun _ => 0)))] sz) := by
  refine Met.ofW (cc := cX12_majority) (maxL := 3) (ret := (some .int)) (by decide) rfl ?_
  intro p e s m args below meth c s₁ B hml hv
  obtain ⟨rfl, hsz, hP, hK, hD0, hE⟩ := hv
  have hx := B.exec
  have hb := B.bytes
  have hr := B.returns
  have hts := atoms_spec (ws := v_X12_majority_1) B.pre
  have t_ := t_X12_majority_1
  have mw : ∀ w ∈ e_X12_majority_1, w ∈ v_X12_majority_1 := fun w h => List.mem_cons_of_mem _ (List.mem_append_left _ h)
  have hw := fun w (h : w ∈ e_X12_majority_1) => hts w (mw w h)
  have iX12 : ∀ w ∈ wsX120, w ∈ v_X12_majority_1 := fun w h => List.mem_cons_of_mem _ (List.mem_append_right _ (List.mem_append_left _ h))
  have j_X11_act_9 : ∀ w ∈ v_X11_act_9, w ∈ v_X12_majority_1 := fun w h => List.mem_cons_of_mem _ (List.mem_append_right _ (List.mem_append_right _ (List.mem_append_left _ h)))
  have hown : s.vm.findClass RX12 = some m.cls := findClass_of_methodNamed B.named
  have hlocks := B.notSynchronized
  subst hsz
  have hD := hD0.self (sz := s.heap.size)
  generalize hAe : va_A [(h0, .inr (9, [.ref h1, .ref h4, .ref h5, .ref h6, .ref h7, .ref h8, .int 0])), (h1, .inr (8, [.int 1, .int 0, .int (-1), .int 0, .int 0, .int (-1), .int 0, .int 0, .int 0, .int 0, .int 0, .ref h9, .ref h2, .ref h10, .ref h11, .ref h12, .ref h13, .ref h14, .ref h15, .ref h16, .ref h17, .ref h18, .ref h19, .ref h20, .ref h21, .ref h22, .ref h23, .ref h24, .ref h25, .ref h26, .int 0, .ref h27, .ref h28, .ref h29, .ref h30, .int 0, .int 0, .ref h31, .ref h32, .int (-1), .ref h3, .ref h33])), (h2, .inl (K 0, 9, .inl (upd (fun _ => 1) 6 2))), (h3, .inl (K 0, 3600, .inl (fun _ => 0)))] s.heap.size = A at hD ⊢
  have hA : ∀ q : Nat, s.heap.size ≤ q → A q := fun q h => by rw [← hAe]; exact Or.inr h
  have hS : va_S A s.heap s.heap [] := va_S.rf
  have hP : va_P G vwCl [(h0, .inr (9, [.ref h1, .ref h4, .ref h5, .ref h6, .ref h7, .ref h8, .int 0])), (h1, .inr (8, [.int 1, .int 0, .int (-1), .int 0, .int 0, .int (-1), .int 0, .int 0, .int 0, .int 0, .int 0, .ref h9, .ref h2, .ref h10, .ref h11, .ref h12, .ref h13, .ref h14, .ref h15, .ref h16, .ref h17, .ref h18, .ref h19, .ref h20, .ref h21, .ref h22, .ref h23, .ref h24, .ref h25, .ref h26, .int 0, .ref h27, .ref h28, .ref h29, .ref h30, .int 0, .int 0, .ref h31, .ref h32, .int (-1), .ref h3, .ref h33])), (h2, .inl (K 0, 9, .inl (upd (fun _ => 1) 6 2))), (h3, .inl (K 0, 3600, .inl (fun _ => 0)))] s.heap := hP
  have hl := lv_entry ([.ref h0, .int p0, .int p1]) (n := 3) (Nat.le_of_ble_eq_true rfl)
  rw [lg_entry_eq]
  generalize (lg_sl ([.ref h0, .int p0, .int p1]) ++ List.replicate (3 - (lg_sl ([.ref h0, .int p0, .int p1])).length) Slot.unset).toArray = ls at hl ⊢
  have hl : lv_has ls 3 [(0, .ref h0), (1, .int p0), (2, .int p1)] := hl
  refine lv_aload_n hx hb dX12_majority_0 rfl (lv_at hl 0 rfl) ?_
  refine va_get (D := G) (ci := 9) (v := .ref h1) (C := RX12) (T := TX12) (N := 7) hx hb hts iX12 hown hK hP 0 rfl rfl 0 (by decide) (hw (.fieldLink RX12 16 "MotionFloorModel" "hall" "LMotionFloorModel$Hall;") (List.mem_of_getElem? (i := 0) rfl)) (fun _ h9 => h9) rfl dX12_majority_1 ?_
  refine lv_iconst (v := 5) hx hb dX12_majority_4 (by decide) ?_
  refine lv_iload_n hx hb dX12_majority_5 rfl (lv_at hl 1 rfl) ?_
  refine lv_iload_n hx hb dX12_majority_6 rfl (lv_at hl 2 rfl) ?_
  refine lv_iconst (v := 0) hx hb dX12_majority_7 (by decide) ?_
  refine lv_iconst (v := 0) hx hb dX12_majority_8 (by decide) ?_
  have hPc := hP.sub (ws' := [(h1, .inr (8, [.int 1, .int 0, .int (-1), .int 0, .int 0, .int (-1), .int 0, .int 0, .int 0, .int 0, .int 0, .ref h9, .ref h2, .ref h10, .ref h11, .ref h12, .ref h13, .ref h14, .ref h15, .ref h16, .ref h17, .ref h18, .ref h19, .ref h20, .ref h21, .ref h22, .ref h23, .ref h24, .ref h25, .ref h26, .int 0, .ref h27, .ref h28, .ref h29, .ref h30, .int 0, .int 0, .ref h31, .ref h32, .int (-1), .ref h3, .ref h33])), (h2, .inl (K 0, 9, .inl (upd (fun _ => 1) 6 2))), (h3, .inl (K 0, 3600, .inl (fun _ => 0)))]) [1, 2, 3] rfl
  have hDc := hD.sub (ws' := [(h1, .inr (8, [.int 1, .int 0, .int (-1), .int 0, .int 0, .int (-1), .int 0, .int 0, .int 0, .int 0, .int 0, .ref h9, .ref h2, .ref h10, .ref h11, .ref h12, .ref h13, .ref h14, .ref h15, .ref h16, .ref h17, .ref h18, .ref h19, .ref h20, .ref h21, .ref h22, .ref h23, .ref h24, .ref h25, .ref h26, .int 0, .ref h27, .ref h28, .ref h29, .ref h30, .int 0, .int 0, .ref h31, .ref h32, .int (-1), .ref h3, .ref h33])), (h2, .inl (K 0, 9, .inl (upd (fun _ => 1) 6 2))), (h3, .inl (K 0, 3600, .inl (fun _ => 0)))]) [1, 2, 3] (by decide) rfl
  refine wGoi (wc := [(h1, .inr (8, [.int 1, .int 0, .int (-1), .int 0, .int 0, .int (-1), .int 0, .int 0, .int 0, .int 0, .int 0, .ref h9, .ref h2, .ref h10, .ref h11, .ref h12, .ref h13, .ref h14, .ref h15, .ref h16, .ref h17, .ref h18, .ref h19, .ref h20, .ref h21, .ref h22, .ref h23, .ref h24, .ref h25, .ref h26, .int 0, .ref h27, .ref h28, .ref h29, .ref h30, .int 0, .int 0, .ref h31, .ref h32, .int (-1), .ref h3, .ref h33])), (h2, .inl (K 0, 9, .inl (upd (fun _ => 1) 6 2))), (h3, .inl (K 0, 3600, .inl (fun _ => 0)))]) (wr := [(h0, .inr (9, [.ref h1, .ref h4, .ref h5, .ref h6, .ref h7, .ref h8, .int 0]))]) (va_runV (As := [.int 5, .int p0, .int p1, .int 0, .int 0]) (rest := []) ⟨hx, hb, hml, hown, hts⟩ (m_X11_act_9 l G K h1 h2 h3 h9 h10 h11 h12 h13 h14 h15 h16 h17 h18 h19 h20 h21 h22 h23 h24 h25 h26 h27 h28 h29 h30 h31 h32 h33 p0 p1 _ (by omega) (by omega)) (cwV 5 hts (wGV t_ (mw (.methodLink RX12 40 yX11_act) (List.mem_of_getElem? (i := 1) rfl)) (mw (.instanceMethod yX11_act) (List.mem_of_getElem? (i := 2) rfl)) (mw (.selects RX11 yX11_act yX11_act) (List.mem_of_getElem? (i := 3) rfl)) (mw (.initialized RX11) (List.mem_of_getElem? (i := 4) rfl)) j_X11_act_9) rfl rfl rfl (by decide +kernel) ⟨Nat.le_of_ble_eq_true rfl, Nat.le_of_ble_eq_true rfl⟩) (wPV hK hE hPc hDc 8 0 rfl rfl) rfl rfl hl.1 rfl (lv_room (Nat.le_of_ble_eq_true rfl)) dX12_majority_9 ⟨Nat.le_of_ble_eq_true rfl, Nat.le_of_ble_eq_true rfl⟩) hP hD hS hA [1, 2, 3] [0] rfl rfl rfl (by decide) (fun r u H locs hw hP hD hS => ?_)
  rcases hw with ⟨f1, rfl, rfl⟩
  have hP : va_P G vwCl [(h0, .inr (9, [.ref h1, .ref h4, .ref h5, .ref h6, .ref h7, .ref h8, .int 0])), (h1, .inr (8, [.int 1, .int 0, .int (-1), .int 0, .int 0, .int (-1), .int 0, .int 1, .int 0, .int 0, .int 0, .ref h9, .ref h2, .ref h10, .ref h11, .ref h12, .ref h13, .ref h14, .ref h15, .ref h16, .ref h17, .ref h18, .ref h19, .ref h20, .ref h21, .ref h22, .ref h23, .ref h24, .ref h25, .ref h26, .int 0, .ref h27, .ref h28, .ref h29, .ref h30, .int 0, .int 0, .ref h31, .ref h32, .int (-1), .ref h3, .ref h33])), (h2, .inl (K 0, 9, .inl f1)), (h3, .inl (K 0, 3600, .inl (upd (upd (upd (upd (upd (upd (fun _ => 0) 0 5) 1 p0) 2 p1) 3 0) 4 0) 5 ((upd (fun _ => 1) 6 2) p0.toNatClampNeg))))] _ := hP
  have hD : va_D A [(h0, .inr (9, [.ref h1, .ref h4, .ref h5, .ref h6, .ref h7, .ref h8, .int 0])), (h1, .inr (8, [.int 1, .int 0, .int (-1), .int 0, .int 0, .int (-1), .int 0, .int 1, .int 0, .int 0, .int 0, .ref h9, .ref h2, .ref h10, .ref h11, .ref h12, .ref h13, .ref h14, .ref h15, .ref h16, .ref h17, .ref h18, .ref h19, .ref h20, .ref h21, .ref h22, .ref h23, .ref h24, .ref h25, .ref h26, .int 0, .ref h27, .ref h28, .ref h29, .ref h30, .int 0, .int 0, .ref h31, .ref h32, .int (-1), .ref h3, .ref h33])), (h2, .inl (K 0, 9, .inl f1)), (h3, .inl (K 0, 3600, .inl (upd (upd (upd (upd (upd (upd (fun _ => 0) 0 5) 1 p0) 2 p1) 3 0) 4 0) 5 ((upd (fun _ => 1) 6 2) p0.toNatClampNeg))))] := hD
  have hP9 : va_P G vwCl [(h0, .inr (9, [.ref h1, .ref h4, .ref h5, .ref h6, .ref h7, .ref h8, .int 0])), (h1, .inr (8, [.int 1, .int 0, .int (-1), .int 0, .int 0, .int (-1), .int 0, .int 1, .int 0, .int 0, .int 0, .ref h9, .ref h2, .ref h10, .ref h11, .ref h12, .ref h13, .ref h14, .ref h15, .ref h16, .ref h17, .ref h18, .ref h19, .ref h20, .ref h21, .ref h22, .ref h23, .ref h24, .ref h25, .ref h26, .int 0, .ref h27, .ref h28, .ref h29, .ref h30, .int 0, .int 0, .ref h31, .ref h32, .int (-1), .ref h3, .ref h33])), (h2, .inl (K 0, 9, .inl f1)), (h3, .inl (K 0, 3600, .inl (upd (upd (upd (upd (upd (upd (fun _ => 0) 0 5) 1 p0) 2 p1) 3 0) 4 0) 5 ((upd (fun _ => 1) 6 2) p0.toNatClampNeg))))] _ := hP
  have hD9 : va_D A [(h0, .inr (9, [.ref h1, .ref h4, .ref h5, .ref h6, .ref h7, .ref h8, .int 0])), (h1, .inr (8, [.int 1, .int 0, .int (-1), .int 0, .int 0, .int (-1), .int 0, .int 1, .int 0, .int 0, .int 0, .ref h9, .ref h2, .ref h10, .ref h11, .ref h12, .ref h13, .ref h14, .ref h15, .ref h16, .ref h17, .ref h18, .ref h19, .ref h20, .ref h21, .ref h22, .ref h23, .ref h24, .ref h25, .ref h26, .int 0, .ref h27, .ref h28, .ref h29, .ref h30, .int 0, .int 0, .ref h31, .ref h32, .int (-1), .ref h3, .ref h33])), (h2, .inl (K 0, 9, .inl f1)), (h3, .inl (K 0, 3600, .inl (upd (upd (upd (upd (upd (upd (fun _ => 0) 0 5) 1 p0) 2 p1) 3 0) 4 0) 5 ((upd (fun _ => 1) 6 2) p0.toNatClampNeg))))] := hD
  exact W.iret (v := ((upd (fun _ => 1) 6 2) p0.toNatClampNeg)) hx hb hr (fun t ht hW => ⟨⟨((upd (fun _ => 1) 6 2) p0.toNatClampNeg), _, rfl, ⟨f1, rfl, rfl⟩, by rw [ht]; exact hP9, hD9⟩, hS.F ht⟩) hS.2.2 dX12_majority_12
def e_X8_againstOnFloor_5 : List Cond := [.methodLink RX8 45 yX8_againstSetting, .static yX8_againstSetting, .initialized RX8]
def v_X8_againstOnFloor_5 : List Cond := .code yX8_againstOnFloor cX8_againstOnFloor 4 (some .int) :: (e_X8_againstOnFloor_5 ++ (v_X8_againstSetting_0 ++ (v_X8_againstSetting_1 ++ [])))
theorem te_X8_againstOnFloor_5 : GoodIn lw_tbl e_X8_againstOnFloor_5 := wGc z391 (wGc z390 (wGc z297 (wG0)))
theorem t_X8_againstOnFloor_5 : GoodIn lw_tbl v_X8_againstOnFloor_5 := wGc z301 (wGa te_X8_againstOnFloor_5 (wGa t_X8_againstSetting_0 (wGa t_X8_againstSetting_1 (wG0))))
set_option maxHeartbeats 4000000 in
set_option maxRecDepth 100000 in
theorem m_X8_againstOnFloor_5 (l : Launch) (G : va_G) (K : Nat → ClassId) (h0 h1 h2 h3 h4 h5 h6 h7 h8 : Nat) (p0 : Int32) (sz : Nat) : Met l yX8_againstOnFloor v_X8_againstOnFloor_5 ({ frames := 1, cells := 0, slots := 0, locals := 21 }) (va_Pc [.ref h0, .int 6, .int p0, .int 0] (wS G K sz [(h0, .inr (0, [.ref h2, .ref h1, .ref h3, .ref h4, .ref h5, .ref h6, .ref h7, .int 0, .int 0, .int 0, .null])), (h1, .inr (4, [.ref h8, .int 0]))])) (va_Qi (fun (r : Int32) (u : va_W) => ((p0.toInt < 0 ∨ (p0.toInt ≥ 0 ∧ p0.toInt > 99)) ∧ 9 = r ∧ u = [(h0, .inr (0, [.ref h2, .ref h1, .ref h3, .ref h4, .ref h5, .ref h6, .ref h7, .int 0, .int 0, .int 0, .null])), (h1, .inr (4, [.ref h8, .int 0]))]) ∨ (((p0.toInt ≥ 0 ∧ p0.toInt ≤ 99)) ∧ 0 = r ∧ u = [(h0, .inr (0, [.ref h2, .ref h1, .ref h3, .ref h4, .ref h5, .ref h6, .ref h7, .int 0, .int 0, .int 0, .null])), (h1, .inr (4, [.ref h8, .int 0]))])) (wB G (va_A [(h0, .inr (0, [.ref h2, .ref h1, .ref h3, .ref h4, .ref h5, .ref h6, .ref h7, .int 0, .int 0, .int 0, .null])), (h1, .inr (4, [.ref h8, .int 0]))] sz)) (va_A [(h0, .inr (0, [.ref h2, .ref h1, .ref h3, .ref h4, .ref h5, .ref h6, .ref h7, .int 0, .int 0, .int 0, .null])), (h1, .inr (4, [.ref h8, .int 0]))] sz)) 0 0 (va_A [(h0, .inr (0, [.ref h2, .ref h1, .ref h3, .ref h4, .ref h5, .ref h6, .ref h7, .int 0, .int 0, .int 0, .null])), (h1, .inr (4, [.ref h8, .int 0]))] sz) := by
  refine Met.ofW (cc := cX8_againstOnFloor) (maxL := 4) (ret := (some .int)) (by decide) rfl ?_
  intro p e s m args below meth c s₁ B hml hv
  obtain ⟨rfl, hsz, hP, hK, hD0, hE⟩ := hv
  have hx := B.exec
  have hb := B.bytes
  have hr := B.returns
  have hts := atoms_spec (ws := v_X8_againstOnFloor_5) B.pre
  have t_ := t_X8_againstOnFloor_5
  have mw : ∀ w ∈ e_X8_againstOnFloor_5, w ∈ v_X8_againstOnFloor_5 := fun w h => List.mem_cons_of_mem _ (List.mem_append_left _ h)
  have hw := fun w (h : w ∈ e_X8_againstOnFloor_5) => hts w (mw w h)
  have j_X8_againstSetting_0 : ∀ w ∈ v_X8_againstSetting_0, w ∈ v_X8_againstOnFloor_5 := fun w h => List.mem_cons_of_mem _ (List.mem_append_right _ (List.mem_append_left _ h))
  have j_X8_againstSetting_1 : ∀ w ∈ v_X8_againstSetting_1, w ∈ v_X8_againstOnFloor_5 := fun w h => List.mem_cons_of_mem _ (List.mem_append_right _ (List.mem_append_right _ (List.mem_append_left _ h)))
  have hown : s.vm.findClass RX8 = some m.cls := findClass_of_methodNamed B.named
  have hlocks := B.notSynchronized
  subst hsz
  have hD := hD0.self (sz := s.heap.size)
  generalize hAe : va_A [(h0, .inr (0, [.ref h2, .ref h1, .ref h3, .ref h4, .ref h5, .ref h6, .ref h7, .int 0, .int 0, .int 0, .null])), (h1, .inr (4, [.ref h8, .int 0]))] s.heap.size = A at hD ⊢
  have hA : ∀ q : Nat, s.heap.size ≤ q → A q := fun q h => by rw [← hAe]; exact Or.inr h
  have hS : va_S A s.heap s.heap [] := va_S.rf
  have hP : va_P G vwCl [(h0, .inr (0, [.ref h2, .ref h1, .ref h3, .ref h4, .ref h5, .ref h6, .ref h7, .int 0, .int 0, .int 0, .null])), (h1, .inr (4, [.ref h8, .int 0]))] s.heap := hP
  have hl := lv_entry ([.ref h0, .int 6, .int p0, .int 0]) (n := 4) (Nat.le_of_ble_eq_true rfl)
  rw [lg_entry_eq]
  generalize (lg_sl ([.ref h0, .int 6, .int p0, .int 0]) ++ List.replicate (4 - (lg_sl ([.ref h0, .int 6, .int p0, .int 0])).length) Slot.unset).toArray = ls at hl ⊢
  have hl : lv_has ls 4 [(0, .ref h0), (1, .int 6), (2, .int p0), (3, .int 0)] := hl
  refine lv_iload_n hx hb dX8_againstOnFloor_0 rfl (lv_at hl 1 rfl) ?_
  refine lv_tableIn (off := 130) (tgt := 131) hx hb dX8_againstOnFloor_1 (by decide) (by decide) (by decide) (by decide) ?_
  refine lv_aload_n hx hb dX8_againstOnFloor_131 rfl (lv_at hl 0 rfl) ?_
  refine lv_iload_n hx hb dX8_againstOnFloor_132 rfl (lv_at hl 2 rfl) ?_
  refine lv_if_lt (tgt := 146) hx hb dX8_againstOnFloor_133 (by decide) (fun c1 => ?_) (fun c1 => ?_)
  · have c1 : p0.toInt < 0 := wLt rfl (by decide) c1
    refine lv_iconst (v := 0) hx hb dX8_againstOnFloor_146 (by decide) ?_
    have hPc := hP.sub (ws' := []) [] rfl
    have hDc := hD.sub (ws' := []) [] (by decide) rfl
    refine wGoi (wc := []) (wr := [(h0, .inr (0, [.ref h2, .ref h1, .ref h3, .ref h4, .ref h5, .ref h6, .ref h7, .int 0, .int 0, .int 0, .null])), (h1, .inr (4, [.ref h8, .int 0]))]) (va_runS (As := [.ref h0, .int 0]) (rest := []) ⟨hx, hb, hml, hown, hts⟩ (m_X8_againstSetting_0 l G K h0 _) (va_cwS 2 hts (wGS t_ (mw (.methodLink RX8 45 yX8_againstSetting) (List.mem_of_getElem? (i := 0) rfl)) (mw (.static yX8_againstSetting) (List.mem_of_getElem? (i := 1) rfl)) (mw (.initialized RX8) (List.mem_of_getElem? (i := 2) rfl)) j_X8_againstSetting_0) rfl rfl rfl (by decide +kernel) ⟨Nat.le_of_ble_eq_true rfl, Nat.le_of_ble_eq_true rfl⟩) (wPS hK hE hPc hDc) rfl rfl hl.1 rfl (lv_room (Nat.le_of_ble_eq_true rfl)) dX8_againstOnFloor_147 ⟨Nat.le_of_ble_eq_true rfl, Nat.le_of_ble_eq_true rfl⟩) hP hD hS hA [] [0, 1] rfl rfl rfl (by decide) (fun r u H locs hw hP hD hS => ?_)
    rcases hw with ⟨rfl, rfl⟩
    have hP : va_P G vwCl [(h0, .inr (0, [.ref h2, .ref h1, .ref h3, .ref h4, .ref h5, .ref h6, .ref h7, .int 0, .int 0, .int 0, .null])), (h1, .inr (4, [.ref h8, .int 0]))] _ := hP
    have hD : va_D A [(h0, .inr (0, [.ref h2, .ref h1, .ref h3, .ref h4, .ref h5, .ref h6, .ref h7, .int 0, .int 0, .int 0, .null])), (h1, .inr (4, [.ref h8, .int 0]))] := hD
    have hP9 : va_P G vwCl [(h0, .inr (0, [.ref h2, .ref h1, .ref h3, .ref h4, .ref h5, .ref h6, .ref h7, .int 0, .int 0, .int 0, .null])), (h1, .inr (4, [.ref h8, .int 0]))] _ := hP
    have hD9 : va_D A [(h0, .inr (0, [.ref h2, .ref h1, .ref h3, .ref h4, .ref h5, .ref h6, .ref h7, .int 0, .int 0, .int 0, .null])), (h1, .inr (4, [.ref h8, .int 0]))] := hD
    exact W.iret (v := 9) hx hb hr (fun t ht hW => ⟨⟨9, _, rfl, Or.inl ⟨(by first | omega | decide | simp), rfl, rfl⟩, by rw [ht]; exact hP9, hD9⟩, hS.F ht⟩) hS.2.2 dX8_againstOnFloor_150
  · have c1 : p0.toInt ≥ 0 := wNlt rfl (by decide) c1
    refine lv_iload_n hx hb dX8_againstOnFloor_136 rfl (lv_at hl 2 rfl) ?_
    refine lv_bipush (v := 99) hx hb dX8_againstOnFloor_137 (by decide) ?_
    refine lv_icmp_gt (tgt := 146) hx hb dX8_againstOnFloor_139 (by decide) (fun c2 => ?_) (fun c2 => ?_)
    · have c2 : 99 < p0.toInt := wLt (by decide) rfl c2
      refine lv_iconst (v := 0) hx hb dX8_againstOnFloor_146 (by decide) ?_
      have hPc := hP.sub (ws' := []) [] rfl
      have hDc := hD.sub (ws' := []) [] (by decide) rfl
      refine wGoi (wc := []) (wr := [(h0, .inr (0, [.ref h2, .ref h1, .ref h3, .ref h4, .ref h5, .ref h6, .ref h7, .int 0, .int 0, .int 0, .null])), (h1, .inr (4, [.ref h8, .int 0]))]) (va_runS (As := [.ref h0, .int 0]) (rest := []) ⟨hx, hb, hml, hown, hts⟩ (m_X8_againstSetting_0 l G K h0 _) (va_cwS 2 hts (wGS t_ (mw (.methodLink RX8 45 yX8_againstSetting) (List.mem_of_getElem? (i := 0) rfl)) (mw (.static yX8_againstSetting) (List.mem_of_getElem? (i := 1) rfl)) (mw (.initialized RX8) (List.mem_of_getElem? (i := 2) rfl)) j_X8_againstSetting_0) rfl rfl rfl (by decide +kernel) ⟨Nat.le_of_ble_eq_true rfl, Nat.le_of_ble_eq_true rfl⟩) (wPS hK hE hPc hDc) rfl rfl hl.1 rfl (lv_room (Nat.le_of_ble_eq_true rfl)) dX8_againstOnFloor_147 ⟨Nat.le_of_ble_eq_true rfl, Nat.le_of_ble_eq_true rfl⟩) hP hD hS hA [] [0, 1] rfl rfl rfl (by decide) (fun r u H locs hw hP hD hS => ?_)
      rcases hw with ⟨rfl, rfl⟩
      have hP : va_P G vwCl [(h0, .inr (0, [.ref h2, .ref h1, .ref h3, .ref h4, .ref h5, .ref h6, .ref h7, .int 0, .int 0, .int 0, .null])), (h1, .inr (4, [.ref h8, .int 0]))] _ := hP
      have hD : va_D A [(h0, .inr (0, [.ref h2, .ref h1, .ref h3, .ref h4, .ref h5, .ref h6, .ref h7, .int 0, .int 0, .int 0, .null])), (h1, .inr (4, [.ref h8, .int 0]))] := hD
      have hP9 : va_P G vwCl [(h0, .inr (0, [.ref h2, .ref h1, .ref h3, .ref h4, .ref h5, .ref h6, .ref h7, .int 0, .int 0, .int 0, .null])), (h1, .inr (4, [.ref h8, .int 0]))] _ := hP
      have hD9 : va_D A [(h0, .inr (0, [.ref h2, .ref h1, .ref h3, .ref h4, .ref h5, .ref h6, .ref h7, .int 0, .int 0, .int 0, .null])), (h1, .inr (4, [.ref h8, .int 0]))] := hD
      exact W.iret (v := 9) hx hb hr (fun t ht hW => ⟨⟨9, _, rfl, Or.inl ⟨(by first | omega | decide | simp), rfl, rfl⟩, by rw [ht]; exact hP9, hD9⟩, hS.F ht⟩) hS.2.2 dX8_againstOnFloor_150
    · have c2 : 99 ≥ p0.toInt := wNlt (by decide) rfl c2
      refine lv_iconst (v := 1) hx hb dX8_againstOnFloor_142 (by decide) ?_
      refine lv_goto (tgt := 147) hx hb dX8_againstOnFloor_143 (by decide) ?_
      have hPc := hP.sub (ws' := [(h0, .inr (0, [.ref h2, .ref h1, .ref h3, .ref h4, .ref h5, .ref h6, .ref h7, .int 0, .int 0, .int 0, .null])), (h1, .inr (4, [.ref h8, .int 0]))]) [0, 1] rfl
      have hDc := hD.sub (ws' := [(h0, .inr (0, [.ref h2, .ref h1, .ref h3, .ref h4, .ref h5, .ref h6, .ref h7, .int 0, .int 0, .int 0, .null])), (h1, .inr (4, [.ref h8, .int 0]))]) [0, 1] (by decide) rfl
      refine wGoi (wc := [(h0, .inr (0, [.ref h2, .ref h1, .ref h3, .ref h4, .ref h5, .ref h6, .ref h7, .int 0, .int 0, .int 0, .null])), (h1, .inr (4, [.ref h8, .int 0]))]) (wr := []) (va_runS (As := [.ref h0, .int 1]) (rest := []) ⟨hx, hb, hml, hown, hts⟩ (m_X8_againstSetting_1 l G K h0 h1 h2 h3 h4 h5 h6 h7 h8 _) (va_cwS 2 hts (wGS t_ (mw (.methodLink RX8 45 yX8_againstSetting) (List.mem_of_getElem? (i := 0) rfl)) (mw (.static yX8_againstSetting) (List.mem_of_getElem? (i := 1) rfl)) (mw (.initialized RX8) (List.mem_of_getElem? (i := 2) rfl)) j_X8_againstSetting_1) rfl rfl rfl (by decide +kernel) ⟨Nat.le_of_ble_eq_true rfl, Nat.le_of_ble_eq_true rfl⟩) (wPS hK hE hPc hDc) rfl rfl hl.1 rfl (lv_room (Nat.le_of_ble_eq_true rfl)) dX8_againstOnFloor_147 ⟨Nat.le_of_ble_eq_true rfl, Nat.le_of_ble_eq_true rfl⟩) hP hD hS hA [0, 1] [] rfl rfl rfl (by decide) (fun r u H locs hw hP hD hS => ?_)
      rcases hw with ⟨rfl, rfl⟩
      have hP : va_P G vwCl [(h0, .inr (0, [.ref h2, .ref h1, .ref h3, .ref h4, .ref h5, .ref h6, .ref h7, .int 0, .int 0, .int 0, .null])), (h1, .inr (4, [.ref h8, .int 0]))] _ := hP
      have hD : va_D A [(h0, .inr (0, [.ref h2, .ref h1, .ref h3, .ref h4, .ref h5, .ref h6, .ref h7, .int 0, .int 0, .int 0, .null])), (h1, .inr (4, [.ref h8, .int 0]))] := hD
      have hP9 : va_P G vwCl [(h0, .inr (0, [.ref h2, .ref h1, .ref h3, .ref h4, .ref h5, .ref h6, .ref h7, .int 0, .int 0, .int 0, .null])), (h1, .inr (4, [.ref h8, .int 0]))] _ := hP
      have hD9 : va_D A [(h0, .inr (0, [.ref h2, .ref h1, .ref h3, .ref h4, .ref h5, .ref h6, .ref h7, .int 0, .int 0, .int 0, .null])), (h1, .inr (4, [.ref h8, .int 0]))] := hD
      exact W.iret (v := 0) hx hb hr (fun t ht hW => ⟨⟨0, _, rfl, Or.inr (⟨(by first | omega | decide | simp), rfl, rfl⟩), by rw [ht]; exact hP9, hD9⟩, hS.F ht⟩) hS.2.2 dX8_againstOnFloor_150
def e_X8_against_5 : List Cond := [.methodLink RX8 9 yX8_againstOnFloor, .static yX8_againstOnFloor, .initialized RX8, .fieldLink RX8 22 "MotionFloor$Assembly" "minutes" "LMotionFloor$Ledger;", .methodLink RX8 28 yX3_isFull, .instanceMethod yX3_isFull, .selects RX3 yX3_isFull yX3_isFull, .initialized RX3]
def v_X8_against_5 : List Cond := .code yX8_against cX8_against 7 (some .int) :: (e_X8_against_5 ++ (wsX00 ++ (v_X8_againstOnFloor_5 ++ (v_X3_isFull_0 ++ []))))
theorem te_X8_against_5 : GoodIn lw_tbl e_X8_against_5 := wGc z309 (wGc z308 (wGc z297 (wGc z307 (wGc z306 (wGc z305 (wGc z304 (wGc z89 (wG0))))))))
theorem t_X8_against_5 : GoodIn lw_tbl v_X8_against_5 := wGc z310 (wGa te_X8_against_5 (wGa zcX0 (wGa t_X8_againstOnFloor_5 (wGa t_X3_isFull_0 (wG0)))))
set_option maxHeartbeats 4000000 in
set_option maxRecDepth 100000 in
theorem m_X8_against_5 (l : Launch) (G : va_G) (K : Nat → ClassId) (h0 h1 h2 h3 h4 h5 h6 h7 h8 h9 : Nat) (p0 : Int32) (sz : Nat) : Met l yX8_against v_X8_against_5 ({ frames := 2, cells := 0, slots := 0, locals := 44 }) (va_Pc [.ref h0, .int 6, .int p0, .int 0, .int 0, .int 0] (wS G K sz [(h0, .inr (0, [.ref h3, .ref h1, .ref h4, .ref h5, .ref h2, .ref h6, .ref h7, .int 0, .int 0, .int 0, .null])), (h1, .inr (4, [.ref h8, .int 0])), (h2, .inr (2, [.int 7, .int 600, .ref h9, .int 0]))])) (va_Qi (fun (r : Int32) (u : va_W) => (((p0.toInt < 0 ∨ (p0.toInt ≥ 0 ∧ p0.toInt > 99))) ∧ 9 = r ∧ u = [(h0, .inr (0, [.ref h3, .ref h1, .ref h4, .ref h5, .ref h2, .ref h6, .ref h7, .int 0, .int 0, .int 0, .null])), (h1, .inr (4, [.ref h8, .int 0])), (h2, .inr (2, [.int 7, .int 600, .ref h9, .int 0]))]) ∨ ((((p0.toInt ≥ 0 ∧ p0.toInt ≤ 99))) ∧ 0 = r ∧ u = [(h0, .inr (0, [.ref h3, .ref h1, .ref h4, .ref h5, .ref h2, .ref h6, .ref h7, .int 0, .int 0, .int 0, .null])), (h1, .inr (4, [.ref h8, .int 0])), (h2, .inr (2, [.int 7, .int 600, .ref h9, .int 0]))])) (wB G (va_A [(h0, .inr (0, [.ref h3, .ref h1, .ref h4, .ref h5, .ref h2, .ref h6, .ref h7, .int 0, .int 0, .int 0, .null])), (h1, .inr (4, [.ref h8, .int 0])), (h2, .inr (2, [.int 7, .int 600, .ref h9, .int 0]))] sz)) (va_A [(h0, .inr (0, [.ref h3, .ref h1, .ref h4, .ref h5, .ref h2, .ref h6, .ref h7, .int 0, .int 0, .int 0, .null])), (h1, .inr (4, [.ref h8, .int 0])), (h2, .inr (2, [.int 7, .int 600, .ref h9, .int 0]))] sz)) 0 0 (va_A [(h0, .inr (0, [.ref h3, .ref h1, .ref h4, .ref h5, .ref h2, .ref h6, .ref h7, .int 0, .int 0, .int 0, .null])), (h1, .inr (4, [.ref h8, .int 0])), (h2, .inr (2, [.int 7, .int 600, .ref h9, .int 0]))] sz) := by
  refine Met.ofW (cc := cX8_against) (maxL := 7) (ret := (some .int)) (by decide) rfl ?_
  intro p e s m args below meth c s₁ B hml hv
  obtain ⟨rfl, hsz, hP, hK, hD0, hE⟩ := hv
  have hx := B.exec
  have hb := B.bytes
  have hr := B.returns
  have hts := atoms_spec (ws := v_X8_against_5) B.pre
  have t_ := t_X8_against_5
  have mw : ∀ w ∈ e_X8_against_5, w ∈ v_X8_against_5 := fun w h => List.mem_cons_of_mem _ (List.mem_append_left _ h)
  have hw := fun w (h : w ∈ e_X8_against_5) => hts w (mw w h)
  have iX0 : ∀ w ∈ wsX00, w ∈ v_X8_against_5 := fun w h => List.mem_cons_of_mem _ (List.mem_append_right _ (List.mem_append_left _ h))
  have j_X8_againstOnFloor_5 : ∀ w ∈ v_X8_againstOnFloor_5, w ∈ v_X8_against_5 := fun w h => List.mem_cons_of_mem _ (List.mem_append_right _ (List.mem_append_right _ (List.mem_append_left _ h)))
  have j_X3_isFull_0 : ∀ w ∈ v_X3_isFull_0, w ∈ v_X8_against_5 := fun w h => List.mem_cons_of_mem _ (List.mem_append_right _ (List.mem_append_right _ (List.mem_append_right _ (List.mem_append_left _ h))))
  have hown : s.vm.findClass RX8 = some m.cls := findClass_of_methodNamed B.named
  have hlocks := B.notSynchronized
  subst hsz
  have hD := hD0.self (sz := s.heap.size)
  generalize hAe : va_A [(h0, .inr (0, [.ref h3, .ref h1, .ref h4, .ref h5, .ref h2, .ref h6, .ref h7, .int 0, .int 0, .int 0, .null])), (h1, .inr (4, [.ref h8, .int 0])), (h2, .inr (2, [.int 7, .int 600, .ref h9, .int 0]))] s.heap.size = A at hD ⊢
  have hA : ∀ q : Nat, s.heap.size ≤ q → A q := fun q h => by rw [← hAe]; exact Or.inr h
  have hS : va_S A s.heap s.heap [] := va_S.rf
  have hP : va_P G vwCl [(h0, .inr (0, [.ref h3, .ref h1, .ref h4, .ref h5, .ref h2, .ref h6, .ref h7, .int 0, .int 0, .int 0, .null])), (h1, .inr (4, [.ref h8, .int 0])), (h2, .inr (2, [.int 7, .int 600, .ref h9, .int 0]))] s.heap := hP
  have hl := lv_entry ([.ref h0, .int 6, .int p0, .int 0, .int 0, .int 0]) (n := 7) (Nat.le_of_ble_eq_true rfl)
  rw [lg_entry_eq]
  generalize (lg_sl ([.ref h0, .int 6, .int p0, .int 0, .int 0, .int 0]) ++ List.replicate (7 - (lg_sl ([.ref h0, .int 6, .int p0, .int 0, .int 0, .int 0])).length) Slot.unset).toArray = ls at hl ⊢
  have hl : lv_has ls 7 [(0, .ref h0), (1, .int 6), (2, .int p0), (3, .int 0), (4, .int 0), (5, .int 0)] := hl
  refine lv_iload_n hx hb dX8_against_0 rfl (lv_at hl 1 rfl) ?_
  refine lv_bipush (v := 9) hx hb dX8_against_1 (by decide) ?_
  refine lv_icmp_gt (tgt := 18) hx hb dX8_against_3 (by decide) (fun c_ => absurd c_ (by decide)) (fun _ => ?_)
  refine lv_aload_n hx hb dX8_against_6 rfl (lv_at hl 0 rfl) ?_
  refine lv_iload_n hx hb dX8_against_7 rfl (lv_at hl 1 rfl) ?_
  refine lv_iload_n hx hb dX8_against_8 rfl (lv_at hl 2 rfl) ?_
  refine lv_iload_n hx hb dX8_against_9 rfl (lv_at hl 3 rfl) ?_
  have hPc := hP.sub (ws' := [(h0, .inr (0, [.ref h3, .ref h1, .ref h4, .ref h5, .ref h2, .ref h6, .ref h7, .int 0, .int 0, .int 0, .null])), (h1, .inr (4, [.ref h8, .int 0]))]) [0, 1] rfl
  have hDc := hD.sub (ws' := [(h0, .inr (0, [.ref h3, .ref h1, .ref h4, .ref h5, .ref h2, .ref h6, .ref h7, .int 0, .int 0, .int 0, .null])), (h1, .inr (4, [.ref h8, .int 0]))]) [0, 1] (by decide) rfl
  refine wGoi (wc := [(h0, .inr (0, [.ref h3, .ref h1, .ref h4, .ref h5, .ref h2, .ref h6, .ref h7, .int 0, .int 0, .int 0, .null])), (h1, .inr (4, [.ref h8, .int 0]))]) (wr := [(h2, .inr (2, [.int 7, .int 600, .ref h9, .int 0]))]) (va_runS (As := [.ref h0, .int 6, .int p0, .int 0]) (rest := []) ⟨hx, hb, hml, hown, hts⟩ (m_X8_againstOnFloor_5 l G K h0 h1 h3 h4 h5 h2 h6 h7 h8 p0 _) (va_cwS 4 hts (wGS t_ (mw (.methodLink RX8 9 yX8_againstOnFloor) (List.mem_of_getElem? (i := 0) rfl)) (mw (.static yX8_againstOnFloor) (List.mem_of_getElem? (i := 1) rfl)) (mw (.initialized RX8) (List.mem_of_getElem? (i := 2) rfl)) j_X8_againstOnFloor_5) rfl rfl rfl (by decide +kernel) ⟨Nat.le_of_ble_eq_true rfl, Nat.le_of_ble_eq_true rfl⟩) (wPS hK hE hPc hDc) rfl rfl hl.1 rfl (lv_room (Nat.le_of_ble_eq_true rfl)) dX8_against_10 ⟨Nat.le_of_ble_eq_true rfl, Nat.le_of_ble_eq_true rfl⟩) hP hD hS hA [0, 1] [2] rfl rfl rfl (by decide) (fun r u H locs hw hP hD hS => ?_)
  rcases hw with ⟨c_w, rfl, rfl⟩ | ⟨c_w, rfl, rfl⟩
  · have c1 := c_w
    have hP : va_P G vwCl [(h2, .inr (2, [.int 7, .int 600, .ref h9, .int 0])), (h0, .inr (0, [.ref h3, .ref h1, .ref h4, .ref h5, .ref h2, .ref h6, .ref h7, .int 0, .int 0, .int 0, .null])), (h1, .inr (4, [.ref h8, .int 0]))] _ := hP
    have hD : va_D A [(h2, .inr (2, [.int 7, .int 600, .ref h9, .int 0])), (h0, .inr (0, [.ref h3, .ref h1, .ref h4, .ref h5, .ref h2, .ref h6, .ref h7, .int 0, .int 0, .int 0, .null])), (h1, .inr (4, [.ref h8, .int 0]))] := hD
    refine lv_istore (lv' := [(6, .int 9), (0, .ref h0), (1, .int 6), (2, .int p0), (3, .int 0), (4, .int 0), (5, .int 0)]) hx hb dX8_against_13 hl (by decide) rfl (fun ls hl => ?_)
    refine lv_goto (tgt := 49) hx hb dX8_against_15 (by decide) ?_
    refine lv_iload hx hb dX8_against_49 (lv_at hl 0 rfl) ?_
    refine lv_if_ne (tgt := 69) hx hb dX8_against_51 (by decide) (fun _ => ?_) (fun c_ => absurd c_ (by decide))
    refine lv_iload hx hb dX8_against_69 (lv_at hl 0 rfl) ?_
    have hP9 := hP.sub (ws' := [(h0, .inr (0, [.ref h3, .ref h1, .ref h4, .ref h5, .ref h2, .ref h6, .ref h7, .int 0, .int 0, .int 0, .null])), (h1, .inr (4, [.ref h8, .int 0])), (h2, .inr (2, [.int 7, .int 600, .ref h9, .int 0]))]) [1, 2, 0] rfl
    have hD9 := hD.sub (ws' := [(h0, .inr (0, [.ref h3, .ref h1, .ref h4, .ref h5, .ref h2, .ref h6, .ref h7, .int 0, .int 0, .int 0, .null])), (h1, .inr (4, [.ref h8, .int 0])), (h2, .inr (2, [.int 7, .int 600, .ref h9, .int 0]))]) [1, 2, 0] (by decide) rfl
    exact W.iret (v := 9) hx hb hr (fun t ht hW => ⟨⟨9, _, rfl, Or.inl ⟨(by first | omega | decide | simp), rfl, rfl⟩, by rw [ht]; exact hP9, hD9⟩, hS.F ht⟩) hS.2.2 dX8_against_71
  · have c2 := c_w
    have hP : va_P G vwCl [(h2, .inr (2, [.int 7, .int 600, .ref h9, .int 0])), (h0, .inr (0, [.ref h3, .ref h1, .ref h4, .ref h5, .ref h2, .ref h6, .ref h7, .int 0, .int 0, .int 0, .null])), (h1, .inr (4, [.ref h8, .int 0]))] _ := hP
    have hD : va_D A [(h2, .inr (2, [.int 7, .int 600, .ref h9, .int 0])), (h0, .inr (0, [.ref h3, .ref h1, .ref h4, .ref h5, .ref h2, .ref h6, .ref h7, .int 0, .int 0, .int 0, .null])), (h1, .inr (4, [.ref h8, .int 0]))] := hD
    refine lv_istore (lv' := [(6, .int 0), (0, .ref h0), (1, .int 6), (2, .int p0), (3, .int 0), (4, .int 0), (5, .int 0)]) hx hb dX8_against_13 hl (by decide) rfl (fun ls hl => ?_)
    refine lv_goto (tgt := 49) hx hb dX8_against_15 (by decide) ?_
    refine lv_iload hx hb dX8_against_49 (lv_at hl 0 rfl) ?_
    refine lv_if_ne (tgt := 69) hx hb dX8_against_51 (by decide) (fun c_ => absurd c_ (by decide)) (fun _ => ?_)
    refine lv_aload_n hx hb dX8_against_54 rfl (lv_at hl 1 rfl) ?_
    refine va_get (D := G) (ci := 0) (v := .ref h2) (C := RX0) (T := TX0) (N := 11) hx hb hts iX0 hown hK hP 1 rfl rfl 4 (by decide) (hw (.fieldLink RX8 22 "MotionFloor$Assembly" "minutes" "LMotionFloor$Ledger;") (List.mem_of_getElem? (i := 3) rfl)) (fun _ h9 => h9) rfl dX8_against_55 ?_
    have hPc := hP.sub (ws' := [(h2, .inr (2, [.int 7, .int 600, .ref h9, .int 0]))]) [0] rfl
    have hDc := hD.sub (ws' := [(h2, .inr (2, [.int 7, .int 600, .ref h9, .int 0]))]) [0] (by decide) rfl
    refine wGoi (wc := [(h2, .inr (2, [.int 7, .int 600, .ref h9, .int 0]))]) (wr := [(h0, .inr (0, [.ref h3, .ref h1, .ref h4, .ref h5, .ref h2, .ref h6, .ref h7, .int 0, .int 0, .int 0, .null])), (h1, .inr (4, [.ref h8, .int 0]))]) (va_runV (As := []) (rest := []) ⟨hx, hb, hml, hown, hts⟩ (m_X3_isFull_0 l G K h2 h9 _) (cwV 0 hts (wGV t_ (mw (.methodLink RX8 28 yX3_isFull) (List.mem_of_getElem? (i := 4) rfl)) (mw (.instanceMethod yX3_isFull) (List.mem_of_getElem? (i := 5) rfl)) (mw (.selects RX3 yX3_isFull yX3_isFull) (List.mem_of_getElem? (i := 6) rfl)) (mw (.initialized RX3) (List.mem_of_getElem? (i := 7) rfl)) j_X3_isFull_0) rfl rfl rfl (by decide +kernel) ⟨Nat.le_of_ble_eq_true rfl, Nat.le_of_ble_eq_true rfl⟩) (wPV hK hE hPc hDc 2 0 rfl rfl) rfl rfl hl.1 rfl (lv_room (Nat.le_of_ble_eq_true rfl)) dX8_against_58 ⟨Nat.le_of_ble_eq_true rfl, Nat.le_of_ble_eq_true rfl⟩) hP hD hS hA [0] [1, 2] rfl rfl rfl (by decide) (fun r u H locs hw hP hD hS => ?_)
    rcases hw with ⟨rfl, rfl⟩
    have hP : va_P G vwCl [(h0, .inr (0, [.ref h3, .ref h1, .ref h4, .ref h5, .ref h2, .ref h6, .ref h7, .int 0, .int 0, .int 0, .null])), (h1, .inr (4, [.ref h8, .int 0])), (h2, .inr (2, [.int 7, .int 600, .ref h9, .int 0]))] _ := hP
    have hD : va_D A [(h0, .inr (0, [.ref h3, .ref h1, .ref h4, .ref h5, .ref h2, .ref h6, .ref h7, .int 0, .int 0, .int 0, .null])), (h1, .inr (4, [.ref h8, .int 0])), (h2, .inr (2, [.int 7, .int 600, .ref h9, .int 0]))] := hD
    refine lv_if_eq (tgt := 69) hx hb dX8_against_61 (by decide) (fun _ => ?_) (fun c_ => absurd c_ (by decide))
    refine lv_iload hx hb dX8_against_69 (lv_at hl 0 rfl) ?_
    have hP9 : va_P G vwCl [(h0, .inr (0, [.ref h3, .ref h1, .ref h4, .ref h5, .ref h2, .ref h6, .ref h7, .int 0, .int 0, .int 0, .null])), (h1, .inr (4, [.ref h8, .int 0])), (h2, .inr (2, [.int 7, .int 600, .ref h9, .int 0]))] _ := hP
    have hD9 : va_D A [(h0, .inr (0, [.ref h3, .ref h1, .ref h4, .ref h5, .ref h2, .ref h6, .ref h7, .int 0, .int 0, .int 0, .null])), (h1, .inr (4, [.ref h8, .int 0])), (h2, .inr (2, [.int 7, .int 600, .ref h9, .int 0]))] := hD
    exact W.iret (v := 0) hx hb hr (fun t ht hW => ⟨⟨0, _, rfl, Or.inr (⟨(by first | omega | decide | simp), rfl, rfl⟩), by rw [ht]; exact hP9, hD9⟩, hS.F ht⟩) hS.2.2 dX8_against_71
def e_X1_perform_3 : List Cond := [.fieldLink RX1 9 "MotionFloor$Assembly" "pending" "LMotionFloor$Pile;", .methodLink RX1 15 yX5_top, .instanceMethod yX5_top, .selects RX5 yX5_top yX5_top, .initialized RX5, .fieldLink RX1 21 "MotionFloor$Assembly" "house" "LMotionFloor$House;", .fieldLink RX1 45 "MotionFloor$House" "limit" "I"]
def v_X1_perform_3 : List Cond := .code yX1_perform cX1_perform 7 (some .int) :: (e_X1_perform_3 ++ (wsX00 ++ (wsX20 ++ (v_X5_top_0 ++ []))))
theorem te_X1_perform_3 : GoodIn lw_tbl e_X1_perform_3 := wGc z326 (wGc z325 (wGc z324 (wGc z323 (wGc z26 (wGc z322 (wGc z421 (wG0)))))))
theorem t_X1_perform_3 : GoodIn lw_tbl v_X1_perform_3 := wGc z327 (wGa te_X1_perform_3 (wGa zcX0 (wGa zcX2 (wGa t_X5_top_0 (wG0)))))
set_option maxHeartbeats 4000000 in
set_option maxRecDepth 100000 in
theorem m_X1_perform_3 (l : Launch) (G : va_G) (K : Nat → ClassId) (h0 h1 h2 h3 h4 h5 h6 h7 h8 h9 h10 : Nat) (p0 : Int32) (sz : Nat) (bp0 : 0 ≤ p0.toInt ∧ p0.toInt ≤ 99) : Met l yX1_perform v_X1_perform_3 ({ frames := 2, cells := 0, slots := 0, locals := 41 }) (va_Pc [.ref h0, .int 6, .int p0, .int 0, .int 0, .int 0] (wS G K sz [(h0, .inr (0, [.ref h1, .ref h2, .ref h3, .ref h4, .ref h5, .ref h6, .ref h7, .int 0, .int 0, .int 0, .null])), (h1, .inr (1, [.int 1, .ref h8, .int 0, .int (-1), .int 0, .int 0, .int (-1), .ref h9])), (h2, .inr (4, [.ref h10, .int 0]))])) (va_Qi (fun (r : Int32) (u : va_W) => (p0 = r ∧ u = [(h0, .inr (0, [.ref h1, .ref h2, .ref h3, .ref h4, .ref h5, .ref h6, .ref h7, .int 0, .int 0, .int 0, .null])), (h1, .inr (1, [.int 1, .ref h8, .int 0, .int (-1), .int 0, .int p0, .int (-1), .ref h9])), (h2, .inr (4, [.ref h10, .int 0]))])) (wB G (va_A [(h0, .inr (0, [.ref h1, .ref h2, .ref h3, .ref h4, .ref h5, .ref h6, .ref h7, .int 0, .int 0, .int 0, .null])), (h1, .inr (1, [.int 1, .ref h8, .int 0, .int (-1), .int 0, .int 0, .int (-1), .ref h9])), (h2, .inr (4, [.ref h10, .int 0]))] sz)) (va_A [(h0, .inr (0, [.ref h1, .ref h2, .ref h3, .ref h4, .ref h5, .ref h6, .ref h7, .int 0, .int 0, .int 0, .null])), (h1, .inr (1, [.int 1, .ref h8, .int 0, .int (-1), .int 0, .int 0, .int (-1), .ref h9])), (h2, .inr (4, [.ref h10, .int 0]))] sz)) 0 0 (va_A [(h0, .inr (0, [.ref h1, .ref h2, .ref h3, .ref h4, .ref h5, .ref h6, .ref h7, .int 0, .int 0, .int 0, .null])), (h1, .inr (1, [.int 1, .ref h8, .int 0, .int (-1), .int 0, .int 0, .int (-1), .ref h9])), (h2, .inr (4, [.ref h10, .int 0]))] sz) := by
  refine Met.ofW (cc := cX1_perform) (maxL := 7) (ret := (some .int)) (by decide) rfl ?_
  intro p e s m args below meth c s₁ B hml hv
  obtain ⟨rfl, hsz, hP, hK, hD0, hE⟩ := hv
  have hx := B.exec
  have hb := B.bytes
  have hr := B.returns
  have hts := atoms_spec (ws := v_X1_perform_3) B.pre
  have t_ := t_X1_perform_3
  have mw : ∀ w ∈ e_X1_perform_3, w ∈ v_X1_perform_3 := fun w h => List.mem_cons_of_mem _ (List.mem_append_left _ h)
  have hw := fun w (h : w ∈ e_X1_perform_3) => hts w (mw w h)
  have iX0 : ∀ w ∈ wsX00, w ∈ v_X1_perform_3 := fun w h => List.mem_cons_of_mem _ (List.mem_append_right _ (List.mem_append_left _ h))
  have iX2 : ∀ w ∈ wsX20, w ∈ v_X1_perform_3 := fun w h => List.mem_cons_of_mem _ (List.mem_append_right _ (List.mem_append_right _ (List.mem_append_left _ h)))
  have j_X5_top_0 : ∀ w ∈ v_X5_top_0, w ∈ v_X1_perform_3 := fun w h => List.mem_cons_of_mem _ (List.mem_append_right _ (List.mem_append_right _ (List.mem_append_right _ (List.mem_append_left _ h))))
  have hown : s.vm.findClass RX1 = some m.cls := findClass_of_methodNamed B.named
  have hlocks := B.notSynchronized
  subst hsz
  have hD := hD0.self (sz := s.heap.size)
  generalize hAe : va_A [(h0, .inr (0, [.ref h1, .ref h2, .ref h3, .ref h4, .ref h5, .ref h6, .ref h7, .int 0, .int 0, .int 0, .null])), (h1, .inr (1, [.int 1, .ref h8, .int 0, .int (-1), .int 0, .int 0, .int (-1), .ref h9])), (h2, .inr (4, [.ref h10, .int 0]))] s.heap.size = A at hD ⊢
  have hA : ∀ q : Nat, s.heap.size ≤ q → A q := fun q h => by rw [← hAe]; exact Or.inr h
  have hS : va_S A s.heap s.heap [] := va_S.rf
  have hP : va_P G vwCl [(h0, .inr (0, [.ref h1, .ref h2, .ref h3, .ref h4, .ref h5, .ref h6, .ref h7, .int 0, .int 0, .int 0, .null])), (h1, .inr (1, [.int 1, .ref h8, .int 0, .int (-1), .int 0, .int 0, .int (-1), .ref h9])), (h2, .inr (4, [.ref h10, .int 0]))] s.heap := hP
  have hl := lv_entry ([.ref h0, .int 6, .int p0, .int 0, .int 0, .int 0]) (n := 7) (Nat.le_of_ble_eq_true rfl)
  rw [lg_entry_eq]
  generalize (lg_sl ([.ref h0, .int 6, .int p0, .int 0, .int 0, .int 0]) ++ List.replicate (7 - (lg_sl ([.ref h0, .int 6, .int p0, .int 0, .int 0, .int 0])).length) Slot.unset).toArray = ls at hl ⊢
  have hl : lv_has ls 7 [(0, .ref h0), (1, .int 6), (2, .int p0), (3, .int 0), (4, .int 0), (5, .int 0)] := hl
  refine lv_aload_n hx hb dX1_perform_0 rfl (lv_at hl 0 rfl) ?_
  refine va_get (D := G) (ci := 0) (v := .ref h2) (C := RX0) (T := TX0) (N := 11) hx hb hts iX0 hown hK hP 0 rfl rfl 1 (by decide) (hw (.fieldLink RX1 9 "MotionFloor$Assembly" "pending" "LMotionFloor$Pile;") (List.mem_of_getElem? (i := 0) rfl)) (fun _ h9 => h9) rfl dX1_perform_1 ?_
  have hPc := hP.sub (ws' := [(h2, .inr (4, [.ref h10, .int 0]))]) [2] rfl
  have hDc := hD.sub (ws' := [(h2, .inr (4, [.ref h10, .int 0]))]) [2] (by decide) rfl
  refine wGoq (wc := [(h2, .inr (4, [.ref h10, .int 0]))]) (wr := [(h0, .inr (0, [.ref h1, .ref h2, .ref h3, .ref h4, .ref h5, .ref h6, .ref h7, .int 0, .int 0, .int 0, .null])), (h1, .inr (1, [.int 1, .ref h8, .int 0, .int (-1), .int 0, .int 0, .int (-1), .ref h9]))]) (va_runV (As := []) (rest := []) ⟨hx, hb, hml, hown, hts⟩ (m_X5_top_0 l G K h2 h10 _) (cwV 0 hts (wGV t_ (mw (.methodLink RX1 15 yX5_top) (List.mem_of_getElem? (i := 1) rfl)) (mw (.instanceMethod yX5_top) (List.mem_of_getElem? (i := 2) rfl)) (mw (.selects RX5 yX5_top yX5_top) (List.mem_of_getElem? (i := 3) rfl)) (mw (.initialized RX5) (List.mem_of_getElem? (i := 4) rfl)) j_X5_top_0) rfl rfl rfl (by decide +kernel) ⟨Nat.le_of_ble_eq_true rfl, Nat.le_of_ble_eq_true rfl⟩) (wPV hK hE hPc hDc 4 0 rfl rfl) rfl rfl hl.1 rfl (lv_room (Nat.le_of_ble_eq_true rfl)) dX1_perform_4 ⟨Nat.le_of_ble_eq_true rfl, Nat.le_of_ble_eq_true rfl⟩) hP hD hS hA [2] [0, 1] rfl rfl rfl (by decide) (fun r u H locs hw hP hD hS => ?_)
  rcases hw with ⟨rfl, rfl⟩
  have hP : va_P G vwCl [(h0, .inr (0, [.ref h1, .ref h2, .ref h3, .ref h4, .ref h5, .ref h6, .ref h7, .int 0, .int 0, .int 0, .null])), (h1, .inr (1, [.int 1, .ref h8, .int 0, .int (-1), .int 0, .int 0, .int (-1), .ref h9])), (h2, .inr (4, [.ref h10, .int 0]))] _ := hP
  have hD : va_D A [(h0, .inr (0, [.ref h1, .ref h2, .ref h3, .ref h4, .ref h5, .ref h6, .ref h7, .int 0, .int 0, .int 0, .null])), (h1, .inr (1, [.int 1, .ref h8, .int 0, .int (-1), .int 0, .int 0, .int (-1), .ref h9])), (h2, .inr (4, [.ref h10, .int 0]))] := hD
  refine wTop (v1 := .null) rfl ?_
  refine lv_astoreN (lv' := [(6, .null), (0, .ref h0), (1, .int 6), (2, .int p0), (3, .int 0), (4, .int 0), (5, .int 0)]) hx hb dX1_perform_7 hl (by decide) rfl (fun ls hl => ?_)
  refine lv_iload_n hx hb dX1_perform_9 rfl (lv_at hl 2 rfl) ?_
  refine lv_tableIn (off := 149) (tgt := 159) hx hb dX1_perform_10 (by decide) (by decide) (by decide) (by decide) ?_
  refine lv_aload_n hx hb dX1_perform_159 rfl (lv_at hl 1 rfl) ?_
  refine va_get (D := G) (ci := 0) (v := .ref h1) (C := RX0) (T := TX0) (N := 11) hx hb hts iX0 hown hK hP 0 rfl rfl 0 (by decide) (hw (.fieldLink RX1 21 "MotionFloor$Assembly" "house" "LMotionFloor$House;") (List.mem_of_getElem? (i := 5) rfl)) (fun _ h9 => h9) rfl dX1_perform_160 ?_
  refine lv_iload_n hx hb dX1_perform_163 rfl (lv_at hl 3 rfl) ?_
  refine va_put (D := G) (ci := 1) (v := .int p0) (ty := .int) (C := RX2) (T := TX2) (N := 8) hx hb hts iX2 tyX2 tyX2_ok nmX2 hown hK hP hD hS 1 rfl rfl 5 (by decide) (hw (.fieldLink RX1 45 "MotionFloor$House" "limit" "I") (List.mem_of_getElem? (i := 6) rfl)) (fun _ h9 => h9) rfl (by decide +kernel) rfl rfl (Nat.le_of_ble_eq_true rfl) dX1_perform_164 (fun H locs hP hD hS => ?_)
  have hP : va_P G vwCl [(h0, .inr (0, [.ref h1, .ref h2, .ref h3, .ref h4, .ref h5, .ref h6, .ref h7, .int 0, .int 0, .int 0, .null])), (h1, .inr (1, [.int 1, .ref h8, .int 0, .int (-1), .int 0, .int p0, .int (-1), .ref h9])), (h2, .inr (4, [.ref h10, .int 0]))] _ := hP
  have hD : va_D A [(h0, .inr (0, [.ref h1, .ref h2, .ref h3, .ref h4, .ref h5, .ref h6, .ref h7, .int 0, .int 0, .int 0, .null])), (h1, .inr (1, [.int 1, .ref h8, .int 0, .int (-1), .int 0, .int p0, .int (-1), .ref h9])), (h2, .inr (4, [.ref h10, .int 0]))] := hD
  refine lv_iload_n hx hb dX1_perform_167 rfl (lv_at hl 3 rfl) ?_
  have hP9 : va_P G vwCl [(h0, .inr (0, [.ref h1, .ref h2, .ref h3, .ref h4, .ref h5, .ref h6, .ref h7, .int 0, .int 0, .int 0, .null])), (h1, .inr (1, [.int 1, .ref h8, .int 0, .int (-1), .int 0, .int p0, .int (-1), .ref h9])), (h2, .inr (4, [.ref h10, .int 0]))] _ := hP
  have hD9 : va_D A [(h0, .inr (0, [.ref h1, .ref h2, .ref h3, .ref h4, .ref h5, .ref h6, .ref h7, .int 0, .int 0, .int 0, .null])), (h1, .inr (1, [.int 1, .ref h8, .int 0, .int (-1), .int 0, .int p0, .int (-1), .ref h9])), (h2, .inr (4, [.ref h10, .int 0]))] := hD
  exact W.iret (v := p0) hx hb hr (fun t ht hW => ⟨⟨p0, _, rfl, ⟨rfl, rfl⟩, by rw [ht]; exact hP9, hD9⟩, hS.F ht⟩) hS.2.2 dX1_perform_168
def e_X3_write_21 : List Cond := [.fieldLink RX3 28 "MotionFloor$Ledger" "size" "I", .fieldLink RX3 15 "MotionFloor$Ledger" "columns" "I", .fieldLink RX3 24 "MotionFloor$Ledger" "cells" "[I"]
def v_X3_write_21 : List Cond := .code yX3_write cX3_write 4 none :: (e_X3_write_21 ++ (wsX30 ++ []))
theorem te_X3_write_21 : GoodIn lw_tbl e_X3_write_21 := wGc z302 (wGc z38 (wGc z36 (wG0)))
theorem t_X3_write_21 : GoodIn lw_tbl v_X3_write_21 := wGc z334 (wGa te_X3_write_21 (wGa zcX3 (wG0)))
set_option maxHeartbeats 4000000 in
set_option maxRecDepth 100000 in
theorem m_X3_write_21 (l : Launch) (G : va_G) (K : Nat → ClassId) (h0 h1 : Nat) (sz : Nat) : Met l yX3_write v_X3_write_21 ({ frames := 0, cells := 0, slots := 0, locals := 0 }) (va_Pc [.ref h0, .int 0, .int 6] (wS G K sz [(h0, .inr (2, [.int 7, .int 600, .ref h1, .int 1])), (h1, .inl (K 0, 112, .inl (fun _ => 0)))])) (va_Qv (fun u : va_W => (u = [(h0, .inr (2, [.int 7, .int 600, .ref h1, .int 1])), (h1, .inl (K 0, 112, .inl (upd (fun _ => 0) 0 6)))])) (wB G (va_A [(h0, .inr (2, [.int 7, .int 600, .ref h1, .int 1])), (h1, .inl (K 0, 112, .inl (fun _ => 0)))] sz)) (va_A [(h0, .inr (2, [.int 7, .int 600, .ref h1, .int 1])), (h1, .inl (K 0, 112, .inl (fun _ => 0)))] sz)) 0 0 (va_A [(h0, .inr (2, [.int 7, .int 600, .ref h1, .int 1])), (h1, .inl (K 0, 112, .inl (fun _ => 0)))] sz) := by
  refine Met.ofW (cc := cX3_write) (maxL := 4) (ret := none) (by decide) rfl ?_
  intro p e s m args below meth c s₁ B hml hv
  obtain ⟨rfl, hsz, hP, hK, hD0, hE⟩ := hv
  have hx := B.exec
  have hb := B.bytes
  have hr := B.returns
  have hts := atoms_spec (ws := v_X3_write_21) B.pre
  have t_ := t_X3_write_21
  have mw : ∀ w ∈ e_X3_write_21, w ∈ v_X3_write_21 := fun w h => List.mem_cons_of_mem _ (List.mem_append_left _ h)
  have hw := fun w (h : w ∈ e_X3_write_21) => hts w (mw w h)
  have iX3 : ∀ w ∈ wsX30, w ∈ v_X3_write_21 := fun w h => List.mem_cons_of_mem _ (List.mem_append_right _ (List.mem_append_left _ h))
  have hown : s.vm.findClass RX3 = some m.cls := findClass_of_methodNamed B.named
  have hlocks := B.notSynchronized
  subst hsz
  have hD := hD0.self (sz := s.heap.size)
  generalize hAe : va_A [(h0, .inr (2, [.int 7, .int 600, .ref h1, .int 1])), (h1, .inl (K 0, 112, .inl (fun _ => 0)))] s.heap.size = A at hD ⊢
  have hA : ∀ q : Nat, s.heap.size ≤ q → A q := fun q h => by rw [← hAe]; exact Or.inr h
  have hS : va_S A s.heap s.heap [] := va_S.rf
  have hP : va_P G vwCl [(h0, .inr (2, [.int 7, .int 600, .ref h1, .int 1])), (h1, .inl (K 0, 112, .inl (fun _ => 0)))] s.heap := hP
  have hl := lv_entry ([.ref h0, .int 0, .int 6]) (n := 4) (Nat.le_of_ble_eq_true rfl)
  rw [lg_entry_eq]
  generalize (lg_sl ([.ref h0, .int 0, .int 6]) ++ List.replicate (4 - (lg_sl ([.ref h0, .int 0, .int 6])).length) Slot.unset).toArray = ls at hl ⊢
  have hl : lv_has ls 4 [(0, .ref h0), (1, .int 0), (2, .int 6)] := hl
  refine lv_aload_n hx hb dX3_write_0 rfl (lv_at hl 0 rfl) ?_
  refine va_get (D := G) (ci := 2) (v := .int 1) (C := RX3) (T := TX3) (N := 4) hx hb hts iX3 hown hK hP 0 rfl rfl 3 (by decide) (hw (.fieldLink RX3 28 "MotionFloor$Ledger" "size" "I") (List.mem_of_getElem? (i := 0) rfl)) (fun _ h9 => h9) rfl dX3_write_1 ?_
  refine lv_iconst (v := 1) hx hb dX3_write_4 (by decide) ?_
  refine lv_isub hx hb dX3_write_5 ?_
  refine wTop (v1 := .int 0) (congrArg Value.int (by decide)) ?_
  refine lv_aload_n hx hb dX3_write_6 rfl (lv_at hl 0 rfl) ?_
  refine va_get (D := G) (ci := 2) (v := .int 7) (C := RX3) (T := TX3) (N := 4) hx hb hts iX3 hown hK hP 0 rfl rfl 0 (by decide) (hw (.fieldLink RX3 15 "MotionFloor$Ledger" "columns" "I") (List.mem_of_getElem? (i := 1) rfl)) (fun _ h9 => h9) rfl dX3_write_7 ?_
  refine lv_imul hx hb dX3_write_10 ?_
  refine wTop (v1 := .int 0) (congrArg Value.int (by decide)) ?_
  refine lv_iload_n hx hb dX3_write_11 rfl (lv_at hl 1 rfl) ?_
  refine lv_iadd hx hb dX3_write_12 ?_
  refine wTop (v1 := .int 0) (congrArg Value.int (by decide)) ?_
  refine lv_istore_n (lv' := [(3, .int 0), (0, .ref h0), (1, .int 0), (2, .int 6)]) hx hb dX3_write_13 rfl hl (by decide) rfl (fun ls hl => ?_)
  refine lv_iload_n hx hb dX3_write_14 rfl (lv_at hl 2 rfl) ?_
  refine lv_if_lt (tgt := 46) hx hb dX3_write_15 (by decide) (fun c_ => absurd c_ (by decide)) (fun _ => ?_)
  refine lv_iload_n hx hb dX3_write_18 rfl (lv_at hl 2 rfl) ?_
  refine lv_aload_n hx hb dX3_write_19 rfl (lv_at hl 1 rfl) ?_
  refine va_get (D := G) (ci := 2) (v := .int 7) (C := RX3) (T := TX3) (N := 4) hx hb hts iX3 hown hK hP 0 rfl rfl 0 (by decide) (hw (.fieldLink RX3 15 "MotionFloor$Ledger" "columns" "I") (List.mem_of_getElem? (i := 1) rfl)) (fun _ h9 => h9) rfl dX3_write_20 ?_
  refine lv_icmp_ge (tgt := 46) hx hb dX3_write_23 (by decide) (fun c_ => absurd c_ (by decide)) (fun _ => ?_)
  refine lv_iload_n hx hb dX3_write_26 rfl (lv_at hl 0 rfl) ?_
  refine lv_if_lt (tgt := 46) hx hb dX3_write_27 (by decide) (fun c_ => absurd c_ (by decide)) (fun _ => ?_)
  refine lv_iload_n hx hb dX3_write_30 rfl (lv_at hl 0 rfl) ?_
  refine lv_aload_n hx hb dX3_write_31 rfl (lv_at hl 1 rfl) ?_
  refine va_get (D := G) (ci := 2) (v := .ref h1) (C := RX3) (T := TX3) (N := 4) hx hb hts iX3 hown hK hP 0 rfl rfl 2 (by decide) (hw (.fieldLink RX3 24 "MotionFloor$Ledger" "cells" "[I") (List.mem_of_getElem? (i := 2) rfl)) (fun _ h9 => h9) rfl dX3_write_32 ?_
  refine va_alen (v := 112) hx hb hK hP 1 0 rfl rfl rfl dX3_write_35 ?_
  refine lv_icmp_ge (tgt := 46) hx hb dX3_write_36 (by decide) (fun c_ => absurd c_ (by decide)) (fun _ => ?_)
  refine lv_aload_n hx hb dX3_write_39 rfl (lv_at hl 1 rfl) ?_
  refine va_get (D := G) (ci := 2) (v := .ref h1) (C := RX3) (T := TX3) (N := 4) hx hb hts iX3 hown hK hP 0 rfl rfl 2 (by decide) (hw (.fieldLink RX3 24 "MotionFloor$Ledger" "cells" "[I") (List.mem_of_getElem? (i := 2) rfl)) (fun _ h9 => h9) rfl dX3_write_40 ?_
  refine lv_iload_n hx hb dX3_write_43 rfl (lv_at hl 0 rfl) ?_
  refine lv_iload_n hx hb dX3_write_44 rfl (lv_at hl 3 rfl) ?_
  refine va_iast hx hb hK hP hD hS 1 0 rfl rfl (vp_in_iff.mpr (by decide)) dX3_write_45 (fun H locs hP hD hS => ?_)
  have hP : va_P G vwCl [(h0, .inr (2, [.int 7, .int 600, .ref h1, .int 1])), (h1, .inl (K 0, 112, .inl (upd (fun _ => 0) 0 6)))] _ := hP
  have hD : va_D A [(h0, .inr (2, [.int 7, .int 600, .ref h1, .int 1])), (h1, .inl (K 0, 112, .inl (upd (fun _ => 0) 0 6)))] := hD
  have hP9 : va_P G vwCl [(h0, .inr (2, [.int 7, .int 600, .ref h1, .int 1])), (h1, .inl (K 0, 112, .inl (upd (fun _ => 0) 0 6)))] _ := hP
  have hD9 : va_D A [(h0, .inr (2, [.int 7, .int 600, .ref h1, .int 1])), (h1, .inl (K 0, 112, .inl (upd (fun _ => 0) 0 6)))] := hD
  exact W.vret hx hb hr (fun t ht hW => ⟨⟨_, rfl, rfl, by rw [ht]; exact hP9, hD9⟩, hS.F ht⟩) hS.2.2 dX3_write_46
def e_X3_write_22 : List Cond := [.fieldLink RX3 28 "MotionFloor$Ledger" "size" "I", .fieldLink RX3 15 "MotionFloor$Ledger" "columns" "I", .fieldLink RX3 24 "MotionFloor$Ledger" "cells" "[I"]
def v_X3_write_22 : List Cond := .code yX3_write cX3_write 4 none :: (e_X3_write_22 ++ (wsX30 ++ []))
theorem te_X3_write_22 : GoodIn lw_tbl e_X3_write_22 := wGc z302 (wGc z38 (wGc z36 (wG0)))
theorem t_X3_write_22 : GoodIn lw_tbl v_X3_write_22 := wGc z334 (wGa te_X3_write_22 (wGa zcX3 (wG0)))
set_option maxHeartbeats 4000000 in
set_option maxRecDepth 100000 in
theorem m_X3_write_22 (l : Launch) (G : va_G) (K : Nat → ClassId) (h0 h1 : Nat) (p0 : Int32) (sz : Nat) (bp0 : 0 ≤ p0.toInt ∧ p0.toInt ≤ 99) : Met l yX3_write v_X3_write_22 ({ frames := 0, cells := 0, slots := 0, locals := 0 }) (va_Pc [.ref h0, .int 1, .int p0] (wS G K sz [(h0, .inr (2, [.int 7, .int 600, .ref h1, .int 1])), (h1, .inl (K 0, 112, .inl (upd (fun _ => 0) 0 6)))])) (va_Qv (fun u : va_W => (u = [(h0, .inr (2, [.int 7, .int 600, .ref h1, .int 1])), (h1, .inl (K 0, 112, .inl (upd (upd (fun _ => 0) 0 6) 1 p0)))])) (wB G (va_A [(h0, .inr (2, [.int 7, .int 600, .ref h1, .int 1])), (h1, .inl (K 0, 112, .inl (upd (fun _ => 0) 0 6)))] sz)) (va_A [(h0, .inr (2, [.int 7, .int 600, .ref h1, .int 1])), (h1, .inl (K 0, 112, .inl (upd (fun _ => 0) 0 6)))] sz)) 0 0 (va_A [(h0, .inr (2, [.int 7, .int 600, .ref h1, .int 1])), (h1, .inl (K 0, 112, .inl (upd (fun _ => 0) 0 6)))] sz) := by
  refine Met.ofW (cc := cX3_write) (maxL := 4) (ret := none) (by decide) rfl ?_
  intro p e s m args below meth c s₁ B hml hv
  obtain ⟨rfl, hsz, hP, hK, hD0, hE⟩ := hv
  have hx := B.exec
  have hb := B.bytes
  have hr := B.returns
  have hts := atoms_spec (ws := v_X3_write_22) B.pre
  have t_ := t_X3_write_22
  have mw : ∀ w ∈ e_X3_write_22, w ∈ v_X3_write_22 := fun w h => List.mem_cons_of_mem _ (List.mem_append_left _ h)
  have hw := fun w (h : w ∈ e_X3_write_22) => hts w (mw w h)
  have iX3 : ∀ w ∈ wsX30, w ∈ v_X3_write_22 := fun w h => List.mem_cons_of_mem _ (List.mem_append_right _ (List.mem_append_left _ h))
  have hown : s.vm.findClass RX3 = some m.cls := findClass_of_methodNamed B.named
  have hlocks := B.notSynchronized
  subst hsz
  have hD := hD0.self (sz := s.heap.size)
  generalize hAe : va_A [(h0, .inr (2, [.int 7, .int 600, .ref h1, .int 1])), (h1, .inl (K 0, 112, .inl (upd (fun _ => 0) 0 6)))] s.heap.size = A at hD ⊢
  have hA : ∀ q : Nat, s.heap.size ≤ q → A q := fun q h => by rw [← hAe]; exact Or.inr h
  have hS : va_S A s.heap s.heap [] := va_S.rf
  have hP : va_P G vwCl [(h0, .inr (2, [.int 7, .int 600, .ref h1, .int 1])), (h1, .inl (K 0, 112, .inl (upd (fun _ => 0) 0 6)))] s.heap := hP
  have hl := lv_entry ([.ref h0, .int 1, .int p0]) (n := 4) (Nat.le_of_ble_eq_true rfl)
  rw [lg_entry_eq]
  generalize (lg_sl ([.ref h0, .int 1, .int p0]) ++ List.replicate (4 - (lg_sl ([.ref h0, .int 1, .int p0])).length) Slot.unset).toArray = ls at hl ⊢
  have hl : lv_has ls 4 [(0, .ref h0), (1, .int 1), (2, .int p0)] := hl
  refine lv_aload_n hx hb dX3_write_0 rfl (lv_at hl 0 rfl) ?_
  refine va_get (D := G) (ci := 2) (v := .int 1) (C := RX3) (T := TX3) (N := 4) hx hb hts iX3 hown hK hP 0 rfl rfl 3 (by decide) (hw (.fieldLink RX3 28 "MotionFloor$Ledger" "size" "I") (List.mem_of_getElem? (i := 0) rfl)) (fun _ h9 => h9) rfl dX3_write_1 ?_
  refine lv_iconst (v := 1) hx hb dX3_write_4 (by decide) ?_
  refine lv_isub hx hb dX3_write_5 ?_
  refine wTop (v1 := .int 0) (congrArg Value.int (by decide)) ?_
  refine lv_aload_n hx hb dX3_write_6 rfl (lv_at hl 0 rfl) ?_
  refine va_get (D := G) (ci := 2) (v := .int 7) (C := RX3) (T := TX3) (N := 4) hx hb hts iX3 hown hK hP 0 rfl rfl 0 (by decide) (hw (.fieldLink RX3 15 "MotionFloor$Ledger" "columns" "I") (List.mem_of_getElem? (i := 1) rfl)) (fun _ h9 => h9) rfl dX3_write_7 ?_
  refine lv_imul hx hb dX3_write_10 ?_
  refine wTop (v1 := .int 0) (congrArg Value.int (by decide)) ?_
  refine lv_iload_n hx hb dX3_write_11 rfl (lv_at hl 1 rfl) ?_
  refine lv_iadd hx hb dX3_write_12 ?_
  refine wTop (v1 := .int 1) (congrArg Value.int (by decide)) ?_
  refine lv_istore_n (lv' := [(3, .int 1), (0, .ref h0), (1, .int 1), (2, .int p0)]) hx hb dX3_write_13 rfl hl (by decide) rfl (fun ls hl => ?_)
  refine lv_iload_n hx hb dX3_write_14 rfl (lv_at hl 2 rfl) ?_
  refine lv_if_lt (tgt := 46) hx hb dX3_write_15 (by decide) (fun c_ => absurd c_ (by decide)) (fun _ => ?_)
  refine lv_iload_n hx hb dX3_write_18 rfl (lv_at hl 2 rfl) ?_
  refine lv_aload_n hx hb dX3_write_19 rfl (lv_at hl 1 rfl) ?_
  refine va_get (D := G) (ci := 2) (v := .int 7) (C := RX3) (T := TX3) (N := 4) hx hb hts iX3 hown hK hP 0 rfl rfl 0 (by decide) (hw (.fieldLink RX3 15 "MotionFloor$Ledger" "columns" "I") (List.mem_of_getElem? (i := 1) rfl)) (fun _ h9 => h9) rfl dX3_write_20 ?_
  refine lv_icmp_ge (tgt := 46) hx hb dX3_write_23 (by decide) (fun c_ => absurd c_ (by decide)) (fun _ => ?_)
  refine lv_iload_n hx hb dX3_write_26 rfl (lv_at hl 0 rfl) ?_
  refine lv_if_lt (tgt := 46) hx hb dX3_write_27 (by decide) (fun c_ => absurd c_ (by decide)) (fun _ => ?_)
  refine lv_iload_n hx hb dX3_write_30 rfl (lv_at hl 0 rfl) ?_
  refine lv_aload_n hx hb dX3_write_31 rfl (lv_at hl 1 rfl) ?_
  refine va_get (D := G) (ci := 2) (v := .ref h1) (C := RX3) (T := TX3) (N := 4) hx hb hts iX3 hown hK hP 0 rfl rfl 2 (by decide) (hw (.fieldLink RX3 24 "MotionFloor$Ledger" "cells" "[I") (List.mem_of_getElem? (i := 2) rfl)) (fun _ h9 => h9) rfl dX3_write_32 ?_
  refine va_alen (v := 112) hx hb hK hP 1 0 rfl rfl rfl dX3_write_35 ?_
  refine lv_icmp_ge (tgt := 46) hx hb dX3_write_36 (by decide) (fun c_ => absurd c_ (by decide)) (fun _ => ?_)
  refine lv_aload_n hx hb dX3_write_39 rfl (lv_at hl 1 rfl) ?_
  refine va_get (D := G) (ci := 2) (v := .ref h1) (C := RX3) (T := TX3) (N := 4) hx hb hts iX3 hown hK hP 0 rfl rfl 2 (by decide) (hw (.fieldLink RX3 24 "MotionFloor$Ledger" "cells" "[I") (List.mem_of_getElem? (i := 2) rfl)) (fun _ h9 => h9) rfl dX3_write_40 ?_
  refine lv_iload_n hx hb dX3_write_43 rfl (lv_at hl 0 rfl) ?_
  refine lv_iload_n hx hb dX3_write_44 rfl (lv_at hl 3 rfl) ?_
  refine va_iast hx hb hK hP hD hS 1 0 rfl rfl (vp_in_iff.mpr (by decide)) dX3_write_45 (fun H locs hP hD hS => ?_)
  have hP : va_P G vwCl [(h0, .inr (2, [.int 7, .int 600, .ref h1, .int 1])), (h1, .inl (K 0, 112, .inl (upd (upd (fun _ => 0) 0 6) 1 p0)))] _ := hP
  have hD : va_D A [(h0, .inr (2, [.int 7, .int 600, .ref h1, .int 1])), (h1, .inl (K 0, 112, .inl (upd (upd (fun _ => 0) 0 6) 1 p0)))] := hD
  have hP9 : va_P G vwCl [(h0, .inr (2, [.int 7, .int 600, .ref h1, .int 1])), (h1, .inl (K 0, 112, .inl (upd (upd (fun _ => 0) 0 6) 1 p0)))] _ := hP
  have hD9 : va_D A [(h0, .inr (2, [.int 7, .int 600, .ref h1, .int 1])), (h1, .inl (K 0, 112, .inl (upd (upd (fun _ => 0) 0 6) 1 p0)))] := hD
  exact W.vret hx hb hr (fun t ht hW => ⟨⟨_, rfl, rfl, by rw [ht]; exact hP9, hD9⟩, hS.F ht⟩) hS.2.2 dX3_write_46
def e_X3_write_23 : List Cond := [.fieldLink RX3 28 "MotionFloor$Ledger" "size" "I", .fieldLink RX3 15 "MotionFloor$Ledger" "columns" "I", .fieldLink RX3 24 "MotionFloor$Ledger" "cells" "[I"]
def v_X3_write_23 : List Cond := .code yX3_write cX3_write 4 none :: (e_X3_write_23 ++ (wsX30 ++ []))
theorem te_X3_write_23 : GoodIn lw_tbl e_X3_write_23 := wGc z302 (wGc z38 (wGc z36 (wG0)))
theorem t_X3_write_23 : GoodIn lw_tbl v_X3_write_23 := wGc z334 (wGa te_X3_write_23 (wGa zcX3 (wG0)))
set_option maxHeartbeats 4000000 in
set_option maxRecDepth 100000 in
theorem m_X3_write_23 (l : Launch) (G : va_G) (K : Nat → ClassId) (h0 h1 : Nat) (p0 : Int32) (sz : Nat) (bp0 : 0 ≤ p0.toInt ∧ p0.toInt ≤ 99) : Met l yX3_write v_X3_write_23 ({ frames := 0, cells := 0, slots := 0, locals := 0 }) (va_Pc [.ref h0, .int 2, .int 0] (wS G K sz [(h0, .inr (2, [.int 7, .int 600, .ref h1, .int 1])), (h1, .inl (K 0, 112, .inl (upd (upd (fun _ => 0) 0 6) 1 p0)))])) (va_Qv (fun u : va_W => (u = [(h0, .inr (2, [.int 7, .int 600, .ref h1, .int 1])), (h1, .inl (K 0, 112, .inl (upd (upd (upd (fun _ => 0) 0 6) 1 p0) 2 0)))])) (wB G (va_A [(h0, .inr (2, [.int 7, .int 600, .ref h1, .int 1])), (h1, .inl (K 0, 112, .inl (upd (upd (fun _ => 0) 0 6) 1 p0)))] sz)) (va_A [(h0, .inr (2, [.int 7, .int 600, .ref h1, .int 1])), (h1, .inl (K 0, 112, .inl (upd (upd (fun _ => 0) 0 6) 1 p0)))] sz)) 0 0 (va_A [(h0, .inr (2, [.int 7, .int 600, .ref h1, .int 1])), (h1, .inl (K 0, 112, .inl (upd (upd (fun _ => 0) 0 6) 1 p0)))] sz) := by
  refine Met.ofW (cc := cX3_write) (maxL := 4) (ret := none) (by decide) rfl ?_
  intro p e s m args below meth c s₁ B hml hv
  obtain ⟨rfl, hsz, hP, hK, hD0, hE⟩ := hv
  have hx := B.exec
  have hb := B.bytes
  have hr := B.returns
  have hts := atoms_spec (ws := v_X3_write_23) B.pre
  have t_ := t_X3_write_23
  have mw : ∀ w ∈ e_X3_write_23, w ∈ v_X3_write_23 := fun w h => List.mem_cons_of_mem _ (List.mem_append_left _ h)
  have hw := fun w (h : w ∈ e_X3_write_23) => hts w (mw w h)
  have iX3 : ∀ w ∈ wsX30, w ∈ v_X3_write_23 := fun w h => List.mem_cons_of_mem _ (List.mem_append_right _ (List.mem_append_left _ h))
  have hown : s.vm.findClass RX3 = some m.cls := findClass_of_methodNamed B.named
  have hlocks := B.notSynchronized
  subst hsz
  have hD := hD0.self (sz := s.heap.size)
  generalize hAe : va_A [(h0, .inr (2, [.int 7, .int 600, .ref h1, .int 1])), (h1, .inl (K 0, 112, .inl (upd (upd (fun _ => 0) 0 6) 1 p0)))] s.heap.size = A at hD ⊢
  have hA : ∀ q : Nat, s.heap.size ≤ q → A q := fun q h => by rw [← hAe]; exact Or.inr h
  have hS : va_S A s.heap s.heap [] := va_S.rf
  have hP : va_P G vwCl [(h0, .inr (2, [.int 7, .int 600, .ref h1, .int 1])), (h1, .inl (K 0, 112, .inl (upd (upd (fun _ => 0) 0 6) 1 p0)))] s.heap := hP
  have hl := lv_entry ([.ref h0, .int 2, .int 0]) (n := 4) (Nat.le_of_ble_eq_true rfl)
  rw [lg_entry_eq]
  generalize (lg_sl ([.ref h0, .int 2, .int 0]) ++ List.replicate (4 - (lg_sl ([.ref h0, .int 2, .int 0])).length) Slot.unset).toArray = ls at hl ⊢
  have hl : lv_has ls 4 [(0, .ref h0), (1, .int 2), (2, .int 0)] := hl
  refine lv_aload_n hx hb dX3_write_0 rfl (lv_at hl 0 rfl) ?_
  refine va_get (D := G) (ci := 2) (v := .int 1) (C := RX3) (T := TX3) (N := 4) hx hb hts iX3 hown hK hP 0 rfl rfl 3 (by decide) (hw (.fieldLink RX3 28 "MotionFloor$Ledger" "size" "I") (List.mem_of_getElem? (i := 0) rfl)) (fun _ h9 => h9) rfl dX3_write_1 ?_
  refine lv_iconst (v := 1) hx hb dX3_write_4 (by decide) ?_
  refine lv_isub hx hb dX3_write_5 ?_
  refine wTop (v1 := .int 0) (congrArg Value.int (by decide)) ?_
  refine lv_aload_n hx hb dX3_write_6 rfl (lv_at hl 0 rfl) ?_
  refine va_get (D := G) (ci := 2) (v := .int 7) (C := RX3) (T := TX3) (N := 4) hx hb hts iX3 hown hK hP 0 rfl rfl 0 (by decide) (hw (.fieldLink RX3 15 "MotionFloor$Ledger" "columns" "I") (List.mem_of_getElem? (i := 1) rfl)) (fun _ h9 => h9) rfl dX3_write_7 ?_
  refine lv_imul hx hb dX3_write_10 ?_
  refine wTop (v1 := .int 0) (congrArg Value.int (by decide)) ?_
  refine lv_iload_n hx hb dX3_write_11 rfl (lv_at hl 1 rfl) ?_
  refine lv_iadd hx hb dX3_write_12 ?_
  refine wTop (v1 := .int 2) (congrArg Value.int (by decide)) ?_
  refine lv_istore_n (lv' := [(3, .int 2), (0, .ref h0), (1, .int 2), (2, .int 0)]) hx hb dX3_write_13 rfl hl (by decide) rfl (fun ls hl => ?_)
  refine lv_iload_n hx hb dX3_write_14 rfl (lv_at hl 2 rfl) ?_
  refine lv_if_lt (tgt := 46) hx hb dX3_write_15 (by decide) (fun c_ => absurd c_ (by decide)) (fun _ => ?_)
  refine lv_iload_n hx hb dX3_write_18 rfl (lv_at hl 2 rfl) ?_
  refine lv_aload_n hx hb dX3_write_19 rfl (lv_at hl 1 rfl) ?_
  refine va_get (D := G) (ci := 2) (v := .int 7) (C := RX3) (T := TX3) (N := 4) hx hb hts iX3 hown hK hP 0 rfl rfl 0 (by decide) (hw (.fieldLink RX3 15 "MotionFloor$Ledger" "columns" "I") (List.mem_of_getElem? (i := 1) rfl)) (fun _ h9 => h9) rfl dX3_write_20 ?_
  refine lv_icmp_ge (tgt := 46) hx hb dX3_write_23 (by decide) (fun c_ => absurd c_ (by decide)) (fun _ => ?_)
  refine lv_iload_n hx hb dX3_write_26 rfl (lv_at hl 0 rfl) ?_
  refine lv_if_lt (tgt := 46) hx hb dX3_write_27 (by decide) (fun c_ => absurd c_ (by decide)) (fun _ => ?_)
  refine lv_iload_n hx hb dX3_write_30 rfl (lv_at hl 0 rfl) ?_
  refine lv_aload_n hx hb dX3_write_31 rfl (lv_at hl 1 rfl) ?_
  refine va_get (D := G) (ci := 2) (v := .ref h1) (C := RX3) (T := TX3) (N := 4) hx hb hts iX3 hown hK hP 0 rfl rfl 2 (by decide) (hw (.fieldLink RX3 24 "MotionFloor$Ledger" "cells" "[I") (List.mem_of_getElem? (i := 2) rfl)) (fun _ h9 => h9) rfl dX3_write_32 ?_
  refine va_alen (v := 112) hx hb hK hP 1 0 rfl rfl rfl dX3_write_35 ?_
  refine lv_icmp_ge (tgt := 46) hx hb dX3_write_36 (by decide) (fun c_ => absurd c_ (by decide)) (fun _ => ?_)
  refine lv_aload_n hx hb dX3_write_39 rfl (lv_at hl 1 rfl) ?_
  refine va_get (D := G) (ci := 2) (v := .ref h1) (C := RX3) (T := TX3) (N := 4) hx hb hts iX3 hown hK hP 0 rfl rfl 2 (by decide) (hw (.fieldLink RX3 24 "MotionFloor$Ledger" "cells" "[I") (List.mem_of_getElem? (i := 2) rfl)) (fun _ h9 => h9) rfl dX3_write_40 ?_
  refine lv_iload_n hx hb dX3_write_43 rfl (lv_at hl 0 rfl) ?_
  refine lv_iload_n hx hb dX3_write_44 rfl (lv_at hl 3 rfl) ?_
  refine va_iast hx hb hK hP hD hS 1 0 rfl rfl (vp_in_iff.mpr (by decide)) dX3_write_45 (fun H locs hP hD hS => ?_)
  have hP : va_P G vwCl [(h0, .inr (2, [.int 7, .int 600, .ref h1, .int 1])), (h1, .inl (K 0, 112, .inl (upd (upd (upd (fun _ => 0) 0 6) 1 p0) 2 0)))] _ := hP
  have hD : va_D A [(h0, .inr (2, [.int 7, .int 600, .ref h1, .int 1])), (h1, .inl (K 0, 112, .inl (upd (upd (upd (fun _ => 0) 0 6) 1 p0) 2 0)))] := hD
  have hP9 : va_P G vwCl [(h0, .inr (2, [.int 7, .int 600, .ref h1, .int 1])), (h1, .inl (K 0, 112, .inl (upd (upd (upd (fun _ => 0) 0 6) 1 p0) 2 0)))] _ := hP
  have hD9 : va_D A [(h0, .inr (2, [.int 7, .int 600, .ref h1, .int 1])), (h1, .inl (K 0, 112, .inl (upd (upd (upd (fun _ => 0) 0 6) 1 p0) 2 0)))] := hD
  exact W.vret hx hb hr (fun t ht hW => ⟨⟨_, rfl, rfl, by rw [ht]; exact hP9, hD9⟩, hS.F ht⟩) hS.2.2 dX3_write_46
def e_X3_write_24 : List Cond := [.fieldLink RX3 28 "MotionFloor$Ledger" "size" "I", .fieldLink RX3 15 "MotionFloor$Ledger" "columns" "I", .fieldLink RX3 24 "MotionFloor$Ledger" "cells" "[I"]
def v_X3_write_24 : List Cond := .code yX3_write cX3_write 4 none :: (e_X3_write_24 ++ (wsX30 ++ []))
theorem te_X3_write_24 : GoodIn lw_tbl e_X3_write_24 := wGc z302 (wGc z38 (wGc z36 (wG0)))
theorem t_X3_write_24 : GoodIn lw_tbl v_X3_write_24 := wGc z334 (wGa te_X3_write_24 (wGa zcX3 (wG0)))
set_option maxHeartbeats 4000000 in
set_option maxRecDepth 100000 in
theorem m_X3_write_24 (l : Launch) (G : va_G) (K : Nat → ClassId) (h0 h1 : Nat) (p0 : Int32) (sz : Nat) (bp0 : 0 ≤ p0.toInt ∧ p0.toInt ≤ 99) : Met l yX3_write v_X3_write_24 ({ frames := 0, cells := 0, slots := 0, locals := 0 }) (va_Pc [.ref h0, .int 3, .int 0] (wS G K sz [(h0, .inr (2, [.int 7, .int 600, .ref h1, .int 1])), (h1, .inl (K 0, 112, .inl (upd (upd (upd (fun _ => 0) 0 6) 1 p0) 2 0)))])) (va_Qv (fun u : va_W => (u = [(h0, .inr (2, [.int 7, .int 600, .ref h1, .int 1])), (h1, .inl (K 0, 112, .inl (upd (upd (upd (upd (fun _ => 0) 0 6) 1 p0) 2 0) 3 0)))])) (wB G (va_A [(h0, .inr (2, [.int 7, .int 600, .ref h1, .int 1])), (h1, .inl (K 0, 112, .inl (upd (upd (upd (fun _ => 0) 0 6) 1 p0) 2 0)))] sz)) (va_A [(h0, .inr (2, [.int 7, .int 600, .ref h1, .int 1])), (h1, .inl (K 0, 112, .inl (upd (upd (upd (fun _ => 0) 0 6) 1 p0) 2 0)))] sz)) 0 0 (va_A [(h0, .inr (2, [.int 7, .int 600, .ref h1, .int 1])), (h1, .inl (K 0, 112, .inl (upd (upd (upd (fun _ => 0) 0 6) 1 p0) 2 0)))] sz) := by
  refine Met.ofW (cc := cX3_write) (maxL := 4) (ret := none) (by decide) rfl ?_
  intro p e s m args below meth c s₁ B hml hv
  obtain ⟨rfl, hsz, hP, hK, hD0, hE⟩ := hv
  have hx := B.exec
  have hb := B.bytes
  have hr := B.returns
  have hts := atoms_spec (ws := v_X3_write_24) B.pre
  have t_ := t_X3_write_24
  have mw : ∀ w ∈ e_X3_write_24, w ∈ v_X3_write_24 := fun w h => List.mem_cons_of_mem _ (List.mem_append_left _ h)
  have hw := fun w (h : w ∈ e_X3_write_24) => hts w (mw w h)
  have iX3 : ∀ w ∈ wsX30, w ∈ v_X3_write_24 := fun w h => List.mem_cons_of_mem _ (List.mem_append_right _ (List.mem_append_left _ h))
  have hown : s.vm.findClass RX3 = some m.cls := findClass_of_methodNamed B.named
  have hlocks := B.notSynchronized
  subst hsz
  have hD := hD0.self (sz := s.heap.size)
  generalize hAe : va_A [(h0, .inr (2, [.int 7, .int 600, .ref h1, .int 1])), (h1, .inl (K 0, 112, .inl (upd (upd (upd (fun _ => 0) 0 6) 1 p0) 2 0)))] s.heap.size = A at hD ⊢
  have hA : ∀ q : Nat, s.heap.size ≤ q → A q := fun q h => by rw [← hAe]; exact Or.inr h
  have hS : va_S A s.heap s.heap [] := va_S.rf
  have hP : va_P G vwCl [(h0, .inr (2, [.int 7, .int 600, .ref h1, .int 1])), (h1, .inl (K 0, 112, .inl (upd (upd (upd (fun _ => 0) 0 6) 1 p0) 2 0)))] s.heap := hP
  have hl := lv_entry ([.ref h0, .int 3, .int 0]) (n := 4) (Nat.le_of_ble_eq_true rfl)
  rw [lg_entry_eq]
  generalize (lg_sl ([.ref h0, .int 3, .int 0]) ++ List.replicate (4 - (lg_sl ([.ref h0, .int 3, .int 0])).length) Slot.unset).toArray = ls at hl ⊢
  have hl : lv_has ls 4 [(0, .ref h0), (1, .int 3), (2, .int 0)] := hl
  refine lv_aload_n hx hb dX3_write_0 rfl (lv_at hl 0 rfl) ?_
  refine va_get (D := G) (ci := 2) (v := .int 1) (C := RX3) (T := TX3) (N := 4) hx hb hts iX3 hown hK hP 0 rfl rfl 3 (by decide) (hw (.fieldLink RX3 28 "MotionFloor$Ledger" "size" "I") (List.mem_of_getElem? (i := 0) rfl)) (fun _ h9 => h9) rfl dX3_write_1 ?_
  refine lv_iconst (v := 1) hx hb dX3_write_4 (by decide) ?_
  refine lv_isub hx hb dX3_write_5 ?_
  refine wTop (v1 := .int 0) (congrArg Value.int (by decide)) ?_
  refine lv_aload_n hx hb dX3_write_6 rfl (lv_at hl 0 rfl) ?_
  refine va_get (D := G) (ci := 2) (v := .int 7) (C := RX3) (T := TX3) (N := 4) hx hb hts iX3 hown hK hP 0 rfl rfl 0 (by decide) (hw (.fieldLink RX3 15 "MotionFloor$Ledger" "columns" "I") (List.mem_of_getElem? (i := 1) rfl)) (fun _ h9 => h9) rfl dX3_write_7 ?_
  refine lv_imul hx hb dX3_write_10 ?_
  refine wTop (v1 := .int 0) (congrArg Value.int (by decide)) ?_
  refine lv_iload_n hx hb dX3_write_11 rfl (lv_at hl 1 rfl) ?_
  refine lv_iadd hx hb dX3_write_12 ?_
  refine wTop (v1 := .int 3) (congrArg Value.int (by decide)) ?_
  refine lv_istore_n (lv' := [(3, .int 3), (0, .ref h0), (1, .int 3), (2, .int 0)]) hx hb dX3_write_13 rfl hl (by decide) rfl (fun ls hl => ?_)
  refine lv_iload_n hx hb dX3_write_14 rfl (lv_at hl 2 rfl) ?_
  refine lv_if_lt (tgt := 46) hx hb dX3_write_15 (by decide) (fun c_ => absurd c_ (by decide)) (fun _ => ?_)
  refine lv_iload_n hx hb dX3_write_18 rfl (lv_at hl 2 rfl) ?_
  refine lv_aload_n hx hb dX3_write_19 rfl (lv_at hl 1 rfl) ?_
  refine va_get (D := G) (ci := 2) (v := .int 7) (C := RX3) (T := TX3) (N := 4) hx hb hts iX3 hown hK hP 0 rfl rfl 0 (by decide) (hw (.fieldLink RX3 15 "MotionFloor$Ledger" "columns" "I") (List.mem_of_getElem? (i := 1) rfl)) (fun _ h9 => h9) rfl dX3_write_20 ?_
  refine lv_icmp_ge (tgt := 46) hx hb dX3_write_23 (by decide) (fun c_ => absurd c_ (by decide)) (fun _ => ?_)
  refine lv_iload_n hx hb dX3_write_26 rfl (lv_at hl 0 rfl) ?_
  refine lv_if_lt (tgt := 46) hx hb dX3_write_27 (by decide) (fun c_ => absurd c_ (by decide)) (fun _ => ?_)
  refine lv_iload_n hx hb dX3_write_30 rfl (lv_at hl 0 rfl) ?_
  refine lv_aload_n hx hb dX3_write_31 rfl (lv_at hl 1 rfl) ?_
  refine va_get (D := G) (ci := 2) (v := .ref h1) (C := RX3) (T := TX3) (N := 4) hx hb hts iX3 hown hK hP 0 rfl rfl 2 (by decide) (hw (.fieldLink RX3 24 "MotionFloor$Ledger" "cells" "[I") (List.mem_of_getElem? (i := 2) rfl)) (fun _ h9 => h9) rfl dX3_write_32 ?_
  refine va_alen (v := 112) hx hb hK hP 1 0 rfl rfl rfl dX3_write_35 ?_
  refine lv_icmp_ge (tgt := 46) hx hb dX3_write_36 (by decide) (fun c_ => absurd c_ (by decide)) (fun _ => ?_)
  refine lv_aload_n hx hb dX3_write_39 rfl (lv_at hl 1 rfl) ?_
  refine va_get (D := G) (ci := 2) (v := .ref h1) (C := RX3) (T := TX3) (N := 4) hx hb hts iX3 hown hK hP 0 rfl rfl 2 (by decide) (hw (.fieldLink RX3 24 "MotionFloor$Ledger" "cells" "[I") (List.mem_of_getElem? (i := 2) rfl)) (fun _ h9 => h9) rfl dX3_write_40 ?_
  refine lv_iload_n hx hb dX3_write_43 rfl (lv_at hl 0 rfl) ?_
  refine lv_iload_n hx hb dX3_write_44 rfl (lv_at hl 3 rfl) ?_
  refine va_iast hx hb hK hP hD hS 1 0 rfl rfl (vp_in_iff.mpr (by decide)) dX3_write_45 (fun H locs hP hD hS => ?_)
  have hP : va_P G vwCl [(h0, .inr (2, [.int 7, .int 600, .ref h1, .int 1])), (h1, .inl (K 0, 112, .inl (upd (upd (upd (upd (fun _ => 0) 0 6) 1 p0) 2 0) 3 0)))] _ := hP
  have hD : va_D A [(h0, .inr (2, [.int 7, .int 600, .ref h1, .int 1])), (h1, .inl (K 0, 112, .inl (upd (upd (upd (upd (fun _ => 0) 0 6) 1 p0) 2 0) 3 0)))] := hD
  have hP9 : va_P G vwCl [(h0, .inr (2, [.int 7, .int 600, .ref h1, .int 1])), (h1, .inl (K 0, 112, .inl (upd (upd (upd (upd (fun _ => 0) 0 6) 1 p0) 2 0) 3 0)))] _ := hP
  have hD9 : va_D A [(h0, .inr (2, [.int 7, .int 600, .ref h1, .int 1])), (h1, .inl (K 0, 112, .inl (upd (upd (upd (upd (fun _ => 0) 0 6) 1 p0) 2 0) 3 0)))] := hD
  exact W.vret hx hb hr (fun t ht hW => ⟨⟨_, rfl, rfl, by rw [ht]; exact hP9, hD9⟩, hS.F ht⟩) hS.2.2 dX3_write_46
def e_X3_write_25 : List Cond := [.fieldLink RX3 28 "MotionFloor$Ledger" "size" "I", .fieldLink RX3 15 "MotionFloor$Ledger" "columns" "I", .fieldLink RX3 24 "MotionFloor$Ledger" "cells" "[I"]
def v_X3_write_25 : List Cond := .code yX3_write cX3_write 4 none :: (e_X3_write_25 ++ (wsX30 ++ []))
theorem te_X3_write_25 : GoodIn lw_tbl e_X3_write_25 := wGc z302 (wGc z38 (wGc z36 (wG0)))
theorem t_X3_write_25 : GoodIn lw_tbl v_X3_write_25 := wGc z334 (wGa te_X3_write_25 (wGa zcX3 (wG0)))
set_option maxHeartbeats 4000000 in
set_option maxRecDepth 100000 in
theorem m_X3_write_25 (l : Launch) (G : va_G) (K : Nat → ClassId) (h0 h1 : Nat) (p0 : Int32) (sz : Nat) (bp0 : 0 ≤ p0.toInt ∧ p0.toInt ≤ 99) : Met l yX3_write v_X3_write_25 ({ frames := 0, cells := 0, slots := 0, locals := 0 }) (va_Pc [.ref h0, .int 4, .int 0] (wS G K sz [(h0, .inr (2, [.int 7, .int 600, .ref h1, .int 1])), (h1, .inl (K 0, 112, .inl (upd (upd (upd (upd (fun _ => 0) 0 6) 1 p0) 2 0) 3 0)))])) (va_Qv (fun u : va_W => (u = [(h0, .inr (2, [.int 7, .int 600, .ref h1, .int 1])), (h1, .inl (K 0, 112, .inl (upd (upd (upd (upd (upd (fun _ => 0) 0 6) 1 p0) 2 0) 3 0) 4 0)))])) (wB G (va_A [(h0, .inr (2, [.int 7, .int 600, .ref h1, .int 1])), (h1, .inl (K 0, 112, .inl (upd (upd (upd (upd (fun _ => 0) 0 6) 1 p0) 2 0) 3 0)))] sz)) (va_A [(h0, .inr (2, [.int 7, .int 600, .ref h1, .int 1])), (h1, .inl (K 0, 112, .inl (upd (upd (upd (upd (fun _ => 0) 0 6) 1 p0) 2 0) 3 0)))] sz)) 0 0 (va_A [(h0, .inr (2, [.int 7, .int 600, .ref h1, .int 1])), (h1, .inl (K 0, 112, .inl (upd (upd (upd (upd (fun _ => 0) 0 6) 1 p0) 2 0) 3 0)))] sz) := by
  refine Met.ofW (cc := cX3_write) (maxL := 4) (ret := none) (by decide) rfl ?_
  intro p e s m args below meth c s₁ B hml hv
  obtain ⟨rfl, hsz, hP, hK, hD0, hE⟩ := hv
  have hx := B.exec
  have hb := B.bytes
  have hr := B.returns
  have hts := atoms_spec (ws := v_X3_write_25) B.pre
  have t_ := t_X3_write_25
  have mw : ∀ w ∈ e_X3_write_25, w ∈ v_X3_write_25 := fun w h => List.mem_cons_of_mem _ (List.mem_append_left _ h)
  have hw := fun w (h : w ∈ e_X3_write_25) => hts w (mw w h)
  have iX3 : ∀ w ∈ wsX30, w ∈ v_X3_write_25 := fun w h => List.mem_cons_of_mem _ (List.mem_append_right _ (List.mem_append_left _ h))
  have hown : s.vm.findClass RX3 = some m.cls := findClass_of_methodNamed B.named
  have hlocks := B.notSynchronized
  subst hsz
  have hD := hD0.self (sz := s.heap.size)
  generalize hAe : va_A [(h0, .inr (2, [.int 7, .int 600, .ref h1, .int 1])), (h1, .inl (K 0, 112, .inl (upd (upd (upd (upd (fun _ => 0) 0 6) 1 p0) 2 0) 3 0)))] s.heap.size = A at hD ⊢
  have hA : ∀ q : Nat, s.heap.size ≤ q → A q := fun q h => by rw [← hAe]; exact Or.inr h
  have hS : va_S A s.heap s.heap [] := va_S.rf
  have hP : va_P G vwCl [(h0, .inr (2, [.int 7, .int 600, .ref h1, .int 1])), (h1, .inl (K 0, 112, .inl (upd (upd (upd (upd (fun _ => 0) 0 6) 1 p0) 2 0) 3 0)))] s.heap := hP
  have hl := lv_entry ([.ref h0, .int 4, .int 0]) (n := 4) (Nat.le_of_ble_eq_true rfl)
  rw [lg_entry_eq]
  generalize (lg_sl ([.ref h0, .int 4, .int 0]) ++ List.replicate (4 - (lg_sl ([.ref h0, .int 4, .int 0])).length) Slot.unset).toArray = ls at hl ⊢
  have hl : lv_has ls 4 [(0, .ref h0), (1, .int 4), (2, .int 0)] := hl
  refine lv_aload_n hx hb dX3_write_0 rfl (lv_at hl 0 rfl) ?_
  refine va_get (D := G) (ci := 2) (v := .int 1) (C := RX3) (T := TX3) (N := 4) hx hb hts iX3 hown hK hP 0 rfl rfl 3 (by decide) (hw (.fieldLink RX3 28 "MotionFloor$Ledger" "size" "I") (List.mem_of_getElem? (i := 0) rfl)) (fun _ h9 => h9) rfl dX3_write_1 ?_
  refine lv_iconst (v := 1) hx hb dX3_write_4 (by decide) ?_
  refine lv_isub hx hb dX3_write_5 ?_
  refine wTop (v1 := .int 0) (congrArg Value.int (by decide)) ?_
  refine lv_aload_n hx hb dX3_write_6 rfl (lv_at hl 0 rfl) ?_
  refine va_get (D := G) (ci := 2) (v := .int 7) (C := RX3) (T := TX3) (N := 4) hx hb hts iX3 hown hK hP 0 rfl rfl 0 (by decide) (hw (.fieldLink RX3 15 "MotionFloor$Ledger" "columns" "I") (List.mem_of_getElem? (i := 1) rfl)) (fun _ h9 => h9) rfl dX3_write_7 ?_
  refine lv_imul hx hb dX3_write_10 ?_
  refine wTop (v1 := .int 0) (congrArg Value.int (by decide)) ?_
  refine lv_iload_n hx hb dX3_write_11 rfl (lv_at hl 1 rfl) ?_
  refine lv_iadd hx hb dX3_write_12 ?_
  refine wTop (v1 := .int 4) (congrArg Value.int (by decide)) ?_
  refine lv_istore_n (lv' := [(3, .int 4), (0, .ref h0), (1, .int 4), (2, .int 0)]) hx hb dX3_write_13 rfl hl (by decide) rfl (fun ls hl => ?_)
  refine lv_iload_n hx hb dX3_write_14 rfl (lv_at hl 2 rfl) ?_
  refine lv_if_lt (tgt := 46) hx hb dX3_write_15 (by decide) (fun c_ => absurd c_ (by decide)) (fun _ => ?_)
  refine lv_iload_n hx hb dX3_write_18 rfl (lv_at hl 2 rfl) ?_
  refine lv_aload_n hx hb dX3_write_19 rfl (lv_at hl 1 rfl) ?_
  refine va_get (D := G) (ci := 2) (v := .int 7) (C := RX3) (T := TX3) (N := 4) hx hb hts iX3 hown hK hP 0 rfl rfl 0 (by decide) (hw (.fieldLink RX3 15 "MotionFloor$Ledger" "columns" "I") (List.mem_of_getElem? (i := 1) rfl)) (fun _ h9 => h9) rfl dX3_write_20 ?_
  refine lv_icmp_ge (tgt := 46) hx hb dX3_write_23 (by decide) (fun c_ => absurd c_ (by decide)) (fun _ => ?_)
  refine lv_iload_n hx hb dX3_write_26 rfl (lv_at hl 0 rfl) ?_
  refine lv_if_lt (tgt := 46) hx hb dX3_write_27 (by decide) (fun c_ => absurd c_ (by decide)) (fun _ => ?_)
  refine lv_iload_n hx hb dX3_write_30 rfl (lv_at hl 0 rfl) ?_
  refine lv_aload_n hx hb dX3_write_31 rfl (lv_at hl 1 rfl) ?_
  refine va_get (D := G) (ci := 2) (v := .ref h1) (C := RX3) (T := TX3) (N := 4) hx hb hts iX3 hown hK hP 0 rfl rfl 2 (by decide) (hw (.fieldLink RX3 24 "MotionFloor$Ledger" "cells" "[I") (List.mem_of_getElem? (i := 2) rfl)) (fun _ h9 => h9) rfl dX3_write_32 ?_
  refine va_alen (v := 112) hx hb hK hP 1 0 rfl rfl rfl dX3_write_35 ?_
  refine lv_icmp_ge (tgt := 46) hx hb dX3_write_36 (by decide) (fun c_ => absurd c_ (by decide)) (fun _ => ?_)
  refine lv_aload_n hx hb dX3_write_39 rfl (lv_at hl 1 rfl) ?_
  refine va_get (D := G) (ci := 2) (v := .ref h1) (C := RX3) (T := TX3) (N := 4) hx hb hts iX3 hown hK hP 0 rfl rfl 2 (by decide) (hw (.fieldLink RX3 24 "MotionFloor$Ledger" "cells" "[I") (List.mem_of_getElem? (i := 2) rfl)) (fun _ h9 => h9) rfl dX3_write_40 ?_
  refine lv_iload_n hx hb dX3_write_43 rfl (lv_at hl 0 rfl) ?_
  refine lv_iload_n hx hb dX3_write_44 rfl (lv_at hl 3 rfl) ?_
  refine va_iast hx hb hK hP hD hS 1 0 rfl rfl (vp_in_iff.mpr (by decide)) dX3_write_45 (fun H locs hP hD hS => ?_)
  have hP : va_P G vwCl [(h0, .inr (2, [.int 7, .int 600, .ref h1, .int 1])), (h1, .inl (K 0, 112, .inl (upd (upd (upd (upd (upd (fun _ => 0) 0 6) 1 p0) 2 0) 3 0) 4 0)))] _ := hP
  have hD : va_D A [(h0, .inr (2, [.int 7, .int 600, .ref h1, .int 1])), (h1, .inl (K 0, 112, .inl (upd (upd (upd (upd (upd (fun _ => 0) 0 6) 1 p0) 2 0) 3 0) 4 0)))] := hD
  have hP9 : va_P G vwCl [(h0, .inr (2, [.int 7, .int 600, .ref h1, .int 1])), (h1, .inl (K 0, 112, .inl (upd (upd (upd (upd (upd (fun _ => 0) 0 6) 1 p0) 2 0) 3 0) 4 0)))] _ := hP
  have hD9 : va_D A [(h0, .inr (2, [.int 7, .int 600, .ref h1, .int 1])), (h1, .inl (K 0, 112, .inl (upd (upd (upd (upd (upd (fun _ => 0) 0 6) 1 p0) 2 0) 3 0) 4 0)))] := hD
  exact W.vret hx hb hr (fun t ht hW => ⟨⟨_, rfl, rfl, by rw [ht]; exact hP9, hD9⟩, hS.F ht⟩) hS.2.2 dX3_write_46
def e_X3_write_26 : List Cond := [.fieldLink RX3 28 "MotionFloor$Ledger" "size" "I", .fieldLink RX3 15 "MotionFloor$Ledger" "columns" "I", .fieldLink RX3 24 "MotionFloor$Ledger" "cells" "[I"]
def v_X3_write_26 : List Cond := .code yX3_write cX3_write 4 none :: (e_X3_write_26 ++ (wsX30 ++ []))
theorem te_X3_write_26 : GoodIn lw_tbl e_X3_write_26 := wGc z302 (wGc z38 (wGc z36 (wG0)))
theorem t_X3_write_26 : GoodIn lw_tbl v_X3_write_26 := wGc z334 (wGa te_X3_write_26 (wGa zcX3 (wG0)))
set_option maxHeartbeats 4000000 in
set_option maxRecDepth 100000 in
theorem m_X3_write_26 (l : Launch) (G : va_G) (K : Nat → ClassId) (h0 h1 : Nat) (p0 : Int32) (sz : Nat) (bp0 : 0 ≤ p0.toInt ∧ p0.toInt ≤ 99) : Met l yX3_write v_X3_write_26 ({ frames := 0, cells := 0, slots := 0, locals := 0 }) (va_Pc [.ref h0, .int 5, .int p0] (wS G K sz [(h0, .inr (2, [.int 7, .int 600, .ref h1, .int 1])), (h1, .inl (K 0, 112, .inl (upd (upd (upd (upd (upd (fun _ => 0) 0 6) 1 p0) 2 0) 3 0) 4 0)))])) (va_Qv (fun u : va_W => (u = [(h0, .inr (2, [.int 7, .int 600, .ref h1, .int 1])), (h1, .inl (K 0, 112, .inl (upd (upd (upd (upd (upd (upd (fun _ => 0) 0 6) 1 p0) 2 0) 3 0) 4 0) 5 p0)))])) (wB G (va_A [(h0, .inr (2, [.int 7, .int 600, .ref h1, .int 1])), (h1, .inl (K 0, 112, .inl (upd (upd (upd (upd (upd (fun _ => 0) 0 6) 1 p0) 2 0) 3 0) 4 0)))] sz)) (va_A [(h0, .inr (2, [.int 7, .int 600, .ref h1, .int 1])), (h1, .inl (K 0, 112, .inl (upd (upd (upd (upd (upd (fun _ => 0) 0 6) 1 p0) 2 0) 3 0) 4 0)))] sz)) 0 0 (va_A [(h0, .inr (2, [.int 7, .int 600, .ref h1, .int 1])), (h1, .inl (K 0, 112, .inl (upd (upd (upd (upd (upd (fun _ => 0) 0 6) 1 p0) 2 0) 3 0) 4 0)))] sz) := by
  refine Met.ofW (cc := cX3_write) (maxL := 4) (ret := none) (by decide) rfl ?_
  intro p e s m args below meth c s₁ B hml hv
  obtain ⟨rfl, hsz, hP, hK, hD0, hE⟩ := hv
  have hx := B.exec
  have hb := B.bytes
  have hr := B.returns
  have hts := atoms_spec (ws := v_X3_write_26) B.pre
  have t_ := t_X3_write_26
  have mw : ∀ w ∈ e_X3_write_26, w ∈ v_X3_write_26 := fun w h => List.mem_cons_of_mem _ (List.mem_append_left _ h)
  have hw := fun w (h : w ∈ e_X3_write_26) => hts w (mw w h)
  have iX3 : ∀ w ∈ wsX30, w ∈ v_X3_write_26 := fun w h => List.mem_cons_of_mem _ (List.mem_append_right _ (List.mem_append_left _ h))
  have hown : s.vm.findClass RX3 = some m.cls := findClass_of_methodNamed B.named
  have hlocks := B.notSynchronized
  subst hsz
  have hD := hD0.self (sz := s.heap.size)
  generalize hAe : va_A [(h0, .inr (2, [.int 7, .int 600, .ref h1, .int 1])), (h1, .inl (K 0, 112, .inl (upd (upd (upd (upd (upd (fun _ => 0) 0 6) 1 p0) 2 0) 3 0) 4 0)))] s.heap.size = A at hD ⊢
  have hA : ∀ q : Nat, s.heap.size ≤ q → A q := fun q h => by rw [← hAe]; exact Or.inr h
  have hS : va_S A s.heap s.heap [] := va_S.rf
  have hP : va_P G vwCl [(h0, .inr (2, [.int 7, .int 600, .ref h1, .int 1])), (h1, .inl (K 0, 112, .inl (upd (upd (upd (upd (upd (fun _ => 0) 0 6) 1 p0) 2 0) 3 0) 4 0)))] s.heap := hP
  have hl := lv_entry ([.ref h0, .int 5, .int p0]) (n := 4) (Nat.le_of_ble_eq_true rfl)
  rw [lg_entry_eq]
  generalize (lg_sl ([.ref h0, .int 5, .int p0]) ++ List.replicate (4 - (lg_sl ([.ref h0, .int 5, .int p0])).length) Slot.unset).toArray = ls at hl ⊢
  have hl : lv_has ls 4 [(0, .ref h0), (1, .int 5), (2, .int p0)] := hl
  refine lv_aload_n hx hb dX3_write_0 rfl (lv_at hl 0 rfl) ?_
  refine va_get (D := G) (ci := 2) (v := .int 1) (C := RX3) (T := TX3) (N := 4) hx hb hts iX3 hown hK hP 0 rfl rfl 3 (by decide) (hw (.fieldLink RX3 28 "MotionFloor$Ledger" "size" "I") (List.mem_of_getElem? (i := 0) rfl)) (fun _ h9 => h9) rfl dX3_write_1 ?_
  refine lv_iconst (v := 1) hx hb dX3_write_4 (by decide) ?_
  refine lv_isub hx hb dX3_write_5 ?_
  refine wTop (v1 := .int 0) (congrArg Value.int (by decide)) ?_
  refine lv_aload_n hx hb dX3_write_6 rfl (lv_at hl 0 rfl) ?_
  refine va_get (D := G) (ci := 2) (v := .int 7) (C := RX3) (T := TX3) (N := 4) hx hb hts iX3 hown hK hP 0 rfl rfl 0 (by decide) (hw (.fieldLink RX3 15 "MotionFloor$Ledger" "columns" "I") (List.mem_of_getElem? (i := 1) rfl)) (fun _ h9 => h9) rfl dX3_write_7 ?_
  refine lv_imul hx hb dX3_write_10 ?_
  refine wTop (v1 := .int 0) (congrArg Value.int (by decide)) ?_
  refine lv_iload_n hx hb dX3_write_11 rfl (lv_at hl 1 rfl) ?_
  refine lv_iadd hx hb dX3_write_12 ?_
  refine wTop (v1 := .int 5) (congrArg Value.int (by decide)) ?_
  refine lv_istore_n (lv' := [(3, .int 5), (0, .ref h0), (1, .int 5), (2, .int p0)]) hx hb dX3_write_13 rfl hl (by decide) rfl (fun ls hl => ?_)
  refine lv_iload_n hx hb dX3_write_14 rfl (lv_at hl 2 rfl) ?_
  refine lv_if_lt (tgt := 46) hx hb dX3_write_15 (by decide) (fun c_ => absurd c_ (by decide)) (fun _ => ?_)
  refine lv_iload_n hx hb dX3_write_18 rfl (lv_at hl 2 rfl) ?_
  refine lv_aload_n hx hb dX3_write_19 rfl (lv_at hl 1 rfl) ?_
  refine va_get (D := G) (ci := 2) (v := .int 7) (C := RX3) (T := TX3) (N := 4) hx hb hts iX3 hown hK hP 0 rfl rfl 0 (by decide) (hw (.fieldLink RX3 15 "MotionFloor$Ledger" "columns" "I") (List.mem_of_getElem? (i := 1) rfl)) (fun _ h9 => h9) rfl dX3_write_20 ?_
  refine lv_icmp_ge (tgt := 46) hx hb dX3_write_23 (by decide) (fun c_ => absurd c_ (by decide)) (fun _ => ?_)
  refine lv_iload_n hx hb dX3_write_26 rfl (lv_at hl 0 rfl) ?_
  refine lv_if_lt (tgt := 46) hx hb dX3_write_27 (by decide) (fun c_ => absurd c_ (by decide)) (fun _ => ?_)
  refine lv_iload_n hx hb dX3_write_30 rfl (lv_at hl 0 rfl) ?_
  refine lv_aload_n hx hb dX3_write_31 rfl (lv_at hl 1 rfl) ?_
  refine va_get (D := G) (ci := 2) (v := .ref h1) (C := RX3) (T := TX3) (N := 4) hx hb hts iX3 hown hK hP 0 rfl rfl 2 (by decide) (hw (.fieldLink RX3 24 "MotionFloor$Ledger" "cells" "[I") (List.mem_of_getElem? (i := 2) rfl)) (fun _ h9 => h9) rfl dX3_write_32 ?_
  refine va_alen (v := 112) hx hb hK hP 1 0 rfl rfl rfl dX3_write_35 ?_
  refine lv_icmp_ge (tgt := 46) hx hb dX3_write_36 (by decide) (fun c_ => absurd c_ (by decide)) (fun _ => ?_)
  refine lv_aload_n hx hb dX3_write_39 rfl (lv_at hl 1 rfl) ?_
  refine va_get (D := G) (ci := 2) (v := .ref h1) (C := RX3) (T := TX3) (N := 4) hx hb hts iX3 hown hK hP 0 rfl rfl 2 (by decide) (hw (.fieldLink RX3 24 "MotionFloor$Ledger" "cells" "[I") (List.mem_of_getElem? (i := 2) rfl)) (fun _ h9 => h9) rfl dX3_write_40 ?_
  refine lv_iload_n hx hb dX3_write_43 rfl (lv_at hl 0 rfl) ?_
  refine lv_iload_n hx hb dX3_write_44 rfl (lv_at hl 3 rfl) ?_
  refine va_iast hx hb hK hP hD hS 1 0 rfl rfl (vp_in_iff.mpr (by decide)) dX3_write_45 (fun H locs hP hD hS => ?_)
  have hP : va_P G vwCl [(h0, .inr (2, [.int 7, .int 600, .ref h1, .int 1])), (h1, .inl (K 0, 112, .inl (upd (upd (upd (upd (upd (upd (fun _ => 0) 0 6) 1 p0) 2 0) 3 0) 4 0) 5 p0)))] _ := hP
  have hD : va_D A [(h0, .inr (2, [.int 7, .int 600, .ref h1, .int 1])), (h1, .inl (K 0, 112, .inl (upd (upd (upd (upd (upd (upd (fun _ => 0) 0 6) 1 p0) 2 0) 3 0) 4 0) 5 p0)))] := hD
  have hP9 : va_P G vwCl [(h0, .inr (2, [.int 7, .int 600, .ref h1, .int 1])), (h1, .inl (K 0, 112, .inl (upd (upd (upd (upd (upd (upd (fun _ => 0) 0 6) 1 p0) 2 0) 3 0) 4 0) 5 p0)))] _ := hP
  have hD9 : va_D A [(h0, .inr (2, [.int 7, .int 600, .ref h1, .int 1])), (h1, .inl (K 0, 112, .inl (upd (upd (upd (upd (upd (upd (fun _ => 0) 0 6) 1 p0) 2 0) 3 0) 4 0) 5 p0)))] := hD
  exact W.vret hx hb hr (fun t ht hW => ⟨⟨_, rfl, rfl, by rw [ht]; exact hP9, hD9⟩, hS.F ht⟩) hS.2.2 dX3_write_46
def e_X3_write_27 : List Cond := [.fieldLink RX3 28 "MotionFloor$Ledger" "size" "I", .fieldLink RX3 15 "MotionFloor$Ledger" "columns" "I", .fieldLink RX3 24 "MotionFloor$Ledger" "cells" "[I"]
def v_X3_write_27 : List Cond := .code yX3_write cX3_write 4 none :: (e_X3_write_27 ++ (wsX30 ++ []))
theorem te_X3_write_27 : GoodIn lw_tbl e_X3_write_27 := wGc z302 (wGc z38 (wGc z36 (wG0)))
theorem t_X3_write_27 : GoodIn lw_tbl v_X3_write_27 := wGc z334 (wGa te_X3_write_27 (wGa zcX3 (wG0)))
set_option maxHeartbeats 4000000 in
set_option maxRecDepth 100000 in
theorem m_X3_write_27 (l : Launch) (G : va_G) (K : Nat → ClassId) (h0 h1 : Nat) (p0 : Int32) (sz : Nat) (bp0 : 0 ≤ p0.toInt ∧ p0.toInt ≤ 99) : Met l yX3_write v_X3_write_27 ({ frames := 0, cells := 0, slots := 0, locals := 0 }) (va_Pc [.ref h0, .int 6, .int 0] (wS G K sz [(h0, .inr (2, [.int 7, .int 600, .ref h1, .int 1])), (h1, .inl (K 0, 112, .inl (upd (upd (upd (upd (upd (upd (fun _ => 0) 0 6) 1 p0) 2 0) 3 0) 4 0) 5 p0)))])) (va_Qv (fun u : va_W => (u = [(h0, .inr (2, [.int 7, .int 600, .ref h1, .int 1])), (h1, .inl (K 0, 112, .inl (upd (upd (upd (upd (upd (upd (upd (fun _ => 0) 0 6) 1 p0) 2 0) 3 0) 4 0) 5 p0) 6 0)))])) (wB G (va_A [(h0, .inr (2, [.int 7, .int 600, .ref h1, .int 1])), (h1, .inl (K 0, 112, .inl (upd (upd (upd (upd (upd (upd (fun _ => 0) 0 6) 1 p0) 2 0) 3 0) 4 0) 5 p0)))] sz)) (va_A [(h0, .inr (2, [.int 7, .int 600, .ref h1, .int 1])), (h1, .inl (K 0, 112, .inl (upd (upd (upd (upd (upd (upd (fun _ => 0) 0 6) 1 p0) 2 0) 3 0) 4 0) 5 p0)))] sz)) 0 0 (va_A [(h0, .inr (2, [.int 7, .int 600, .ref h1, .int 1])), (h1, .inl (K 0, 112, .inl (upd (upd (upd (upd (upd (upd (fun _ => 0) 0 6) 1 p0) 2 0) 3 0) 4 0) 5 p0)))] sz) := by
  refine Met.ofW (cc := cX3_write) (maxL := 4) (ret := none) (by decide) rfl ?_
  intro p e s m args below meth c s₁ B hml hv
  obtain ⟨rfl, hsz, hP, hK, hD0, hE⟩ := hv
  have hx := B.exec
  have hb := B.bytes
  have hr := B.returns
  have hts := atoms_spec (ws := v_X3_write_27) B.pre
  have t_ := t_X3_write_27
  have mw : ∀ w ∈ e_X3_write_27, w ∈ v_X3_write_27 := fun w h => List.mem_cons_of_mem _ (List.mem_append_left _ h)
  have hw := fun w (h : w ∈ e_X3_write_27) => hts w (mw w h)
  have iX3 : ∀ w ∈ wsX30, w ∈ v_X3_write_27 := fun w h => List.mem_cons_of_mem _ (List.mem_append_right _ (List.mem_append_left _ h))
  have hown : s.vm.findClass RX3 = some m.cls := findClass_of_methodNamed B.named
  have hlocks := B.notSynchronized
  subst hsz
  have hD := hD0.self (sz := s.heap.size)
  generalize hAe : va_A [(h0, .inr (2, [.int 7, .int 600, .ref h1, .int 1])), (h1, .inl (K 0, 112, .inl (upd (upd (upd (upd (upd (upd (fun _ => 0) 0 6) 1 p0) 2 0) 3 0) 4 0) 5 p0)))] s.heap.size = A at hD ⊢
  have hA : ∀ q : Nat, s.heap.size ≤ q → A q := fun q h => by rw [← hAe]; exact Or.inr h
  have hS : va_S A s.heap s.heap [] := va_S.rf
  have hP : va_P G vwCl [(h0, .inr (2, [.int 7, .int 600, .ref h1, .int 1])), (h1, .inl (K 0, 112, .inl (upd (upd (upd (upd (upd (upd (fun _ => 0) 0 6) 1 p0) 2 0) 3 0) 4 0) 5 p0)))] s.heap := hP
  have hl := lv_entry ([.ref h0, .int 6, .int 0]) (n := 4) (Nat.le_of_ble_eq_true rfl)
  rw [lg_entry_eq]
  generalize (lg_sl ([.ref h0, .int 6, .int 0]) ++ List.replicate (4 - (lg_sl ([.ref h0, .int 6, .int 0])).length) Slot.unset).toArray = ls at hl ⊢
  have hl : lv_has ls 4 [(0, .ref h0), (1, .int 6), (2, .int 0)] := hl
  refine lv_aload_n hx hb dX3_write_0 rfl (lv_at hl 0 rfl) ?_
  refine va_get (D := G) (ci := 2) (v := .int 1) (C := RX3) (T := TX3) (N := 4) hx hb hts iX3 hown hK hP 0 rfl rfl 3 (by decide) (hw (.fieldLink RX3 28 "MotionFloor$Ledger" "size" "I") (List.mem_of_getElem? (i := 0) rfl)) (fun _ h9 => h9) rfl dX3_write_1 ?_
  refine lv_iconst (v := 1) hx hb dX3_write_4 (by decide) ?_
  refine lv_isub hx hb dX3_write_5 ?_
  refine wTop (v1 := .int 0) (congrArg Value.int (by decide)) ?_
  refine lv_aload_n hx hb dX3_write_6 rfl (lv_at hl 0 rfl) ?_
  refine va_get (D := G) (ci := 2) (v := .int 7) (C := RX3) (T := TX3) (N := 4) hx hb hts iX3 hown hK hP 0 rfl rfl 0 (by decide) (hw (.fieldLink RX3 15 "MotionFloor$Ledger" "columns" "I") (List.mem_of_getElem? (i := 1) rfl)) (fun _ h9 => h9) rfl dX3_write_7 ?_
  refine lv_imul hx hb dX3_write_10 ?_
  refine wTop (v1 := .int 0) (congrArg Value.int (by decide)) ?_
  refine lv_iload_n hx hb dX3_write_11 rfl (lv_at hl 1 rfl) ?_
  refine lv_iadd hx hb dX3_write_12 ?_
  refine wTop (v1 := .int 6) (congrArg Value.int (by decide)) ?_
  refine lv_istore_n (lv' := [(3, .int 6), (0, .ref h0), (1, .int 6), (2, .int 0)]) hx hb dX3_write_13 rfl hl (by decide) rfl (fun ls hl => ?_)
  refine lv_iload_n hx hb dX3_write_14 rfl (lv_at hl 2 rfl) ?_
  refine lv_if_lt (tgt := 46) hx hb dX3_write_15 (by decide) (fun c_ => absurd c_ (by decide)) (fun _ => ?_)
  refine lv_iload_n hx hb dX3_write_18 rfl (lv_at hl 2 rfl) ?_
  refine lv_aload_n hx hb dX3_write_19 rfl (lv_at hl 1 rfl) ?_
  refine va_get (D := G) (ci := 2) (v := .int 7) (C := RX3) (T := TX3) (N := 4) hx hb hts iX3 hown hK hP 0 rfl rfl 0 (by decide) (hw (.fieldLink RX3 15 "MotionFloor$Ledger" "columns" "I") (List.mem_of_getElem? (i := 1) rfl)) (fun _ h9 => h9) rfl dX3_write_20 ?_
  refine lv_icmp_ge (tgt := 46) hx hb dX3_write_23 (by decide) (fun c_ => absurd c_ (by decide)) (fun _ => ?_)
  refine lv_iload_n hx hb dX3_write_26 rfl (lv_at hl 0 rfl) ?_
  refine lv_if_lt (tgt := 46) hx hb dX3_write_27 (by decide) (fun c_ => absurd c_ (by decide)) (fun _ => ?_)
  refine lv_iload_n hx hb dX3_write_30 rfl (lv_at hl 0 rfl) ?_
  refine lv_aload_n hx hb dX3_write_31 rfl (lv_at hl 1 rfl) ?_
  refine va_get (D := G) (ci := 2) (v := .ref h1) (C := RX3) (T := TX3) (N := 4) hx hb hts iX3 hown hK hP 0 rfl rfl 2 (by decide) (hw (.fieldLink RX3 24 "MotionFloor$Ledger" "cells" "[I") (List.mem_of_getElem? (i := 2) rfl)) (fun _ h9 => h9) rfl dX3_write_32 ?_
  refine va_alen (v := 112) hx hb hK hP 1 0 rfl rfl rfl dX3_write_35 ?_
  refine lv_icmp_ge (tgt := 46) hx hb dX3_write_36 (by decide) (fun c_ => absurd c_ (by decide)) (fun _ => ?_)
  refine lv_aload_n hx hb dX3_write_39 rfl (lv_at hl 1 rfl) ?_
  refine va_get (D := G) (ci := 2) (v := .ref h1) (C := RX3) (T := TX3) (N := 4) hx hb hts iX3 hown hK hP 0 rfl rfl 2 (by decide) (hw (.fieldLink RX3 24 "MotionFloor$Ledger" "cells" "[I") (List.mem_of_getElem? (i := 2) rfl)) (fun _ h9 => h9) rfl dX3_write_40 ?_
  refine lv_iload_n hx hb dX3_write_43 rfl (lv_at hl 0 rfl) ?_
  refine lv_iload_n hx hb dX3_write_44 rfl (lv_at hl 3 rfl) ?_
  refine va_iast hx hb hK hP hD hS 1 0 rfl rfl (vp_in_iff.mpr (by decide)) dX3_write_45 (fun H locs hP hD hS => ?_)
  have hP : va_P G vwCl [(h0, .inr (2, [.int 7, .int 600, .ref h1, .int 1])), (h1, .inl (K 0, 112, .inl (upd (upd (upd (upd (upd (upd (upd (fun _ => 0) 0 6) 1 p0) 2 0) 3 0) 4 0) 5 p0) 6 0)))] _ := hP
  have hD : va_D A [(h0, .inr (2, [.int 7, .int 600, .ref h1, .int 1])), (h1, .inl (K 0, 112, .inl (upd (upd (upd (upd (upd (upd (upd (fun _ => 0) 0 6) 1 p0) 2 0) 3 0) 4 0) 5 p0) 6 0)))] := hD
  have hP9 : va_P G vwCl [(h0, .inr (2, [.int 7, .int 600, .ref h1, .int 1])), (h1, .inl (K 0, 112, .inl (upd (upd (upd (upd (upd (upd (upd (fun _ => 0) 0 6) 1 p0) 2 0) 3 0) 4 0) 5 p0) 6 0)))] _ := hP
  have hD9 : va_D A [(h0, .inr (2, [.int 7, .int 600, .ref h1, .int 1])), (h1, .inl (K 0, 112, .inl (upd (upd (upd (upd (upd (upd (upd (fun _ => 0) 0 6) 1 p0) 2 0) 3 0) 4 0) 5 p0) 6 0)))] := hD
  exact W.vret hx hb hr (fun t ht hW => ⟨⟨_, rfl, rfl, by rw [ht]; exact hP9, hD9⟩, hS.F ht⟩) hS.2.2 dX3_write_46
def e_X0_enact_5 : List Cond := [.methodLink RX0 155 yX8_against, .static yX8_against, .initialized RX8, .fieldLink RX0 73 "MotionFloor$Assembly" "reason" "I", .methodLink RX0 161 yX1_perform, .static yX1_perform, .initialized RX1, .fieldLink RX0 41 "MotionFloor$Assembly" "minutes" "LMotionFloor$Ledger;", .methodLink RX0 166 yX3_open, .instanceMethod yX3_open, .selects RX3 yX3_open yX3_open, .initialized RX3, .methodLink RX0 169 yX3_write, .instanceMethod yX3_write, .selects RX3 yX3_write yX3_write, .fieldLink RX0 21 "MotionFloor$Assembly" "pending" "LMotionFloor$Pile;", .fieldLink RX0 96 "MotionFloor$Pile" "size" "I"]
def v_X0_enact_5 : List Cond := .code yX0_enact cX0_enact 7 (some .int) :: (e_X0_enact_5 ++ (wsX00 ++ (wsX50 ++ (v_X8_against_5 ++ (v_X1_perform_3 ++ (v_X3_open_0 ++ (v_X3_write_21 ++ (v_X3_write_22 ++ (v_X3_write_23 ++ (v_X3_write_24 ++ (v_X3_write_25 ++ (v_X3_write_26 ++ (v_X3_write_27 ++ [])))))))))))))
theorem te_X0_enact_5 : GoodIn lw_tbl e_X0_enact_5 := wGc z345 (wGc z344 (wGc z297 (wGc z263 (wGc z343 (wGc z342 (wGc z341 (wGc z86 (wGc z340 (wGc z339 (wGc z338 (wGc z89 (wGc z337 (wGc z336 (wGc z335 (wGc z98 (wGc z251 (wG0)))))))))))))))))
theorem t_X0_enact_5 : GoodIn lw_tbl v_X0_enact_5 := wGc z346 (wGa te_X0_enact_5 (wGa zcX0 (wGa zcX5 (wGa t_X8_against_5 (wGa t_X1_perform_3 (wGa t_X3_open_0 (wGa t_X3_write_21 (wGa t_X3_write_22 (wGa t_X3_write_23 (wGa t_X3_write_24 (wGa t_X3_write_25 (wGa t_X3_write_26 (wGa t_X3_write_27 (wG0))))))))))))))
set_option maxHeartbeats 4000000 in
set_option maxRecDepth 100000 in
theorem m_X0_enact_5 (l : Launch) (G : va_G) (K : Nat → ClassId) (h0 h1 h2 h3 h4 h5 h6 h7 h8 h9 h10 h11 : Nat) (p0 : Int32) (sz : Nat) : Met l yX0_enact v_X0_enact_5 ({ frames := 3, cells := 0, slots := 0, locals := 70 }) (va_Pc [.ref h0, .int 6, .int p0, .int 0, .int 0, .int 0] (wS G K sz [(h0, .inr (0, [.ref h1, .ref h2, .ref h5, .ref h6, .ref h3, .ref h7, .ref h8, .int 0, .int 0, .int 0, .null])), (h1, .inr (1, [.int 1, .ref h9, .int 0, .int (-1), .int 0, .int 0, .int (-1), .ref h10])), (h2, .inr (4, [.ref h11, .int 0])), (h3, .inr (2, [.int 7, .int 600, .ref h4, .int 0])), (h4, .inl (K 0, 112, .inl (fun _ => 0)))])) (va_Qi (fun (r : Int32) (u : va_W) => ((((p0.toInt < 0 ∨ (p0.toInt ≥ 0 ∧ p0.toInt > 99)))) ∧ (-9) = r ∧ u = [(h0, .inr (0, [.ref h1, .ref h2, .ref h5, .ref h6, .ref h3, .ref h7, .ref h8, .int 0, .int 0, .int 9, .null])), (h1, .inr (1, [.int 1, .ref h9, .int 0, .int (-1), .int 0, .int 0, .int (-1), .ref h10])), (h2, .inr (4, [.ref h11, .int 0])), (h3, .inr (2, [.int 7, .int 600, .ref h4, .int 0])), (h4, .inl (K 0, 112, .inl (fun _ => 0)))]) ∨ (((((p0.toInt ≥ 0 ∧ p0.toInt ≤ 99)))) ∧ p0 = r ∧ u = [(h0, .inr (0, [.ref h1, .ref h2, .ref h5, .ref h6, .ref h3, .ref h7, .ref h8, .int 0, .int 0, .int 0, .null])), (h1, .inr (1, [.int 1, .ref h9, .int 0, .int (-1), .int 0, .int p0, .int (-1), .ref h10])), (h2, .inr (4, [.ref h11, .int 0])), (h3, .inr (2, [.int 7, .int 600, .ref h4, .int 1])), (h4, .inl (K 0, 112, .inl (upd (upd (upd (upd (upd (upd (upd (fun _ => 0) 0 6) 1 p0) 2 0) 3 0) 4 0) 5 p0) 6 0)))])) (wB G (va_A [(h0, .inr (0, [.ref h1, .ref h2, .ref h5, .ref h6, .ref h3, .ref h7, .ref h8, .int 0, .int 0, .int 0, .null])), (h1, .inr (1, [.int 1, .ref h9, .int 0, .int (-1), .int 0, .int 0, .int (-1), .ref h10])), (h2, .inr (4, [.ref h11, .int 0])), (h3, .inr (2, [.int 7, .int 600, .ref h4, .int 0])), (h4, .inl (K 0, 112, .inl (fun _ => 0)))] sz)) (va_A [(h0, .inr (0, [.ref h1, .ref h2, .ref h5, .ref h6, .ref h3, .ref h7, .ref h8, .int 0, .int 0, .int 0, .null])), (h1, .inr (1, [.int 1, .ref h9, .int 0, .int (-1), .int 0, .int 0, .int (-1), .ref h10])), (h2, .inr (4, [.ref h11, .int 0])), (h3, .inr (2, [.int 7, .int 600, .ref h4, .int 0])), (h4, .inl (K 0, 112, .inl (fun _ => 0)))] sz)) 0 0 (va_A [(h0, .inr (0, [.ref h1, .ref h2, .ref h5, .ref h6, .ref h3, .ref h7, .ref h8, .int 0, .int 0, .int 0, .null])), (h1, .inr (1, [.int 1, .ref h9, .int 0, .int (-1), .int 0, .int 0, .int (-1), .ref h10])), (h2, .inr (4, [.ref h11, .int 0])), (h3, .inr (2, [.int 7, .int 600, .ref h4, .int 0])), (h4, .inl (K 0, 112, .inl (fun _ => 0)))] sz) := by
  refine Met.ofW (cc := cX0_enact) (maxL := 7) (ret := (some .int)) (by decide) rfl ?_
  intro p e s m args below meth c s₁ B hml hv
  obtain ⟨rfl, hsz, hP, hK, hD0, hE⟩ := hv
  have hx := B.exec
  have hb := B.bytes
  have hr := B.returns
  have hts := atoms_spec (ws := v_X0_enact_5) B.pre
  have t_ := t_X0_enact_5
  have mw : ∀ w ∈ e_X0_enact_5, w ∈ v_X0_enact_5 := fun w h => List.mem_cons_of_mem _ (List.mem_append_left _ h)
  have hw := fun w (h : w ∈ e_X0_enact_5) => hts w (mw w h)
  have iX0 : ∀ w ∈ wsX00, w ∈ v_X0_enact_5 := fun w h => List.mem_cons_of_mem _ (List.mem_append_right _ (List.mem_append_left _ h))
  have iX5 : ∀ w ∈ wsX50, w ∈ v_X0_enact_5 := fun w h => List.mem_cons_of_mem _ (List.mem_append_right _ (List.mem_append_right _ (List.mem_append_left _ h)))
  have j_X8_against_5 : ∀ w ∈ v_X8_against_5, w ∈ v_X0_enact_5 := fun w h => List.mem_cons_of_mem _ (List.mem_append_right _ (List.mem_append_right _ (List.mem_append_right _ (List.mem_append_left _ h))))
  have j_X1_perform_3 : ∀ w ∈ v_X1_perform_3, w ∈ v_X0_enact_5 := fun w h => List.mem_cons_of_mem _ (List.mem_append_right _ (List.mem_append_right _ (List.mem_append_right _ (List.mem_append_right _ (List.mem_append_left _ h)))))
  have j_X3_open_0 : ∀ w ∈ v_X3_open_0, w ∈ v_X0_enact_5 := fun w h => List.mem_cons_of_mem _ (List.mem_append_right _ (List.mem_append_right _ (List.mem_append_right _ (List.mem_append_right _ (List.mem_append_right _ (List.mem_append_left _ h))))))
  have j_X3_write_21 : ∀ w ∈ v_X3_write_21, w ∈ v_X0_enact_5 := fun w h => List.mem_cons_of_mem _ (List.mem_append_right _ (List.mem_append_right _ (List.mem_append_right _ (List.mem_append_right _ (List.mem_append_right _ (List.mem_append_right _ (List.mem_append_left _ h)))))))
  have j_X3_write_22 : ∀ w ∈ v_X3_write_22, w ∈ v_X0_enact_5 := fun w h => List.mem_cons_of_mem _ (List.mem_append_right _ (List.mem_append_right _ (List.mem_append_right _ (List.mem_append_right _ (List.mem_append_right _ (List.mem_append_right _ (List.mem_append_right _ (List.mem_append_left _ h))))))))
  have j_X3_write_23 : ∀ w ∈ v_X3_write_23, w ∈ v_X0_enact_5 := fun w h => List.mem_cons_of_mem _ (List.mem_append_right _ (List.mem_append_right _ (List.mem_append_right _ (List.mem_append_right _ (List.mem_append_right _ (List.mem_append_right _ (List.mem_append_right _ (List.mem_append_right _ (List.mem_append_left _ h)))))))))
  have j_X3_write_24 : ∀ w ∈ v_X3_write_24, w ∈ v_X0_enact_5 := fun w h => List.mem_cons_of_mem _ (List.mem_append_right _ (List.mem_append_right _ (List.mem_append_right _ (List.mem_append_right _ (List.mem_append_right _ (List.mem_append_right _ (List.mem_append_right _ (List.mem_append_right _ (List.mem_append_right _ (List.mem_append_left _ h))))))))))
  have j_X3_write_25 : ∀ w ∈ v_X3_write_25, w ∈ v_X0_enact_5 := fun w h => List.mem_cons_of_mem _ (List.mem_append_right _ (List.mem_append_right _ (List.mem_append_right _ (List.mem_append_right _ (List.mem_append_right _ (List.mem_append_right _ (List.mem_append_right _ (List.mem_append_right _ (List.mem_append_right _ (List.mem_append_right _ (List.mem_append_left _ h)))))))))))
  have j_X3_write_26 : ∀ w ∈ v_X3_write_26, w ∈ v_X0_enact_5 := fun w h => List.mem_cons_of_mem _ (List.mem_append_right _ (List.mem_append_right _ (List.mem_append_right _ (List.mem_append_right _ (List.mem_append_right _ (List.mem_append_right _ (List.mem_append_right _ (List.mem_append_right _ (List.mem_append_right _ (List.mem_append_right _ (List.mem_append_right _ (List.mem_append_left _ h))))))))))))
  have j_X3_write_27 : ∀ w ∈ v_X3_write_27, w ∈ v_X0_enact_5 := fun w h => List.mem_cons_of_mem _ (List.mem_append_right _ (List.mem_append_right _ (List.mem_append_right _ (List.mem_append_right _ (List.mem_append_right _ (List.mem_append_right _ (List.mem_append_right _ (List.mem_append_right _ (List.mem_append_right _ (List.mem_append_right _ (List.mem_append_right _ (List.mem_append_right _ (List.mem_append_left _ h)))))))))))))
  have hown : s.vm.findClass RX0 = some m.cls := findClass_of_methodNamed B.named
  have hlocks := B.notSynchronized
  subst hsz
  have hD := hD0.self (sz := s.heap.size)
  generalize hAe : va_A [(h0, .inr (0, [.ref h1, .ref h2, .ref h5, .ref h6, .ref h3, .ref h7, .ref h8, .int 0, .int 0, .int 0, .null])), (h1, .inr (1, [.int 1, .ref h9, .int 0, .int (-1), .int 0, .int 0, .int (-1), .ref h10])), (h2, .inr (4, [.ref h11, .int 0])), (h3, .inr (2, [.int 7, .int 600, .ref h4, .int 0])), (h4, .inl (K 0, 112, .inl (fun _ => 0)))] s.heap.size = A at hD ⊢
  have hA : ∀ q : Nat, s.heap.size ≤ q → A q := fun q h => by rw [← hAe]; exact Or.inr h
  have hS : va_S A s.heap s.heap [] := va_S.rf
  have hP : va_P G vwCl [(h0, .inr (0, [.ref h1, .ref h2, .ref h5, .ref h6, .ref h3, .ref h7, .ref h8, .int 0, .int 0, .int 0, .null])), (h1, .inr (1, [.int 1, .ref h9, .int 0, .int (-1), .int 0, .int 0, .int (-1), .ref h10])), (h2, .inr (4, [.ref h11, .int 0])), (h3, .inr (2, [.int 7, .int 600, .ref h4, .int 0])), (h4, .inl (K 0, 112, .inl (fun _ => 0)))] s.heap := hP
  have hl := lv_entry ([.ref h0, .int 6, .int p0, .int 0, .int 0, .int 0]) (n := 7) (Nat.le_of_ble_eq_true rfl)
  rw [lg_entry_eq]
  generalize (lg_sl ([.ref h0, .int 6, .int p0, .int 0, .int 0, .int 0]) ++ List.replicate (7 - (lg_sl ([.ref h0, .int 6, .int p0, .int 0, .int 0, .int 0])).length) Slot.unset).toArray = ls at hl ⊢
  have hl : lv_has ls 7 [(0, .ref h0), (1, .int 6), (2, .int p0), (3, .int 0), (4, .int 0), (5, .int 0)] := hl
  refine lv_aload_n hx hb dX0_enact_0 rfl (lv_at hl 0 rfl) ?_
  refine lv_aload_n hx hb dX0_enact_1 rfl (lv_at hl 0 rfl) ?_
  refine lv_iload_n hx hb dX0_enact_2 rfl (lv_at hl 1 rfl) ?_
  refine lv_iload_n hx hb dX0_enact_3 rfl (lv_at hl 2 rfl) ?_
  refine lv_iload_n hx hb dX0_enact_4 rfl (lv_at hl 3 rfl) ?_
  refine lv_iload hx hb dX0_enact_5 (lv_at hl 4 rfl) ?_
  refine lv_iload hx hb dX0_enact_7 (lv_at hl 5 rfl) ?_
  have hPc := hP.sub (ws' := [(h0, .inr (0, [.ref h1, .ref h2, .ref h5, .ref h6, .ref h3, .ref h7, .ref h8, .int 0, .int 0, .int 0, .null])), (h2, .inr (4, [.ref h11, .int 0])), (h3, .inr (2, [.int 7, .int 600, .ref h4, .int 0]))]) [0, 2, 3] rfl
  have hDc := hD.sub (ws' := [(h0, .inr (0, [.ref h1, .ref h2, .ref h5, .ref h6, .ref h3, .ref h7, .ref h8, .int 0, .int 0, .int 0, .null])), (h2, .inr (4, [.ref h11, .int 0])), (h3, .inr (2, [.int 7, .int 600, .ref h4, .int 0]))]) [0, 2, 3] (by decide) rfl
  refine wGoi (wc := [(h0, .inr (0, [.ref h1, .ref h2, .ref h5, .ref h6, .ref h3, .ref h7, .ref h8, .int 0, .int 0, .int 0, .null])), (h2, .inr (4, [.ref h11, .int 0])), (h3, .inr (2, [.int 7, .int 600, .ref h4, .int 0]))]) (wr := [(h1, .inr (1, [.int 1, .ref h9, .int 0, .int (-1), .int 0, .int 0, .int (-1), .ref h10])), (h4, .inl (K 0, 112, .inl (fun _ => 0)))]) (va_runS (As := [.ref h0, .int 6, .int p0, .int 0, .int 0, .int 0]) (rest := [.ref h0]) ⟨hx, hb, hml, hown, hts⟩ (m_X8_against_5 l G K h0 h2 h3 h1 h5 h6 h7 h8 h11 h4 p0 _) (va_cwS 6 hts (wGS t_ (mw (.methodLink RX0 155 yX8_against) (List.mem_of_getElem? (i := 0) rfl)) (mw (.static yX8_against) (List.mem_of_getElem? (i := 1) rfl)) (mw (.initialized RX8) (List.mem_of_getElem? (i := 2) rfl)) j_X8_against_5) rfl rfl rfl (by decide +kernel) ⟨Nat.le_of_ble_eq_true rfl, Nat.le_of_ble_eq_true rfl⟩) (wPS hK hE hPc hDc) rfl rfl hl.1 rfl (lv_room (Nat.le_of_ble_eq_true rfl)) dX0_enact_9 ⟨Nat.le_of_ble_eq_true rfl, Nat.le_of_ble_eq_true rfl⟩) hP hD hS hA [0, 2, 3] [1, 4] rfl rfl rfl (by decide) (fun r u H locs hw hP hD hS => ?_)
  rcases hw with ⟨c_w, rfl, rfl⟩ | ⟨c_w, rfl, rfl⟩
  · have c1 := c_w
    have hP : va_P G vwCl [(h1, .inr (1, [.int 1, .ref h9, .int 0, .int (-1), .int 0, .int 0, .int (-1), .ref h10])), (h4, .inl (K 0, 112, .inl (fun _ => 0))), (h0, .inr (0, [.ref h1, .ref h2, .ref h5, .ref h6, .ref h3, .ref h7, .ref h8, .int 0, .int 0, .int 0, .null])), (h2, .inr (4, [.ref h11, .int 0])), (h3, .inr (2, [.int 7, .int 600, .ref h4, .int 0]))] _ := hP
    have hD : va_D A [(h1, .inr (1, [.int 1, .ref h9, .int 0, .int (-1), .int 0, .int 0, .int (-1), .ref h10])), (h4, .inl (K 0, 112, .inl (fun _ => 0))), (h0, .inr (0, [.ref h1, .ref h2, .ref h5, .ref h6, .ref h3, .ref h7, .ref h8, .int 0, .int 0, .int 0, .null])), (h2, .inr (4, [.ref h11, .int 0])), (h3, .inr (2, [.int 7, .int 600, .ref h4, .int 0]))] := hD
    refine va_put (D := G) (ci := 0) (v := .int 9) (ty := .int) (C := RX0) (T := TX0) (N := 11) hx hb hts iX0 tyX0 tyX0_ok nmX0 hown hK hP hD hS 2 rfl rfl 9 (by decide) (hw (.fieldLink RX0 73 "MotionFloor$Assembly" "reason" "I") (List.mem_of_getElem? (i := 3) rfl)) (fun _ h9 => h9) rfl (by decide +kernel) rfl rfl (Nat.le_of_ble_eq_true rfl) dX0_enact_12 (fun H locs hP hD hS => ?_)
    have hP : va_P G vwCl [(h1, .inr (1, [.int 1, .ref h9, .int 0, .int (-1), .int 0, .int 0, .int (-1), .ref h10])), (h4, .inl (K 0, 112, .inl (fun _ => 0))), (h0, .inr (0, [.ref h1, .ref h2, .ref h5, .ref h6, .ref h3, .ref h7, .ref h8, .int 0, .int 0, .int 9, .null])), (h2, .inr (4, [.ref h11, .int 0])), (h3, .inr (2, [.int 7, .int 600, .ref h4, .int 0]))] _ := hP
    have hD : va_D A [(h1, .inr (1, [.int 1, .ref h9, .int 0, .int (-1), .int 0, .int 0, .int (-1), .ref h10])), (h4, .inl (K 0, 112, .inl (fun _ => 0))), (h0, .inr (0, [.ref h1, .ref h2, .ref h5, .ref h6, .ref h3, .ref h7, .ref h8, .int 0, .int 0, .int 9, .null])), (h2, .inr (4, [.ref h11, .int 0])), (h3, .inr (2, [.int 7, .int 600, .ref h4, .int 0]))] := hD
    refine lv_aload_n hx hb dX0_enact_15 rfl (lv_at hl 0 rfl) ?_
    refine va_get (D := G) (ci := 0) (v := .int 9) (C := RX0) (T := TX0) (N := 11) hx hb hts iX0 hown hK hP 2 rfl rfl 9 (by decide) (hw (.fieldLink RX0 73 "MotionFloor$Assembly" "reason" "I") (List.mem_of_getElem? (i := 3) rfl)) (fun _ h9 => h9) rfl dX0_enact_16 ?_
    refine lv_if_eq (tgt := 28) hx hb dX0_enact_19 (by decide) (fun c_ => absurd c_ (by decide)) (fun _ => ?_)
    refine lv_aload_n hx hb dX0_enact_22 rfl (lv_at hl 0 rfl) ?_
    refine va_get (D := G) (ci := 0) (v := .int 9) (C := RX0) (T := TX0) (N := 11) hx hb hts iX0 hown hK hP 2 rfl rfl 9 (by decide) (hw (.fieldLink RX0 73 "MotionFloor$Assembly" "reason" "I") (List.mem_of_getElem? (i := 3) rfl)) (fun _ h9 => h9) rfl dX0_enact_23 ?_
    refine lv_ineg hx hb dX0_enact_26 ?_
    refine wTop (v1 := .int (-9)) (congrArg Value.int (by decide)) ?_
    have hP9 := hP.sub (ws' := [(h0, .inr (0, [.ref h1, .ref h2, .ref h5, .ref h6, .ref h3, .ref h7, .ref h8, .int 0, .int 0, .int 9, .null])), (h1, .inr (1, [.int 1, .ref h9, .int 0, .int (-1), .int 0, .int 0, .int (-1), .ref h10])), (h2, .inr (4, [.ref h11, .int 0])), (h3, .inr (2, [.int 7, .int 600, .ref h4, .int 0])), (h4, .inl (K 0, 112, .inl (fun _ => 0)))]) [2, 0, 3, 4, 1] rfl
    have hD9 := hD.sub (ws' := [(h0, .inr (0, [.ref h1, .ref h2, .ref h5, .ref h6, .ref h3, .ref h7, .ref h8, .int 0, .int 0, .int 9, .null])), (h1, .inr (1, [.int 1, .ref h9, .int 0, .int (-1), .int 0, .int 0, .int (-1), .ref h10])), (h2, .inr (4, [.ref h11, .int 0])), (h3, .inr (2, [.int 7, .int 600, .ref h4, .int 0])), (h4, .inl (K 0, 112, .inl (fun _ => 0)))]) [2, 0, 3, 4, 1] (by decide) rfl
    exact W.iret (v := (-9)) hx hb hr (fun t ht hW => ⟨⟨(-9), _, rfl, Or.inl ⟨(by first | omega | decide | simp), rfl, rfl⟩, by rw [ht]; exact hP9, hD9⟩, hS.F ht⟩) hS.2.2 dX0_enact_27
  · have c2 := c_w
    have hP : va_P G vwCl [(h1, .inr (1, [.int 1, .ref h9, .int 0, .int (-1), .int 0, .int 0, .int (-1), .ref h10])), (h4, .inl (K 0, 112, .inl (fun _ => 0))), (h0, .inr (0, [.ref h1, .ref h2, .ref h5, .ref h6, .ref h3, .ref h7, .ref h8, .int 0, .int 0, .int 0, .null])), (h2, .inr (4, [.ref h11, .int 0])), (h3, .inr (2, [.int 7, .int 600, .ref h4, .int 0]))] _ := hP
    have hD : va_D A [(h1, .inr (1, [.int 1, .ref h9, .int 0, .int (-1), .int 0, .int 0, .int (-1), .ref h10])), (h4, .inl (K 0, 112, .inl (fun _ => 0))), (h0, .inr (0, [.ref h1, .ref h2, .ref h5, .ref h6, .ref h3, .ref h7, .ref h8, .int 0, .int 0, .int 0, .null])), (h2, .inr (4, [.ref h11, .int 0])), (h3, .inr (2, [.int 7, .int 600, .ref h4, .int 0]))] := hD
    refine va_put (D := G) (ci := 0) (v := .int 0) (ty := .int) (C := RX0) (T := TX0) (N := 11) hx hb hts iX0 tyX0 tyX0_ok nmX0 hown hK hP hD hS 2 rfl rfl 9 (by decide) (hw (.fieldLink RX0 73 "MotionFloor$Assembly" "reason" "I") (List.mem_of_getElem? (i := 3) rfl)) (fun _ h9 => h9) rfl (by decide +kernel) rfl rfl (Nat.le_of_ble_eq_true rfl) dX0_enact_12 (fun H locs hP hD hS => ?_)
    have hP : va_P G vwCl [(h1, .inr (1, [.int 1, .ref h9, .int 0, .int (-1), .int 0, .int 0, .int (-1), .ref h10])), (h4, .inl (K 0, 112, .inl (fun _ => 0))), (h0, .inr (0, [.ref h1, .ref h2, .ref h5, .ref h6, .ref h3, .ref h7, .ref h8, .int 0, .int 0, .int 0, .null])), (h2, .inr (4, [.ref h11, .int 0])), (h3, .inr (2, [.int 7, .int 600, .ref h4, .int 0]))] _ := hP
    have hD : va_D A [(h1, .inr (1, [.int 1, .ref h9, .int 0, .int (-1), .int 0, .int 0, .int (-1), .ref h10])), (h4, .inl (K 0, 112, .inl (fun _ => 0))), (h0, .inr (0, [.ref h1, .ref h2, .ref h5, .ref h6, .ref h3, .ref h7, .ref h8, .int 0, .int 0, .int 0, .null])), (h2, .inr (4, [.ref h11, .int 0])), (h3, .inr (2, [.int 7, .int 600, .ref h4, .int 0]))] := hD
    refine lv_aload_n hx hb dX0_enact_15 rfl (lv_at hl 0 rfl) ?_
    refine va_get (D := G) (ci := 0) (v := .int 0) (C := RX0) (T := TX0) (N := 11) hx hb hts iX0 hown hK hP 2 rfl rfl 9 (by decide) (hw (.fieldLink RX0 73 "MotionFloor$Assembly" "reason" "I") (List.mem_of_getElem? (i := 3) rfl)) (fun _ h9 => h9) rfl dX0_enact_16 ?_
    refine lv_if_eq (tgt := 28) hx hb dX0_enact_19 (by decide) (fun _ => ?_) (fun c_ => absurd c_ (by decide))
    refine lv_aload_n hx hb dX0_enact_28 rfl (lv_at hl 0 rfl) ?_
    refine lv_iload_n hx hb dX0_enact_29 rfl (lv_at hl 1 rfl) ?_
    refine lv_iload_n hx hb dX0_enact_30 rfl (lv_at hl 2 rfl) ?_
    refine lv_iload_n hx hb dX0_enact_31 rfl (lv_at hl 3 rfl) ?_
    refine lv_iload hx hb dX0_enact_32 (lv_at hl 4 rfl) ?_
    refine lv_iload hx hb dX0_enact_34 (lv_at hl 5 rfl) ?_
    have hPc := hP.sub (ws' := [(h0, .inr (0, [.ref h1, .ref h2, .ref h5, .ref h6, .ref h3, .ref h7, .ref h8, .int 0, .int 0, .int 0, .null])), (h1, .inr (1, [.int 1, .ref h9, .int 0, .int (-1), .int 0, .int 0, .int (-1), .ref h10])), (h2, .inr (4, [.ref h11, .int 0]))]) [2, 0, 3] rfl
    have hDc := hD.sub (ws' := [(h0, .inr (0, [.ref h1, .ref h2, .ref h5, .ref h6, .ref h3, .ref h7, .ref h8, .int 0, .int 0, .int 0, .null])), (h1, .inr (1, [.int 1, .ref h9, .int 0, .int (-1), .int 0, .int 0, .int (-1), .ref h10])), (h2, .inr (4, [.ref h11, .int 0]))]) [2, 0, 3] (by decide) rfl
    refine wGoi (wc := [(h0, .inr (0, [.ref h1, .ref h2, .ref h5, .ref h6, .ref h3, .ref h7, .ref h8, .int 0, .int 0, .int 0, .null])), (h1, .inr (1, [.int 1, .ref h9, .int 0, .int (-1), .int 0, .int 0, .int (-1), .ref h10])), (h2, .inr (4, [.ref h11, .int 0]))]) (wr := [(h4, .inl (K 0, 112, .inl (fun _ => 0))), (h3, .inr (2, [.int 7, .int 600, .ref h4, .int 0]))]) (va_runS (As := [.ref h0, .int 6, .int p0, .int 0, .int 0, .int 0]) (rest := []) ⟨hx, hb, hml, hown, hts⟩ (m_X1_perform_3 l G K h0 h1 h2 h5 h6 h3 h7 h8 h9 h10 h11 p0 _ (by omega)) (va_cwS 6 hts (wGS t_ (mw (.methodLink RX0 161 yX1_perform) (List.mem_of_getElem? (i := 4) rfl)) (mw (.static yX1_perform) (List.mem_of_getElem? (i := 5) rfl)) (mw (.initialized RX1) (List.mem_of_getElem? (i := 6) rfl)) j_X1_perform_3) rfl rfl rfl (by decide +kernel) ⟨Nat.le_of_ble_eq_true rfl, Nat.le_of_ble_eq_true rfl⟩) (wPS hK hE hPc hDc) rfl rfl hl.1 rfl (lv_room (Nat.le_of_ble_eq_true rfl)) dX0_enact_36 ⟨Nat.le_of_ble_eq_true rfl, Nat.le_of_ble_eq_true rfl⟩) hP hD hS hA [2, 0, 3] [1, 4] rfl rfl rfl (by decide) (fun r u H locs hw hP hD hS => ?_)
    rcases hw with ⟨rfl, rfl⟩
    have hP : va_P G vwCl [(h4, .inl (K 0, 112, .inl (fun _ => 0))), (h3, .inr (2, [.int 7, .int 600, .ref h4, .int 0])), (h0, .inr (0, [.ref h1, .ref h2, .ref h5, .ref h6, .ref h3, .ref h7, .ref h8, .int 0, .int 0, .int 0, .null])), (h1, .inr (1, [.int 1, .ref h9, .int 0, .int (-1), .int 0, .int p0, .int (-1), .ref h10])), (h2, .inr (4, [.ref h11, .int 0]))] _ := hP
    have hD : va_D A [(h4, .inl (K 0, 112, .inl (fun _ => 0))), (h3, .inr (2, [.int 7, .int 600, .ref h4, .int 0])), (h0, .inr (0, [.ref h1, .ref h2, .ref h5, .ref h6, .ref h3, .ref h7, .ref h8, .int 0, .int 0, .int 0, .null])), (h1, .inr (1, [.int 1, .ref h9, .int 0, .int (-1), .int 0, .int p0, .int (-1), .ref h10])), (h2, .inr (4, [.ref h11, .int 0]))] := hD
    refine lv_istore (lv' := [(6, .int p0), (0, .ref h0), (1, .int 6), (2, .int p0), (3, .int 0), (4, .int 0), (5, .int 0)]) hx hb dX0_enact_39 hl (by decide) rfl (fun ls hl => ?_)
    refine lv_aload_n hx hb dX0_enact_41 rfl (lv_at hl 1 rfl) ?_
    refine va_get (D := G) (ci := 0) (v := .ref h3) (C := RX0) (T := TX0) (N := 11) hx hb hts iX0 hown hK hP 2 rfl rfl 4 (by decide) (hw (.fieldLink RX0 41 "MotionFloor$Assembly" "minutes" "LMotionFloor$Ledger;") (List.mem_of_getElem? (i := 7) rfl)) (fun _ h9 => h9) rfl dX0_enact_42 ?_
    have hPc := hP.sub (ws' := [(h3, .inr (2, [.int 7, .int 600, .ref h4, .int 0])), (h4, .inl (K 0, 112, .inl (fun _ => 0)))]) [1, 0] rfl
    have hDc := hD.sub (ws' := [(h3, .inr (2, [.int 7, .int 600, .ref h4, .int 0])), (h4, .inl (K 0, 112, .inl (fun _ => 0)))]) [1, 0] (by decide) rfl
    refine wGov (wc := [(h3, .inr (2, [.int 7, .int 600, .ref h4, .int 0])), (h4, .inl (K 0, 112, .inl (fun _ => 0)))]) (wr := [(h0, .inr (0, [.ref h1, .ref h2, .ref h5, .ref h6, .ref h3, .ref h7, .ref h8, .int 0, .int 0, .int 0, .null])), (h1, .inr (1, [.int 1, .ref h9, .int 0, .int (-1), .int 0, .int p0, .int (-1), .ref h10])), (h2, .inr (4, [.ref h11, .int 0]))]) (va_runV (As := []) (rest := []) ⟨hx, hb, hml, hown, hts⟩ (m_X3_open_0 l G K h3 h4 _) (cwV 0 hts (wGV t_ (mw (.methodLink RX0 166 yX3_open) (List.mem_of_getElem? (i := 8) rfl)) (mw (.instanceMethod yX3_open) (List.mem_of_getElem? (i := 9) rfl)) (mw (.selects RX3 yX3_open yX3_open) (List.mem_of_getElem? (i := 10) rfl)) (mw (.initialized RX3) (List.mem_of_getElem? (i := 11) rfl)) j_X3_open_0) rfl rfl rfl (by decide +kernel) ⟨Nat.le_of_ble_eq_true rfl, Nat.le_of_ble_eq_true rfl⟩) (wPV hK hE hPc hDc 2 0 rfl rfl) rfl rfl hl.1 rfl (lv_room (Nat.le_of_ble_eq_true rfl)) dX0_enact_45 ⟨Nat.le_of_ble_eq_true rfl, Nat.le_of_ble_eq_true rfl⟩) hP hD hS hA [1, 0] [2, 3, 4] rfl rfl rfl (by decide) (fun u H locs hw hP hD hS => ?_)
    subst hw
    have hP : va_P G vwCl [(h0, .inr (0, [.ref h1, .ref h2, .ref h5, .ref h6, .ref h3, .ref h7, .ref h8, .int 0, .int 0, .int 0, .null])), (h1, .inr (1, [.int 1, .ref h9, .int 0, .int (-1), .int 0, .int p0, .int (-1), .ref h10])), (h2, .inr (4, [.ref h11, .int 0])), (h3, .inr (2, [.int 7, .int 600, .ref h4, .int 1])), (h4, .inl (K 0, 112, .inl (fun _ => 0)))] _ := hP
    have hD : va_D A [(h0, .inr (0, [.ref h1, .ref h2, .ref h5, .ref h6, .ref h3, .ref h7, .ref h8, .int 0, .int 0, .int 0, .null])), (h1, .inr (1, [.int 1, .ref h9, .int 0, .int (-1), .int 0, .int p0, .int (-1), .ref h10])), (h2, .inr (4, [.ref h11, .int 0])), (h3, .inr (2, [.int 7, .int 600, .ref h4, .int 1])), (h4, .inl (K 0, 112, .inl (fun _ => 0)))] := hD
    refine lv_aload_n hx hb dX0_enact_48 rfl (lv_at hl 1 rfl) ?_
    refine va_get (D := G) (ci := 0) (v := .ref h3) (C := RX0) (T := TX0) (N := 11) hx hb hts iX0 hown hK hP 0 rfl rfl 4 (by decide) (hw (.fieldLink RX0 41 "MotionFloor$Assembly" "minutes" "LMotionFloor$Ledger;") (List.mem_of_getElem? (i := 7) rfl)) (fun _ h9 => h9) rfl dX0_enact_49 ?_
    refine lv_iconst (v := 0) hx hb dX0_enact_52 (by decide) ?_
    refine lv_iload_n hx hb dX0_enact_53 rfl (lv_at hl 2 rfl) ?_
    have hPc := hP.sub (ws' := [(h3, .inr (2, [.int 7, .int 600, .ref h4, .int 1])), (h4, .inl (K 0, 112, .inl (fun _ => 0)))]) [3, 4] rfl
    have hDc := hD.sub (ws' := [(h3, .inr (2, [.int 7, .int 600, .ref h4, .int 1])), (h4, .inl (K 0, 112, .inl (fun _ => 0)))]) [3, 4] (by decide) rfl
    refine wGov (wc := [(h3, .inr (2, [.int 7, .int 600, .ref h4, .int 1])), (h4, .inl (K 0, 112, .inl (fun _ => 0)))]) (wr := [(h0, .inr (0, [.ref h1, .ref h2, .ref h5, .ref h6, .ref h3, .ref h7, .ref h8, .int 0, .int 0, .int 0, .null])), (h1, .inr (1, [.int 1, .ref h9, .int 0, .int (-1), .int 0, .int p0, .int (-1), .ref h10])), (h2, .inr (4, [.ref h11, .int 0]))]) (va_runV (As := [.int 0, .int 6]) (rest := []) ⟨hx, hb, hml, hown, hts⟩ (m_X3_write_21 l G K h3 h4 _) (cwV 2 hts (wGV t_ (mw (.methodLink RX0 169 yX3_write) (List.mem_of_getElem? (i := 12) rfl)) (mw (.instanceMethod yX3_write) (List.mem_of_getElem? (i := 13) rfl)) (mw (.selects RX3 yX3_write yX3_write) (List.mem_of_getElem? (i := 14) rfl)) (mw (.initialized RX3) (List.mem_of_getElem? (i := 11) rfl)) j_X3_write_21) rfl rfl rfl (by decide +kernel) ⟨Nat.le_of_ble_eq_true rfl, Nat.le_of_ble_eq_true rfl⟩) (wPV hK hE hPc hDc 2 0 rfl rfl) rfl rfl hl.1 rfl (lv_room (Nat.le_of_ble_eq_true rfl)) dX0_enact_54 ⟨Nat.le_of_ble_eq_true rfl, Nat.le_of_ble_eq_true rfl⟩) hP hD hS hA [3, 4] [0, 1, 2] rfl rfl rfl (by decide) (fun u H locs hw hP hD hS => ?_)
    subst hw
    have hP : va_P G vwCl [(h0, .inr (0, [.ref h1, .ref h2, .ref h5, .ref h6, .ref h3, .ref h7, .ref h8, .int 0, .int 0, .int 0, .null])), (h1, .inr (1, [.int 1, .ref h9, .int 0, .int (-1), .int 0, .int p0, .int (-1), .ref h10])), (h2, .inr (4, [.ref h11, .int 0])), (h3, .inr (2, [.int 7, .int 600, .ref h4, .int 1])), (h4, .inl (K 0, 112, .inl (upd (fun _ => 0) 0 6)))] _ := hP
    have hD : va_D A [(h0, .inr (0, [.ref h1, .ref h2, .ref h5, .ref h6, .ref h3, .ref h7, .ref h8, .int 0, .int 0, .int 0, .null])), (h1, .inr (1, [.int 1, .ref h9, .int 0, .int (-1), .int 0, .int p0, .int (-1), .ref h10])), (h2, .inr (4, [.ref h11, .int 0])), (h3, .inr (2, [.int 7, .int 600, .ref h4, .int 1])), (h4, .inl (K 0, 112, .inl (upd (fun _ => 0) 0 6)))] := hD
    refine lv_aload_n hx hb dX0_enact_57 rfl (lv_at hl 1 rfl) ?_
    refine va_get (D := G) (ci := 0) (v := .ref h3) (C := RX0) (T := TX0) (N := 11) hx hb hts iX0 hown hK hP 0 rfl rfl 4 (by decide) (hw (.fieldLink RX0 41 "MotionFloor$Assembly" "minutes" "LMotionFloor$Ledger;") (List.mem_of_getElem? (i := 7) rfl)) (fun _ h9 => h9) rfl dX0_enact_58 ?_
    refine lv_iconst (v := 1) hx hb dX0_enact_61 (by decide) ?_
    refine lv_iload_n hx hb dX0_enact_62 rfl (lv_at hl 3 rfl) ?_
    have hPc := hP.sub (ws' := [(h3, .inr (2, [.int 7, .int 600, .ref h4, .int 1])), (h4, .inl (K 0, 112, .inl (upd (fun _ => 0) 0 6)))]) [3, 4] rfl
    have hDc := hD.sub (ws' := [(h3, .inr (2, [.int 7, .int 600, .ref h4, .int 1])), (h4, .inl (K 0, 112, .inl (upd (fun _ => 0) 0 6)))]) [3, 4] (by decide) rfl
    refine wGov (wc := [(h3, .inr (2, [.int 7, .int 600, .ref h4, .int 1])), (h4, .inl (K 0, 112, .inl (upd (fun _ => 0) 0 6)))]) (wr := [(h0, .inr (0, [.ref h1, .ref h2, .ref h5, .ref h6, .ref h3, .ref h7, .ref h8, .int 0, .int 0, .int 0, .null])), (h1, .inr (1, [.int 1, .ref h9, .int 0, .int (-1), .int 0, .int p0, .int (-1), .ref h10])), (h2, .inr (4, [.ref h11, .int 0]))]) (va_runV (As := [.int 1, .int p0]) (rest := []) ⟨hx, hb, hml, hown, hts⟩ (m_X3_write_22 l G K h3 h4 p0 _ (by omega)) (cwV 2 hts (wGV t_ (mw (.methodLink RX0 169 yX3_write) (List.mem_of_getElem? (i := 12) rfl)) (mw (.instanceMethod yX3_write) (List.mem_of_getElem? (i := 13) rfl)) (mw (.selects RX3 yX3_write yX3_write) (List.mem_of_getElem? (i := 14) rfl)) (mw (.initialized RX3) (List.mem_of_getElem? (i := 11) rfl)) j_X3_write_22) rfl rfl rfl (by decide +kernel) ⟨Nat.le_of_ble_eq_true rfl, Nat.le_of_ble_eq_true rfl⟩) (wPV hK hE hPc hDc 2 0 rfl rfl) rfl rfl hl.1 rfl (lv_room (Nat.le_of_ble_eq_true rfl)) dX0_enact_63 ⟨Nat.le_of_ble_eq_true rfl, Nat.le_of_ble_eq_true rfl⟩) hP hD hS hA [3, 4] [0, 1, 2] rfl rfl rfl (by decide) (fun u H locs hw hP hD hS => ?_)
    subst hw
    have hP : va_P G vwCl [(h0, .inr (0, [.ref h1, .ref h2, .ref h5, .ref h6, .ref h3, .ref h7, .ref h8, .int 0, .int 0, .int 0, .null])), (h1, .inr (1, [.int 1, .ref h9, .int 0, .int (-1), .int 0, .int p0, .int (-1), .ref h10])), (h2, .inr (4, [.ref h11, .int 0])), (h3, .inr (2, [.int 7, .int 600, .ref h4, .int 1])), (h4, .inl (K 0, 112, .inl (upd (upd (fun _ => 0) 0 6) 1 p0)))] _ := hP
    have hD : va_D A [(h0, .inr (0, [.ref h1, .ref h2, .ref h5, .ref h6, .ref h3, .ref h7, .ref h8, .int 0, .int 0, .int 0, .null])), (h1, .inr (1, [.int 1, .ref h9, .int 0, .int (-1), .int 0, .int p0, .int (-1), .ref h10])), (h2, .inr (4, [.ref h11, .int 0])), (h3, .inr (2, [.int 7, .int 600, .ref h4, .int 1])), (h4, .inl (K 0, 112, .inl (upd (upd (fun _ => 0) 0 6) 1 p0)))] := hD
    refine lv_aload_n hx hb dX0_enact_66 rfl (lv_at hl 1 rfl) ?_
    refine va_get (D := G) (ci := 0) (v := .ref h3) (C := RX0) (T := TX0) (N := 11) hx hb hts iX0 hown hK hP 0 rfl rfl 4 (by decide) (hw (.fieldLink RX0 41 "MotionFloor$Assembly" "minutes" "LMotionFloor$Ledger;") (List.mem_of_getElem? (i := 7) rfl)) (fun _ h9 => h9) rfl dX0_enact_67 ?_
    refine lv_iconst (v := 2) hx hb dX0_enact_70 (by decide) ?_
    refine lv_iload_n hx hb dX0_enact_71 rfl (lv_at hl 4 rfl) ?_
    have hPc := hP.sub (ws' := [(h3, .inr (2, [.int 7, .int 600, .ref h4, .int 1])), (h4, .inl (K 0, 112, .inl (upd (upd (fun _ => 0) 0 6) 1 p0)))]) [3, 4] rfl
    have hDc := hD.sub (ws' := [(h3, .inr (2, [.int 7, .int 600, .ref h4, .int 1])), (h4, .inl (K 0, 112, .inl (upd (upd (fun _ => 0) 0 6) 1 p0)))]) [3, 4] (by decide) rfl
    refine wGov (wc := [(h3, .inr (2, [.int 7, .int 600, .ref h4, .int 1])), (h4, .inl (K 0, 112, .inl (upd (upd (fun _ => 0) 0 6) 1 p0)))]) (wr := [(h0, .inr (0, [.ref h1, .ref h2, .ref h5, .ref h6, .ref h3, .ref h7, .ref h8, .int 0, .int 0, .int 0, .null])), (h1, .inr (1, [.int 1, .ref h9, .int 0, .int (-1), .int 0, .int p0, .int (-1), .ref h10])), (h2, .inr (4, [.ref h11, .int 0]))]) (va_runV (As := [.int 2, .int 0]) (rest := []) ⟨hx, hb, hml, hown, hts⟩ (m_X3_write_23 l G K h3 h4 p0 _ (by omega)) (cwV 2 hts (wGV t_ (mw (.methodLink RX0 169 yX3_write) (List.mem_of_getElem? (i := 12) rfl)) (mw (.instanceMethod yX3_write) (List.mem_of_getElem? (i := 13) rfl)) (mw (.selects RX3 yX3_write yX3_write) (List.mem_of_getElem? (i := 14) rfl)) (mw (.initialized RX3) (List.mem_of_getElem? (i := 11) rfl)) j_X3_write_23) rfl rfl rfl (by decide +kernel) ⟨Nat.le_of_ble_eq_true rfl, Nat.le_of_ble_eq_true rfl⟩) (wPV hK hE hPc hDc 2 0 rfl rfl) rfl rfl hl.1 rfl (lv_room (Nat.le_of_ble_eq_true rfl)) dX0_enact_72 ⟨Nat.le_of_ble_eq_true rfl, Nat.le_of_ble_eq_true rfl⟩) hP hD hS hA [3, 4] [0, 1, 2] rfl rfl rfl (by decide) (fun u H locs hw hP hD hS => ?_)
    subst hw
    have hP : va_P G vwCl [(h0, .inr (0, [.ref h1, .ref h2, .ref h5, .ref h6, .ref h3, .ref h7, .ref h8, .int 0, .int 0, .int 0, .null])), (h1, .inr (1, [.int 1, .ref h9, .int 0, .int (-1), .int 0, .int p0, .int (-1), .ref h10])), (h2, .inr (4, [.ref h11, .int 0])), (h3, .inr (2, [.int 7, .int 600, .ref h4, .int 1])), (h4, .inl (K 0, 112, .inl (upd (upd (upd (fun _ => 0) 0 6) 1 p0) 2 0)))] _ := hP
    have hD : va_D A [(h0, .inr (0, [.ref h1, .ref h2, .ref h5, .ref h6, .ref h3, .ref h7, .ref h8, .int 0, .int 0, .int 0, .null])), (h1, .inr (1, [.int 1, .ref h9, .int 0, .int (-1), .int 0, .int p0, .int (-1), .ref h10])), (h2, .inr (4, [.ref h11, .int 0])), (h3, .inr (2, [.int 7, .int 600, .ref h4, .int 1])), (h4, .inl (K 0, 112, .inl (upd (upd (upd (fun _ => 0) 0 6) 1 p0) 2 0)))] := hD
    refine lv_aload_n hx hb dX0_enact_75 rfl (lv_at hl 1 rfl) ?_
    refine va_get (D := G) (ci := 0) (v := .ref h3) (C := RX0) (T := TX0) (N := 11) hx hb hts iX0 hown hK hP 0 rfl rfl 4 (by decide) (hw (.fieldLink RX0 41 "MotionFloor$Assembly" "minutes" "LMotionFloor$Ledger;") (List.mem_of_getElem? (i := 7) rfl)) (fun _ h9 => h9) rfl dX0_enact_76 ?_
    refine lv_iconst (v := 3) hx hb dX0_enact_79 (by decide) ?_
    refine lv_iload hx hb dX0_enact_80 (lv_at hl 5 rfl) ?_
    have hPc := hP.sub (ws' := [(h3, .inr (2, [.int 7, .int 600, .ref h4, .int 1])), (h4, .inl (K 0, 112, .inl (upd (upd (upd (fun _ => 0) 0 6) 1 p0) 2 0)))]) [3, 4] rfl
    have hDc := hD.sub (ws' := [(h3, .inr (2, [.int 7, .int 600, .ref h4, .int 1])), (h4, .inl (K 0, 112, .inl (upd (upd (upd (fun _ => 0) 0 6) 1 p0) 2 0)))]) [3, 4] (by decide) rfl
    refine wGov (wc := [(h3, .inr (2, [.int 7, .int 600, .ref h4, .int 1])), (h4, .inl (K 0, 112, .inl (upd (upd (upd (fun _ => 0) 0 6) 1 p0) 2 0)))]) (wr := [(h0, .inr (0, [.ref h1, .ref h2, .ref h5, .ref h6, .ref h3, .ref h7, .ref h8, .int 0, .int 0, .int 0, .null])), (h1, .inr (1, [.int 1, .ref h9, .int 0, .int (-1), .int 0, .int p0, .int (-1), .ref h10])), (h2, .inr (4, [.ref h11, .int 0]))]) (va_runV (As := [.int 3, .int 0]) (rest := []) ⟨hx, hb, hml, hown, hts⟩ (m_X3_write_24 l G K h3 h4 p0 _ (by omega)) (cwV 2 hts (wGV t_ (mw (.methodLink RX0 169 yX3_write) (List.mem_of_getElem? (i := 12) rfl)) (mw (.instanceMethod yX3_write) (List.mem_of_getElem? (i := 13) rfl)) (mw (.selects RX3 yX3_write yX3_write) (List.mem_of_getElem? (i := 14) rfl)) (mw (.initialized RX3) (List.mem_of_getElem? (i := 11) rfl)) j_X3_write_24) rfl rfl rfl (by decide +kernel) ⟨Nat.le_of_ble_eq_true rfl, Nat.le_of_ble_eq_true rfl⟩) (wPV hK hE hPc hDc 2 0 rfl rfl) rfl rfl hl.1 rfl (lv_room (Nat.le_of_ble_eq_true rfl)) dX0_enact_82 ⟨Nat.le_of_ble_eq_true rfl, Nat.le_of_ble_eq_true rfl⟩) hP hD hS hA [3, 4] [0, 1, 2] rfl rfl rfl (by decide) (fun u H locs hw hP hD hS => ?_)
    subst hw
    have hP : va_P G vwCl [(h0, .inr (0, [.ref h1, .ref h2, .ref h5, .ref h6, .ref h3, .ref h7, .ref h8, .int 0, .int 0, .int 0, .null])), (h1, .inr (1, [.int 1, .ref h9, .int 0, .int (-1), .int 0, .int p0, .int (-1), .ref h10])), (h2, .inr (4, [.ref h11, .int 0])), (h3, .inr (2, [.int 7, .int 600, .ref h4, .int 1])), (h4, .inl (K 0, 112, .inl (upd (upd (upd (upd (fun _ => 0) 0 6) 1 p0) 2 0) 3 0)))] _ := hP
    have hD : va_D A [(h0, .inr (0, [.ref h1, .ref h2, .ref h5, .ref h6, .ref h3, .ref h7, .ref h8, .int 0, .int 0, .int 0, .null])), (h1, .inr (1, [.int 1, .ref h9, .int 0, .int (-1), .int 0, .int p0, .int (-1), .ref h10])), (h2, .inr (4, [.ref h11, .int 0])), (h3, .inr (2, [.int 7, .int 600, .ref h4, .int 1])), (h4, .inl (K 0, 112, .inl (upd (upd (upd (upd (fun _ => 0) 0 6) 1 p0) 2 0) 3 0)))] := hD
    refine lv_aload_n hx hb dX0_enact_85 rfl (lv_at hl 1 rfl) ?_
    refine va_get (D := G) (ci := 0) (v := .ref h3) (C := RX0) (T := TX0) (N := 11) hx hb hts iX0 hown hK hP 0 rfl rfl 4 (by decide) (hw (.fieldLink RX0 41 "MotionFloor$Assembly" "minutes" "LMotionFloor$Ledger;") (List.mem_of_getElem? (i := 7) rfl)) (fun _ h9 => h9) rfl dX0_enact_86 ?_
    refine lv_iconst (v := 4) hx hb dX0_enact_89 (by decide) ?_
    refine lv_iload hx hb dX0_enact_90 (lv_at hl 6 rfl) ?_
    have hPc := hP.sub (ws' := [(h3, .inr (2, [.int 7, .int 600, .ref h4, .int 1])), (h4, .inl (K 0, 112, .inl (upd (upd (upd (upd (fun _ => 0) 0 6) 1 p0) 2 0) 3 0)))]) [3, 4] rfl
    have hDc := hD.sub (ws' := [(h3, .inr (2, [.int 7, .int 600, .ref h4, .int 1])), (h4, .inl (K 0, 112, .inl (upd (upd (upd (upd (fun _ => 0) 0 6) 1 p0) 2 0) 3 0)))]) [3, 4] (by decide) rfl
    refine wGov (wc := [(h3, .inr (2, [.int 7, .int 600, .ref h4, .int 1])), (h4, .inl (K 0, 112, .inl (upd (upd (upd (upd (fun _ => 0) 0 6) 1 p0) 2 0) 3 0)))]) (wr := [(h0, .inr (0, [.ref h1, .ref h2, .ref h5, .ref h6, .ref h3, .ref h7, .ref h8, .int 0, .int 0, .int 0, .null])), (h1, .inr (1, [.int 1, .ref h9, .int 0, .int (-1), .int 0, .int p0, .int (-1), .ref h10])), (h2, .inr (4, [.ref h11, .int 0]))]) (va_runV (As := [.int 4, .int 0]) (rest := []) ⟨hx, hb, hml, hown, hts⟩ (m_X3_write_25 l G K h3 h4 p0 _ (by omega)) (cwV 2 hts (wGV t_ (mw (.methodLink RX0 169 yX3_write) (List.mem_of_getElem? (i := 12) rfl)) (mw (.instanceMethod yX3_write) (List.mem_of_getElem? (i := 13) rfl)) (mw (.selects RX3 yX3_write yX3_write) (List.mem_of_getElem? (i := 14) rfl)) (mw (.initialized RX3) (List.mem_of_getElem? (i := 11) rfl)) j_X3_write_25) rfl rfl rfl (by decide +kernel) ⟨Nat.le_of_ble_eq_true rfl, Nat.le_of_ble_eq_true rfl⟩) (wPV hK hE hPc hDc 2 0 rfl rfl) rfl rfl hl.1 rfl (lv_room (Nat.le_of_ble_eq_true rfl)) dX0_enact_92 ⟨Nat.le_of_ble_eq_true rfl, Nat.le_of_ble_eq_true rfl⟩) hP hD hS hA [3, 4] [0, 1, 2] rfl rfl rfl (by decide) (fun u H locs hw hP hD hS => ?_)
    subst hw
    have hP : va_P G vwCl [(h0, .inr (0, [.ref h1, .ref h2, .ref h5, .ref h6, .ref h3, .ref h7, .ref h8, .int 0, .int 0, .int 0, .null])), (h1, .inr (1, [.int 1, .ref h9, .int 0, .int (-1), .int 0, .int p0, .int (-1), .ref h10])), (h2, .inr (4, [.ref h11, .int 0])), (h3, .inr (2, [.int 7, .int 600, .ref h4, .int 1])), (h4, .inl (K 0, 112, .inl (upd (upd (upd (upd (upd (fun _ => 0) 0 6) 1 p0) 2 0) 3 0) 4 0)))] _ := hP
    have hD : va_D A [(h0, .inr (0, [.ref h1, .ref h2, .ref h5, .ref h6, .ref h3, .ref h7, .ref h8, .int 0, .int 0, .int 0, .null])), (h1, .inr (1, [.int 1, .ref h9, .int 0, .int (-1), .int 0, .int p0, .int (-1), .ref h10])), (h2, .inr (4, [.ref h11, .int 0])), (h3, .inr (2, [.int 7, .int 600, .ref h4, .int 1])), (h4, .inl (K 0, 112, .inl (upd (upd (upd (upd (upd (fun _ => 0) 0 6) 1 p0) 2 0) 3 0) 4 0)))] := hD
    refine lv_aload_n hx hb dX0_enact_95 rfl (lv_at hl 1 rfl) ?_
    refine va_get (D := G) (ci := 0) (v := .ref h3) (C := RX0) (T := TX0) (N := 11) hx hb hts iX0 hown hK hP 0 rfl rfl 4 (by decide) (hw (.fieldLink RX0 41 "MotionFloor$Assembly" "minutes" "LMotionFloor$Ledger;") (List.mem_of_getElem? (i := 7) rfl)) (fun _ h9 => h9) rfl dX0_enact_96 ?_
    refine lv_iconst (v := 5) hx hb dX0_enact_99 (by decide) ?_
    refine lv_iload hx hb dX0_enact_100 (lv_at hl 0 rfl) ?_
    have hPc := hP.sub (ws' := [(h3, .inr (2, [.int 7, .int 600, .ref h4, .int 1])), (h4, .inl (K 0, 112, .inl (upd (upd (upd (upd (upd (fun _ => 0) 0 6) 1 p0) 2 0) 3 0) 4 0)))]) [3, 4] rfl
    have hDc := hD.sub (ws' := [(h3, .inr (2, [.int 7, .int 600, .ref h4, .int 1])), (h4, .inl (K 0, 112, .inl (upd (upd (upd (upd (upd (fun _ => 0) 0 6) 1 p0) 2 0) 3 0) 4 0)))]) [3, 4] (by decide) rfl
    refine wGov (wc := [(h3, .inr (2, [.int 7, .int 600, .ref h4, .int 1])), (h4, .inl (K 0, 112, .inl (upd (upd (upd (upd (upd (fun _ => 0) 0 6) 1 p0) 2 0) 3 0) 4 0)))]) (wr := [(h0, .inr (0, [.ref h1, .ref h2, .ref h5, .ref h6, .ref h3, .ref h7, .ref h8, .int 0, .int 0, .int 0, .null])), (h1, .inr (1, [.int 1, .ref h9, .int 0, .int (-1), .int 0, .int p0, .int (-1), .ref h10])), (h2, .inr (4, [.ref h11, .int 0]))]) (va_runV (As := [.int 5, .int p0]) (rest := []) ⟨hx, hb, hml, hown, hts⟩ (m_X3_write_26 l G K h3 h4 p0 _ (by omega)) (cwV 2 hts (wGV t_ (mw (.methodLink RX0 169 yX3_write) (List.mem_of_getElem? (i := 12) rfl)) (mw (.instanceMethod yX3_write) (List.mem_of_getElem? (i := 13) rfl)) (mw (.selects RX3 yX3_write yX3_write) (List.mem_of_getElem? (i := 14) rfl)) (mw (.initialized RX3) (List.mem_of_getElem? (i := 11) rfl)) j_X3_write_26) rfl rfl rfl (by decide +kernel) ⟨Nat.le_of_ble_eq_true rfl, Nat.le_of_ble_eq_true rfl⟩) (wPV hK hE hPc hDc 2 0 rfl rfl) rfl rfl hl.1 rfl (lv_room (Nat.le_of_ble_eq_true rfl)) dX0_enact_102 ⟨Nat.le_of_ble_eq_true rfl, Nat.le_of_ble_eq_true rfl⟩) hP hD hS hA [3, 4] [0, 1, 2] rfl rfl rfl (by decide) (fun u H locs hw hP hD hS => ?_)
    subst hw
    have hP : va_P G vwCl [(h0, .inr (0, [.ref h1, .ref h2, .ref h5, .ref h6, .ref h3, .ref h7, .ref h8, .int 0, .int 0, .int 0, .null])), (h1, .inr (1, [.int 1, .ref h9, .int 0, .int (-1), .int 0, .int p0, .int (-1), .ref h10])), (h2, .inr (4, [.ref h11, .int 0])), (h3, .inr (2, [.int 7, .int 600, .ref h4, .int 1])), (h4, .inl (K 0, 112, .inl (upd (upd (upd (upd (upd (upd (fun _ => 0) 0 6) 1 p0) 2 0) 3 0) 4 0) 5 p0)))] _ := hP
    have hD : va_D A [(h0, .inr (0, [.ref h1, .ref h2, .ref h5, .ref h6, .ref h3, .ref h7, .ref h8, .int 0, .int 0, .int 0, .null])), (h1, .inr (1, [.int 1, .ref h9, .int 0, .int (-1), .int 0, .int p0, .int (-1), .ref h10])), (h2, .inr (4, [.ref h11, .int 0])), (h3, .inr (2, [.int 7, .int 600, .ref h4, .int 1])), (h4, .inl (K 0, 112, .inl (upd (upd (upd (upd (upd (upd (fun _ => 0) 0 6) 1 p0) 2 0) 3 0) 4 0) 5 p0)))] := hD
    refine lv_aload_n hx hb dX0_enact_105 rfl (lv_at hl 1 rfl) ?_
    refine va_get (D := G) (ci := 0) (v := .ref h3) (C := RX0) (T := TX0) (N := 11) hx hb hts iX0 hown hK hP 0 rfl rfl 4 (by decide) (hw (.fieldLink RX0 41 "MotionFloor$Assembly" "minutes" "LMotionFloor$Ledger;") (List.mem_of_getElem? (i := 7) rfl)) (fun _ h9 => h9) rfl dX0_enact_106 ?_
    refine lv_bipush (v := 6) hx hb dX0_enact_109 (by decide) ?_
    refine lv_aload_n hx hb dX0_enact_111 rfl (lv_at hl 1 rfl) ?_
    refine va_get (D := G) (ci := 0) (v := .ref h2) (C := RX0) (T := TX0) (N := 11) hx hb hts iX0 hown hK hP 0 rfl rfl 1 (by decide) (hw (.fieldLink RX0 21 "MotionFloor$Assembly" "pending" "LMotionFloor$Pile;") (List.mem_of_getElem? (i := 15) rfl)) (fun _ h9 => h9) rfl dX0_enact_112 ?_
    refine va_get (D := G) (ci := 4) (v := .int 0) (C := RX5) (T := TX5) (N := 2) hx hb hts iX5 hown hK hP 2 rfl rfl 1 (by decide) (hw (.fieldLink RX0 96 "MotionFloor$Pile" "size" "I") (List.mem_of_getElem? (i := 16) rfl)) (fun _ h9 => h9) rfl dX0_enact_115 ?_
    have hPc := hP.sub (ws' := [(h3, .inr (2, [.int 7, .int 600, .ref h4, .int 1])), (h4, .inl (K 0, 112, .inl (upd (upd (upd (upd (upd (upd (fun _ => 0) 0 6) 1 p0) 2 0) 3 0) 4 0) 5 p0)))]) [3, 4] rfl
    have hDc := hD.sub (ws' := [(h3, .inr (2, [.int 7, .int 600, .ref h4, .int 1])), (h4, .inl (K 0, 112, .inl (upd (upd (upd (upd (upd (upd (fun _ => 0) 0 6) 1 p0) 2 0) 3 0) 4 0) 5 p0)))]) [3, 4] (by decide) rfl
    refine wGov (wc := [(h3, .inr (2, [.int 7, .int 600, .ref h4, .int 1])), (h4, .inl (K 0, 112, .inl (upd (upd (upd (upd (upd (upd (fun _ => 0) 0 6) 1 p0) 2 0) 3 0) 4 0) 5 p0)))]) (wr := [(h0, .inr (0, [.ref h1, .ref h2, .ref h5, .ref h6, .ref h3, .ref h7, .ref h8, .int 0, .int 0, .int 0, .null])), (h1, .inr (1, [.int 1, .ref h9, .int 0, .int (-1), .int 0, .int p0, .int (-1), .ref h10])), (h2, .inr (4, [.ref h11, .int 0]))]) (va_runV (As := [.int 6, .int 0]) (rest := []) ⟨hx, hb, hml, hown, hts⟩ (m_X3_write_27 l G K h3 h4 p0 _ (by omega)) (cwV 2 hts (wGV t_ (mw (.methodLink RX0 169 yX3_write) (List.mem_of_getElem? (i := 12) rfl)) (mw (.instanceMethod yX3_write) (List.mem_of_getElem? (i := 13) rfl)) (mw (.selects RX3 yX3_write yX3_write) (List.mem_of_getElem? (i := 14) rfl)) (mw (.initialized RX3) (List.mem_of_getElem? (i := 11) rfl)) j_X3_write_27) rfl rfl rfl (by decide +kernel) ⟨Nat.le_of_ble_eq_true rfl, Nat.le_of_ble_eq_true rfl⟩) (wPV hK hE hPc hDc 2 0 rfl rfl) rfl rfl hl.1 rfl (lv_room (Nat.le_of_ble_eq_true rfl)) dX0_enact_118 ⟨Nat.le_of_ble_eq_true rfl, Nat.le_of_ble_eq_true rfl⟩) hP hD hS hA [3, 4] [0, 1, 2] rfl rfl rfl (by decide) (fun u H locs hw hP hD hS => ?_)
    subst hw
    have hP : va_P G vwCl [(h0, .inr (0, [.ref h1, .ref h2, .ref h5, .ref h6, .ref h3, .ref h7, .ref h8, .int 0, .int 0, .int 0, .null])), (h1, .inr (1, [.int 1, .ref h9, .int 0, .int (-1), .int 0, .int p0, .int (-1), .ref h10])), (h2, .inr (4, [.ref h11, .int 0])), (h3, .inr (2, [.int 7, .int 600, .ref h4, .int 1])), (h4, .inl (K 0, 112, .inl (upd (upd (upd (upd (upd (upd (upd (fun _ => 0) 0 6) 1 p0) 2 0) 3 0) 4 0) 5 p0) 6 0)))] _ := hP
    have hD : va_D A [(h0, .inr (0, [.ref h1, .ref h2, .ref h5, .ref h6, .ref h3, .ref h7, .ref h8, .int 0, .int 0, .int 0, .null])), (h1, .inr (1, [.int 1, .ref h9, .int 0, .int (-1), .int 0, .int p0, .int (-1), .ref h10])), (h2, .inr (4, [.ref h11, .int 0])), (h3, .inr (2, [.int 7, .int 600, .ref h4, .int 1])), (h4, .inl (K 0, 112, .inl (upd (upd (upd (upd (upd (upd (upd (fun _ => 0) 0 6) 1 p0) 2 0) 3 0) 4 0) 5 p0) 6 0)))] := hD
    refine lv_iload hx hb dX0_enact_121 (lv_at hl 0 rfl) ?_
    have hP9 : va_P G vwCl [(h0, .inr (0, [.ref h1, .ref h2, .ref h5, .ref h6, .ref h3, .ref h7, .ref h8, .int 0, .int 0, .int 0, .null])), (h1, .inr (1, [.int 1, .ref h9, .int 0, .int (-1), .int 0, .int p0, .int (-1), .ref h10])), (h2, .inr (4, [.ref h11, .int 0])), (h3, .inr (2, [.int 7, .int 600, .ref h4, .int 1])), (h4, .inl (K 0, 112, .inl (upd (upd (upd (upd (upd (upd (upd (fun _ => 0) 0 6) 1 p0) 2 0) 3 0) 4 0) 5 p0) 6 0)))] _ := hP
    have hD9 : va_D A [(h0, .inr (0, [.ref h1, .ref h2, .ref h5, .ref h6, .ref h3, .ref h7, .ref h8, .int 0, .int 0, .int 0, .null])), (h1, .inr (1, [.int 1, .ref h9, .int 0, .int (-1), .int 0, .int p0, .int (-1), .ref h10])), (h2, .inr (4, [.ref h11, .int 0])), (h3, .inr (2, [.int 7, .int 600, .ref h4, .int 1])), (h4, .inl (K 0, 112, .inl (upd (upd (upd (upd (upd (upd (upd (fun _ => 0) 0 6) 1 p0) 2 0) 3 0) 4 0) 5 p0) 6 0)))] := hD
    exact W.iret (v := p0) hx hb hr (fun t ht hW => ⟨⟨p0, _, rfl, Or.inr (⟨(by first | omega | decide | simp), rfl, rfl⟩), by rw [ht]; exact hP9, hD9⟩, hS.F ht⟩) hS.2.2 dX0_enact_123
def e_X10_limit_0 : List Cond := [.fieldLink RX10 10 "MotionFloor" "now" "LMotionFloor$Assembly;", .methodLink RX10 32 yX0_enact, .instanceMethod yX0_enact, .selects RX0 yX0_enact yX0_enact, .initialized RX0]
def v_X10_limit_0 : List Cond := .code yX10_limit cX10_limit 2 (some .int) :: (e_X10_limit_0 ++ (wsX100 ++ (v_X0_enact_5 ++ [])))
theorem te_X10_limit_0 : GoodIn lw_tbl e_X10_limit_0 := wGc z115 (wGc z349 (wGc z348 (wGc z347 (wGc z118 (wG0)))))
theorem t_X10_limit_0 : GoodIn lw_tbl v_X10_limit_0 := wGc z422 (wGa te_X10_limit_0 (wGa zcX10 (wGa t_X0_enact_5 (wG0))))
set_option maxHeartbeats 4000000 in
set_option maxRecDepth 100000 in
theorem m_X10_limit_0 (l : Launch) (G : va_G) (K : Nat → ClassId) (h0 h1 h2 h3 h4 h5 h6 h7 h8 h9 h10 h11 h12 h13 h14 : Nat) (p0 : Int32) (sz : Nat) : Met l yX10_limit v_X10_limit_0 ({ frames := 4, cells := 0, slots := 0, locals := 96 }) (va_Pc [.ref h0, .int p0] (wS G K sz [(h0, .inr (7, [.ref h1, .ref h6, .null, .null, .ref h7])), (h1, .inr (0, [.ref h2, .ref h3, .ref h8, .ref h9, .ref h4, .ref h10, .ref h11, .int 0, .int 0, .int 0, .null])), (h2, .inr (1, [.int 1, .ref h12, .int 0, .int (-1), .int 0, .int 0, .int (-1), .ref h13])), (h3, .inr (4, [.ref h14, .int 0])), (h4, .inr (2, [.int 7, .int 600, .ref h5, .int 0])), (h5, .inl (K 0, 112, .inl (fun _ => 0)))])) (va_Qi (fun (r : Int32) (u : va_W) => (((((p0.toInt < 0 ∨ (p0.toInt ≥ 0 ∧ p0.toInt > 99))))) ∧ (-9) = r ∧ u = [(h0, .inr (7, [.ref h1, .ref h6, .null, .null, .ref h7])), (h1, .inr (0, [.ref h2, .ref h3, .ref h8, .ref h9, .ref h4, .ref h10, .ref h11, .int 0, .int 0, .int 9, .null])), (h2, .inr (1, [.int 1, .ref h12, .int 0, .int (-1), .int 0, .int 0, .int (-1), .ref h13])), (h3, .inr (4, [.ref h14, .int 0])), (h4, .inr (2, [.int 7, .int 600, .ref h5, .int 0])), (h5, .inl (K 0, 112, .inl (fun _ => 0)))]) ∨ ((((((p0.toInt ≥ 0 ∧ p0.toInt ≤ 99))))) ∧ p0 = r ∧ u = [(h0, .inr (7, [.ref h1, .ref h6, .null, .null, .ref h7])), (h1, .inr (0, [.ref h2, .ref h3, .ref h8, .ref h9, .ref h4, .ref h10, .ref h11, .int 0, .int 0, .int 0, .null])), (h2, .inr (1, [.int 1, .ref h12, .int 0, .int (-1), .int 0, .int p0, .int (-1), .ref h13])), (h3, .inr (4, [.ref h14, .int 0])), (h4, .inr (2, [.int 7, .int 600, .ref h5, .int 1])), (h5, .inl (K 0, 112, .inl (upd (upd (upd (upd (upd (upd (upd (fun _ => 0) 0 6) 1 p0) 2 0) 3 0) 4 0) 5 p0) 6 0)))])) (wB G (va_A [(h0, .inr (7, [.ref h1, .ref h6, .null, .null, .ref h7])), (h1, .inr (0, [.ref h2, .ref h3, .ref h8, .ref h9, .ref h4, .ref h10, .ref h11, .int 0, .int 0, .int 0, .null])), (h2, .inr (1, [.int 1, .ref h12, .int 0, .int (-1), .int 0, .int 0, .int (-1), .ref h13])), (h3, .inr (4, [.ref h14, .int 0])), (h4, .inr (2, [.int 7, .int 600, .ref h5, .int 0])), (h5, .inl (K 0, 112, .inl (fun _ => 0)))] sz)) (va_A [(h0, .inr (7, [.ref h1, .ref h6, .null, .null, .ref h7])), (h1, .inr (0, [.ref h2, .ref h3, .ref h8, .ref h9, .ref h4, .ref h10, .ref h11, .int 0, .int 0, .int 0, .null])), (h2, .inr (1, [.int 1, .ref h12, .int 0, .int (-1), .int 0, .int 0, .int (-1), .ref h13])), (h3, .inr (4, [.ref h14, .int 0])), (h4, .inr (2, [.int 7, .int 600, .ref h5, .int 0])), (h5, .inl (K 0, 112, .inl (fun _ => 0)))] sz)) 0 0 (va_A [(h0, .inr (7, [.ref h1, .ref h6, .null, .null, .ref h7])), (h1, .inr (0, [.ref h2, .ref h3, .ref h8, .ref h9, .ref h4, .ref h10, .ref h11, .int 0, .int 0, .int 0, .null])), (h2, .inr (1, [.int 1, .ref h12, .int 0, .int (-1), .int 0, .int 0, .int (-1), .ref h13])), (h3, .inr (4, [.ref h14, .int 0])), (h4, .inr (2, [.int 7, .int 600, .ref h5, .int 0])), (h5, .inl (K 0, 112, .inl (fun _ => 0)))] sz) := by
  refine Met.ofW (cc := cX10_limit) (maxL := 2) (ret := (some .int)) (by decide) rfl ?_
  intro p e s m args below meth c s₁ B hml hv
  obtain ⟨rfl, hsz, hP, hK, hD0, hE⟩ := hv
  have hx := B.exec
  have hb := B.bytes
  have hr := B.returns
  have hts := atoms_spec (ws := v_X10_limit_0) B.pre
  have t_ := t_X10_limit_0
  have mw : ∀ w ∈ e_X10_limit_0, w ∈ v_X10_limit_0 := fun w h => List.mem_cons_of_mem _ (List.mem_append_left _ h)
  have hw := fun w (h : w ∈ e_X10_limit_0) => hts w (mw w h)
  have iX10 : ∀ w ∈ wsX100, w ∈ v_X10_limit_0 := fun w h => List.mem_cons_of_mem _ (List.mem_append_right _ (List.mem_append_left _ h))
  have j_X0_enact_5 : ∀ w ∈ v_X0_enact_5, w ∈ v_X10_limit_0 := fun w h => List.mem_cons_of_mem _ (List.mem_append_right _ (List.mem_append_right _ (List.mem_append_left _ h)))
  have hown : s.vm.findClass RX10 = some m.cls := findClass_of_methodNamed B.named
  have hlocks := B.notSynchronized
  subst hsz
  have hD := hD0.self (sz := s.heap.size)
  generalize hAe : va_A [(h0, .inr (7, [.ref h1, .ref h6, .null, .null, .ref h7])), (h1, .inr (0, [.ref h2, .ref h3, .ref h8, .ref h9, .ref h4, .ref h10, .ref h11, .int 0, .int 0, .int 0, .null])), (h2, .inr (1, [.int 1, .ref h12, .int 0, .int (-1), .int 0, .int 0, .int (-1), .ref h13])), (h3, .inr (4, [.ref h14, .int 0])), (h4, .inr (2, [.int 7, .int 600, .ref h5, .int 0])), (h5, .inl (K 0, 112, .inl (fun _ => 0)))] s.heap.size = A at hD ⊢
  have hA : ∀ q : Nat, s.heap.size ≤ q → A q := fun q h => by rw [← hAe]; exact Or.inr h
  have hS : va_S A s.heap s.heap [] := va_S.rf
  have hP : va_P G vwCl [(h0, .inr (7, [.ref h1, .ref h6, .null, .null, .ref h7])), (h1, .inr (0, [.ref h2, .ref h3, .ref h8, .ref h9, .ref h4, .ref h10, .ref h11, .int 0, .int 0, .int 0, .null])), (h2, .inr (1, [.int 1, .ref h12, .int 0, .int (-1), .int 0, .int 0, .int (-1), .ref h13])), (h3, .inr (4, [.ref h14, .int 0])), (h4, .inr (2, [.int 7, .int 600, .ref h5, .int 0])), (h5, .inl (K 0, 112, .inl (fun _ => 0)))] s.heap := hP
  have hl := lv_entry ([.ref h0, .int p0]) (n := 2) (Nat.le_of_ble_eq_true rfl)
  rw [lg_entry_eq]
  generalize (lg_sl ([.ref h0, .int p0]) ++ List.replicate (2 - (lg_sl ([.ref h0, .int p0])).length) Slot.unset).toArray = ls at hl ⊢
  have hl : lv_has ls 2 [(0, .ref h0), (1, .int p0)] := hl
  refine lv_aload_n hx hb dX10_limit_0 rfl (lv_at hl 0 rfl) ?_
  refine va_get (D := G) (ci := 7) (v := .ref h1) (C := RX10) (T := TX10) (N := 5) hx hb hts iX10 hown hK hP 0 rfl rfl 0 (by decide) (hw (.fieldLink RX10 10 "MotionFloor" "now" "LMotionFloor$Assembly;") (List.mem_of_getElem? (i := 0) rfl)) (fun _ h9 => h9) rfl dX10_limit_1 ?_
  refine lv_bipush (v := 6) hx hb dX10_limit_4 (by decide) ?_
  refine lv_iload_n hx hb dX10_limit_6 rfl (lv_at hl 1 rfl) ?_
  refine lv_iconst (v := 0) hx hb dX10_limit_7 (by decide) ?_
  refine lv_iconst (v := 0) hx hb dX10_limit_8 (by decide) ?_
  refine lv_iconst (v := 0) hx hb dX10_limit_9 (by decide) ?_
  have hPc := hP.sub (ws' := [(h1, .inr (0, [.ref h2, .ref h3, .ref h8, .ref h9, .ref h4, .ref h10, .ref h11, .int 0, .int 0, .int 0, .null])), (h2, .inr (1, [.int 1, .ref h12, .int 0, .int (-1), .int 0, .int 0, .int (-1), .ref h13])), (h3, .inr (4, [.ref h14, .int 0])), (h4, .inr (2, [.int 7, .int 600, .ref h5, .int 0])), (h5, .inl (K 0, 112, .inl (fun _ => 0)))]) [1, 2, 3, 4, 5] rfl
  have hDc := hD.sub (ws' := [(h1, .inr (0, [.ref h2, .ref h3, .ref h8, .ref h9, .ref h4, .ref h10, .ref h11, .int 0, .int 0, .int 0, .null])), (h2, .inr (1, [.int 1, .ref h12, .int 0, .int (-1), .int 0, .int 0, .int (-1), .ref h13])), (h3, .inr (4, [.ref h14, .int 0])), (h4, .inr (2, [.int 7, .int 600, .ref h5, .int 0])), (h5, .inl (K 0, 112, .inl (fun _ => 0)))]) [1, 2, 3, 4, 5] (by decide) rfl
  refine wGoi (wc := [(h1, .inr (0, [.ref h2, .ref h3, .ref h8, .ref h9, .ref h4, .ref h10, .ref h11, .int 0, .int 0, .int 0, .null])), (h2, .inr (1, [.int 1, .ref h12, .int 0, .int (-1), .int 0, .int 0, .int (-1), .ref h13])), (h3, .inr (4, [.ref h14, .int 0])), (h4, .inr (2, [.int 7, .int 600, .ref h5, .int 0])), (h5, .inl (K 0, 112, .inl (fun _ => 0)))]) (wr := [(h0, .inr (7, [.ref h1, .ref h6, .null, .null, .ref h7]))]) (va_runV (As := [.int 6, .int p0, .int 0, .int 0, .int 0]) (rest := []) ⟨hx, hb, hml, hown, hts⟩ (m_X0_enact_5 l G K h1 h2 h3 h4 h5 h8 h9 h10 h11 h12 h13 h14 p0 _) (cwV 5 hts (wGV t_ (mw (.methodLink RX10 32 yX0_enact) (List.mem_of_getElem? (i := 1) rfl)) (mw (.instanceMethod yX0_enact) (List.mem_of_getElem? (i := 2) rfl)) (mw (.selects RX0 yX0_enact yX0_enact) (List.mem_of_getElem? (i := 3) rfl)) (mw (.initialized RX0) (List.mem_of_getElem? (i := 4) rfl)) j_X0_enact_5) rfl rfl rfl (by decide +kernel) ⟨Nat.le_of_ble_eq_true rfl, Nat.le_of_ble_eq_true rfl⟩) (wPV hK hE hPc hDc 0 0 rfl rfl) rfl rfl hl.1 rfl (lv_room (Nat.le_of_ble_eq_true rfl)) dX10_limit_10 ⟨Nat.le_of_ble_eq_true rfl, Nat.le_of_ble_eq_true rfl⟩) hP hD hS hA [1, 2, 3, 4, 5] [0] rfl rfl rfl (by decide) (fun r u H locs hw hP hD hS => ?_)
  rcases hw with ⟨c_w, rfl, rfl⟩ | ⟨c_w, rfl, rfl⟩
  · have c1 := c_w
    have hP : va_P G vwCl [(h0, .inr (7, [.ref h1, .ref h6, .null, .null, .ref h7])), (h1, .inr (0, [.ref h2, .ref h3, .ref h8, .ref h9, .ref h4, .ref h10, .ref h11, .int 0, .int 0, .int 9, .null])), (h2, .inr (1, [.int 1, .ref h12, .int 0, .int (-1), .int 0, .int 0, .int (-1), .ref h13])), (h3, .inr (4, [.ref h14, .int 0])), (h4, .inr (2, [.int 7, .int 600, .ref h5, .int 0])), (h5, .inl (K 0, 112, .inl (fun _ => 0)))] _ := hP
    have hD : va_D A [(h0, .inr (7, [.ref h1, .ref h6, .null, .null, .ref h7])), (h1, .inr (0, [.ref h2, .ref h3, .ref h8, .ref h9, .ref h4, .ref h10, .ref h11, .int 0, .int 0, .int 9, .null])), (h2, .inr (1, [.int 1, .ref h12, .int 0, .int (-1), .int 0, .int 0, .int (-1), .ref h13])), (h3, .inr (4, [.ref h14, .int 0])), (h4, .inr (2, [.int 7, .int 600, .ref h5, .int 0])), (h5, .inl (K 0, 112, .inl (fun _ => 0)))] := hD
    have hP9 : va_P G vwCl [(h0, .inr (7, [.ref h1, .ref h6, .null, .null, .ref h7])), (h1, .inr (0, [.ref h2, .ref h3, .ref h8, .ref h9, .ref h4, .ref h10, .ref h11, .int 0, .int 0, .int 9, .null])), (h2, .inr (1, [.int 1, .ref h12, .int 0, .int (-1), .int 0, .int 0, .int (-1), .ref h13])), (h3, .inr (4, [.ref h14, .int 0])), (h4, .inr (2, [.int 7, .int 600, .ref h5, .int 0])), (h5, .inl (K 0, 112, .inl (fun _ => 0)))] _ := hP
    have hD9 : va_D A [(h0, .inr (7, [.ref h1, .ref h6, .null, .null, .ref h7])), (h1, .inr (0, [.ref h2, .ref h3, .ref h8, .ref h9, .ref h4, .ref h10, .ref h11, .int 0, .int 0, .int 9, .null])), (h2, .inr (1, [.int 1, .ref h12, .int 0, .int (-1), .int 0, .int 0, .int (-1), .ref h13])), (h3, .inr (4, [.ref h14, .int 0])), (h4, .inr (2, [.int 7, .int 600, .ref h5, .int 0])), (h5, .inl (K 0, 112, .inl (fun _ => 0)))] := hD
    exact W.iret (v := (-9)) hx hb hr (fun t ht hW => ⟨⟨(-9), _, rfl, Or.inl ⟨(by first | omega | decide | simp), rfl, rfl⟩, by rw [ht]; exact hP9, hD9⟩, hS.F ht⟩) hS.2.2 dX10_limit_13
  · have c2 := c_w
    have hP : va_P G vwCl [(h0, .inr (7, [.ref h1, .ref h6, .null, .null, .ref h7])), (h1, .inr (0, [.ref h2, .ref h3, .ref h8, .ref h9, .ref h4, .ref h10, .ref h11, .int 0, .int 0, .int 0, .null])), (h2, .inr (1, [.int 1, .ref h12, .int 0, .int (-1), .int 0, .int p0, .int (-1), .ref h13])), (h3, .inr (4, [.ref h14, .int 0])), (h4, .inr (2, [.int 7, .int 600, .ref h5, .int 1])), (h5, .inl (K 0, 112, .inl (upd (upd (upd (upd (upd (upd (upd (fun _ => 0) 0 6) 1 p0) 2 0) 3 0) 4 0) 5 p0) 6 0)))] _ := hP
    have hD : va_D A [(h0, .inr (7, [.ref h1, .ref h6, .null, .null, .ref h7])), (h1, .inr (0, [.ref h2, .ref h3, .ref h8, .ref h9, .ref h4, .ref h10, .ref h11, .int 0, .int 0, .int 0, .null])), (h2, .inr (1, [.int 1, .ref h12, .int 0, .int (-1), .int 0, .int p0, .int (-1), .ref h13])), (h3, .inr (4, [.ref h14, .int 0])), (h4, .inr (2, [.int 7, .int 600, .ref h5, .int 1])), (h5, .inl (K 0, 112, .inl (upd (upd (upd (upd (upd (upd (upd (fun _ => 0) 0 6) 1 p0) 2 0) 3 0) 4 0) 5 p0) 6 0)))] := hD
    have hP9 : va_P G vwCl [(h0, .inr (7, [.ref h1, .ref h6, .null, .null, .ref h7])), (h1, .inr (0, [.ref h2, .ref h3, .ref h8, .ref h9, .ref h4, .ref h10, .ref h11, .int 0, .int 0, .int 0, .null])), (h2, .inr (1, [.int 1, .ref h12, .int 0, .int (-1), .int 0, .int p0, .int (-1), .ref h13])), (h3, .inr (4, [.ref h14, .int 0])), (h4, .inr (2, [.int 7, .int 600, .ref h5, .int 1])), (h5, .inl (K 0, 112, .inl (upd (upd (upd (upd (upd (upd (upd (fun _ => 0) 0 6) 1 p0) 2 0) 3 0) 4 0) 5 p0) 6 0)))] _ := hP
    have hD9 : va_D A [(h0, .inr (7, [.ref h1, .ref h6, .null, .null, .ref h7])), (h1, .inr (0, [.ref h2, .ref h3, .ref h8, .ref h9, .ref h4, .ref h10, .ref h11, .int 0, .int 0, .int 0, .null])), (h2, .inr (1, [.int 1, .ref h12, .int 0, .int (-1), .int 0, .int p0, .int (-1), .ref h13])), (h3, .inr (4, [.ref h14, .int 0])), (h4, .inr (2, [.int 7, .int 600, .ref h5, .int 1])), (h5, .inl (K 0, 112, .inl (upd (upd (upd (upd (upd (upd (upd (fun _ => 0) 0 6) 1 p0) 2 0) 3 0) 4 0) 5 p0) 6 0)))] := hD
    exact W.iret (v := p0) hx hb hr (fun t ht hW => ⟨⟨p0, _, rfl, Or.inr (⟨(by first | omega | decide | simp), rfl, rfl⟩), by rw [ht]; exact hP9, hD9⟩, hS.F ht⟩) hS.2.2 dX10_limit_13
def e_X12_in_12 : List Cond := []
def v_X12_in_12 : List Cond := .code yX12_in cX12_in 3 (some .boolean) :: (e_X12_in_12 ++ [])
theorem te_X12_in_12 : GoodIn lw_tbl e_X12_in_12 := wG0
theorem t_X12_in_12 : GoodIn lw_tbl v_X12_in_12 := wGc z276 (wGa te_X12_in_12 (wG0))
set_option maxHeartbeats 4000000 in
set_option maxRecDepth 100000 in
theorem m_X12_in_12 (l : Launch) (G : va_G) (K : Nat → ClassId) (p0 : Int32) (sz : Nat) : Met l yX12_in v_X12_in_12 ({ frames := 0, cells := 0, slots := 0, locals := 0 }) (va_Pc [.int p0, .int 0, .int 99] (wS G K sz [])) (va_Qi (fun (r : Int32) (u : va_W) => ((p0.toInt < 0 ∨ (p0.toInt ≥ 0 ∧ p0.toInt > 99)) ∧ 0 = r ∧ u = []) ∨ (((p0.toInt ≥ 0 ∧ p0.toInt ≤ 99)) ∧ 1 = r ∧ u = [])) (wB G (va_A [] sz)) (va_A [] sz)) 0 0 (va_A [] sz) := by
  refine Met.ofW (cc := cX12_in) (maxL := 3) (ret := (some .boolean)) (by decide) rfl ?_
  intro p e s m args below meth c s₁ B hml hv
  obtain ⟨rfl, hsz, hP, hK, hD0, hE⟩ := hv
  have hx := B.exec
  have hb := B.bytes
  have hr := B.returns
  have hts := atoms_spec (ws := v_X12_in_12) B.pre
  have t_ := t_X12_in_12
  have mw : ∀ w ∈ e_X12_in_12, w ∈ v_X12_in_12 := fun w h => List.mem_cons_of_mem _ (List.mem_append_left _ h)
  have hw := fun w (h : w ∈ e_X12_in_12) => hts w (mw w h)
  have hown : s.vm.findClass RX12 = some m.cls := findClass_of_methodNamed B.named
  have hlocks := B.notSynchronized
  subst hsz
  have hD := hD0.self (sz := s.heap.size)
  generalize hAe : va_A [] s.heap.size = A at hD ⊢
  have hA : ∀ q : Nat, s.heap.size ≤ q → A q := fun q h => by rw [← hAe]; exact Or.inr h
  have hS : va_S A s.heap s.heap [] := va_S.rf
  have hP : va_P G vwCl [] s.heap := hP
  have hl := lv_entry ([.int p0, .int 0, .int 99]) (n := 3) (Nat.le_of_ble_eq_true rfl)
  rw [lg_entry_eq]
  generalize (lg_sl ([.int p0, .int 0, .int 99]) ++ List.replicate (3 - (lg_sl ([.int p0, .int 0, .int 99])).length) Slot.unset).toArray = ls at hl ⊢
  have hl : lv_has ls 3 [(0, .int p0), (1, .int 0), (2, .int 99)] := hl
  refine lv_iload_n hx hb dX12_in_0 rfl (lv_at hl 0 rfl) ?_
  refine lv_iload_n hx hb dX12_in_1 rfl (lv_at hl 1 rfl) ?_
  refine lv_icmp_lt (tgt := 14) hx hb dX12_in_2 (by decide) (fun c1 => ?_) (fun c1 => ?_)
  · have c1 : p0.toInt < 0 := wLt rfl (by decide) c1
    refine lv_iconst (v := 0) hx hb dX12_in_14 (by decide) ?_
    have hP9 : va_P G vwCl [] _ := hP
    have hD9 : va_D A [] := hD
    exact W.zret (v := 0) (ty := .boolean) hx hb hr rfl (fun t ht hW => ⟨⟨0, _, rfl, Or.inl ⟨(by first | omega | decide | simp), rfl, rfl⟩, by rw [ht]; exact hP9, hD9⟩, hS.F ht⟩) hS.2.2 dX12_in_15
  · have c1 : p0.toInt ≥ 0 := wNlt rfl (by decide) c1
    refine lv_iload_n hx hb dX12_in_5 rfl (lv_at hl 0 rfl) ?_
    refine lv_iload_n hx hb dX12_in_6 rfl (lv_at hl 2 rfl) ?_
    refine lv_icmp_gt (tgt := 14) hx hb dX12_in_7 (by decide) (fun c2 => ?_) (fun c2 => ?_)
    · have c2 : 99 < p0.toInt := wLt (by decide) rfl c2
      refine lv_iconst (v := 0) hx hb dX12_in_14 (by decide) ?_
      have hP9 : va_P G vwCl [] _ := hP
      have hD9 : va_D A [] := hD
      exact W.zret (v := 0) (ty := .boolean) hx hb hr rfl (fun t ht hW => ⟨⟨0, _, rfl, Or.inl ⟨(by first | omega | decide | simp), rfl, rfl⟩, by rw [ht]; exact hP9, hD9⟩, hS.F ht⟩) hS.2.2 dX12_in_15
    · have c2 : 99 ≥ p0.toInt := wNlt (by decide) rfl c2
      refine lv_iconst (v := 1) hx hb dX12_in_10 (by decide) ?_
      refine lv_goto (tgt := 15) hx hb dX12_in_11 (by decide) ?_
      have hP9 : va_P G vwCl [] _ := hP
      have hD9 : va_D A [] := hD
      exact W.zret (v := 1) (ty := .boolean) hx hb hr rfl (fun t ht hW => ⟨⟨1, _, rfl, Or.inr (⟨(by first | omega | decide | simp), rfl, rfl⟩), by rw [ht]; exact hP9, hD9⟩, hS.F ht⟩) hS.2.2 dX12_in_15
def e_X11_reason_10 : List Cond := [.initialized RX12, .static yX12_in, .fieldLink RX11 115 "MotionFloorModel$Hall" "pending" "I"]
def v_X11_reason_10 : List Cond := .code yX11_reason cX11_reason 6 (some .int) :: (e_X11_reason_10 ++ (wsX110 ++ (v_X12_in_12 ++ [])))
theorem te_X11_reason_10 : GoodIn lw_tbl e_X11_reason_10 := wGc z277 (wGc z278 (wGc z202 (wG0)))
theorem t_X11_reason_10 : GoodIn lw_tbl v_X11_reason_10 := wGc z355 (wGa te_X11_reason_10 (wGa zcX11 (wGa t_X12_in_12 (wG0))))
set_option maxHeartbeats 4000000 in
set_option maxRecDepth 100000 in
theorem m_X11_reason_10 (l : Launch) (G : va_G) (K : Nat → ClassId) (h0 h1 h2 h3 h4 h5 h6 h7 h8 h9 h10 h11 h12 h13 h14 h15 h16 h17 h18 h19 h20 h21 h22 h23 h24 h25 h26 h27 : Nat) (p0 : Int32) (sz : Nat) : Met l yX11_reason v_X11_reason_10 ({ frames := 1, cells := 0, slots := 0, locals := 22 }) (va_Pc [.ref h0, .int 6, .int p0, .int 0, .int 0, .int 0] (wS G K sz [(h0, .inr (8, [.int 1, .int 0, .int (-1), .int 0, .int 0, .int (-1), .int 0, .int 0, .int 0, .int 0, .int 0, .ref h1, .ref h2, .ref h3, .ref h4, .ref h5, .ref h6, .ref h7, .ref h8, .ref h9, .ref h10, .ref h11, .ref h12, .ref h13, .ref h14, .ref h15, .ref h16, .ref h17, .ref h18, .ref h19, .int 0, .ref h20, .ref h21, .ref h22, .ref h23, .int 0, .int 0, .ref h24, .ref h25, .int (-1), .ref h26, .ref h27]))])) (va_Qi (fun (r : Int32) (u : va_W) => (((p0.toInt < 0 ∨ (p0.toInt ≥ 0 ∧ p0.toInt > 99))) ∧ 9 = r ∧ u = [(h0, .inr (8, [.int 1, .int 0, .int (-1), .int 0, .int 0, .int (-1), .int 0, .int 0, .int 0, .int 0, .int 0, .ref h1, .ref h2, .ref h3, .ref h4, .ref h5, .ref h6, .ref h7, .ref h8, .ref h9, .ref h10, .ref h11, .ref h12, .ref h13, .ref h14, .ref h15, .ref h16, .ref h17, .ref h18, .ref h19, .int 0, .ref h20, .ref h21, .ref h22, .ref h23, .int 0, .int 0, .ref h24, .ref h25, .int (-1), .ref h26, .ref h27]))]) ∨ ((((p0.toInt ≥ 0 ∧ p0.toInt ≤ 99))) ∧ 0 = r ∧ u = [(h0, .inr (8, [.int 1, .int 0, .int (-1), .int 0, .int 0, .int (-1), .int 0, .int 0, .int 0, .int 0, .int 0, .ref h1, .ref h2, .ref h3, .ref h4, .ref h5, .ref h6, .ref h7, .ref h8, .ref h9, .ref h10, .ref h11, .ref h12, .ref h13, .ref h14, .ref h15, .ref h16, .ref h17, .ref h18, .ref h19, .int 0, .ref h20, .ref h21, .ref h22, .ref h23, .int 0, .int 0, .ref h24, .ref h25, .int (-1), .ref h26, .ref h27]))])) (wB G (va_A [(h0, .inr (8, [.int 1, .int 0, .int (-1), .int 0, .int 0, .int (-1), .int 0, .int 0, .int 0, .int 0, .int 0, .ref h1, .ref h2, .ref h3, .ref h4, .ref h5, .ref h6, .ref h7, .ref h8, .ref h9, .ref h10, .ref h11, .ref h12, .ref h13, .ref h14, .ref h15, .ref h16, .ref h17, .ref h18, .ref h19, .int 0, .ref h20, .ref h21, .ref h22, .ref h23, .int 0, .int 0, .ref h24, .ref h25, .int (-1), .ref h26, .ref h27]))] sz)) (va_A [(h0, .inr (8, [.int 1, .int 0, .int (-1), .int 0, .int 0, .int (-1), .int 0, .int 0, .int 0, .int 0, .int 0, .ref h1, .ref h2, .ref h3, .ref h4, .ref h5, .ref h6, .ref h7, .ref h8, .ref h9, .ref h10, .ref h11, .ref h12, .ref h13, .ref h14, .ref h15, .ref h16, .ref h17, .ref h18, .ref h19, .int 0, .ref h20, .ref h21, .ref h22, .ref h23, .int 0, .int 0, .ref h24, .ref h25, .int (-1), .ref h26, .ref h27]))] sz)) 0 0 (va_A [(h0, .inr (8, [.int 1, .int 0, .int (-1), .int 0, .int 0, .int (-1), .int 0, .int 0, .int 0, .int 0, .int 0, .ref h1, .ref h2, .ref h3, .ref h4, .ref h5, .ref h6, .ref h7, .ref h8, .ref h9, .ref h10, .ref h11, .ref h12, .ref h13, .ref h14, .ref h15, .ref h16, .ref h17, .ref h18, .ref h19, .int 0, .ref h20, .ref h21, .ref h22, .ref h23, .int 0, .int 0, .ref h24, .ref h25, .int (-1), .ref h26, .ref h27]))] sz) := by
  refine Met.ofW (cc := cX11_reason) (maxL := 6) (ret := (some .int)) (by decide) rfl ?_
  intro p e s m args below meth c s₁ B hml hv
  obtain ⟨rfl, hsz, hP, hK, hD0, hE⟩ := hv
  have hx := B.exec
  have hb := B.bytes
  have hr := B.returns
  have hts := atoms_spec (ws := v_X11_reason_10) B.pre
  have t_ := t_X11_reason_10
  have mw : ∀ w ∈ e_X11_reason_10, w ∈ v_X11_reason_10 := fun w h => List.mem_cons_of_mem _ (List.mem_append_left _ h)
  have hw := fun w (h : w ∈ e_X11_reason_10) => hts w (mw w h)
  have iX11 : ∀ w ∈ wsX110, w ∈ v_X11_reason_10 := fun w h => List.mem_cons_of_mem _ (List.mem_append_right _ (List.mem_append_left _ h))
  have j_X12_in_12 : ∀ w ∈ v_X12_in_12, w ∈ v_X11_reason_10 := fun w h => List.mem_cons_of_mem _ (List.mem_append_right _ (List.mem_append_right _ (List.mem_append_left _ h)))
  have hown : s.vm.findClass RX11 = some m.cls := findClass_of_methodNamed B.named
  have hlocks := B.notSynchronized
  subst hsz
  have hD := hD0.self (sz := s.heap.size)
  generalize hAe : va_A [(h0, .inr (8, [.int 1, .int 0, .int (-1), .int 0, .int 0, .int (-1), .int 0, .int 0, .int 0, .int 0, .int 0, .ref h1, .ref h2, .ref h3, .ref h4, .ref h5, .ref h6, .ref h7, .ref h8, .ref h9, .ref h10, .ref h11, .ref h12, .ref h13, .ref h14, .ref h15, .ref h16, .ref h17, .ref h18, .ref h19, .int 0, .ref h20, .ref h21, .ref h22, .ref h23, .int 0, .int 0, .ref h24, .ref h25, .int (-1), .ref h26, .ref h27]))] s.heap.size = A at hD ⊢
  have hA : ∀ q : Nat, s.heap.size ≤ q → A q := fun q h => by rw [← hAe]; exact Or.inr h
  have hS : va_S A s.heap s.heap [] := va_S.rf
  have hP : va_P G vwCl [(h0, .inr (8, [.int 1, .int 0, .int (-1), .int 0, .int 0, .int (-1), .int 0, .int 0, .int 0, .int 0, .int 0, .ref h1, .ref h2, .ref h3, .ref h4, .ref h5, .ref h6, .ref h7, .ref h8, .ref h9, .ref h10, .ref h11, .ref h12, .ref h13, .ref h14, .ref h15, .ref h16, .ref h17, .ref h18, .ref h19, .int 0, .ref h20, .ref h21, .ref h22, .ref h23, .int 0, .int 0, .ref h24, .ref h25, .int (-1), .ref h26, .ref h27]))] s.heap := hP
  have hl := lv_entry ([.ref h0, .int 6, .int p0, .int 0, .int 0, .int 0]) (n := 6) (Nat.le_of_ble_eq_true rfl)
  rw [lg_entry_eq]
  generalize (lg_sl ([.ref h0, .int 6, .int p0, .int 0, .int 0, .int 0]) ++ List.replicate (6 - (lg_sl ([.ref h0, .int 6, .int p0, .int 0, .int 0, .int 0])).length) Slot.unset).toArray = ls at hl ⊢
  have hl : lv_has ls 6 [(0, .ref h0), (1, .int 6), (2, .int p0), (3, .int 0), (4, .int 0), (5, .int 0)] := hl
  refine lv_iload_n hx hb dX11_reason_0 rfl (lv_at hl 1 rfl) ?_
  refine lv_tableIn (off := 225) (tgt := 226) hx hb dX11_reason_1 (by decide) (by decide) (by decide) (by decide) ?_
  refine lv_iload_n hx hb dX11_reason_226 rfl (lv_at hl 2 rfl) ?_
  refine lv_iconst (v := 0) hx hb dX11_reason_227 (by decide) ?_
  refine lv_bipush (v := 99) hx hb dX11_reason_228 (by decide) ?_
  have hPc := hP.sub (ws' := []) [] rfl
  have hDc := hD.sub (ws' := []) [] (by decide) rfl
  refine wGoi (wc := []) (wr := [(h0, .inr (8, [.int 1, .int 0, .int (-1), .int 0, .int 0, .int (-1), .int 0, .int 0, .int 0, .int 0, .int 0, .ref h1, .ref h2, .ref h3, .ref h4, .ref h5, .ref h6, .ref h7, .ref h8, .ref h9, .ref h10, .ref h11, .ref h12, .ref h13, .ref h14, .ref h15, .ref h16, .ref h17, .ref h18, .ref h19, .int 0, .ref h20, .ref h21, .ref h22, .ref h23, .int 0, .int 0, .ref h24, .ref h25, .int (-1), .ref h26, .ref h27]))]) (va_runSN (As := [.int p0, .int 0, .int 99]) (rest := []) ⟨hx, hb, hml, hown, hts⟩ (m_X12_in_12 l G K p0 _) ⟨va_cnB (host := "MotionFloorModel") 3 hts (wGP t_ j_X12_in_12) rfl rfl rfl hE.2.2.2.2.2.2.2.2.2.1 (hw (.initialized RX12) (List.mem_of_getElem? (i := 0) rfl)) (by decide +kernel) ⟨Nat.le_of_ble_eq_true rfl, Nat.le_of_ble_eq_true rfl⟩, (hw (.static yX12_in) (List.mem_of_getElem? (i := 1) rfl)), trivial⟩ (wPS hK hE hPc hDc) rfl rfl hl.1 rfl (lv_room (Nat.le_of_ble_eq_true rfl)) dX11_reason_230 ⟨Nat.le_of_ble_eq_true rfl, Nat.le_of_ble_eq_true rfl⟩) hP hD hS hA [] [0] rfl rfl rfl (by decide) (fun r u H locs hw hP hD hS => ?_)
  rcases hw with ⟨c_w, rfl, rfl⟩ | ⟨c_w, rfl, rfl⟩
  · have c1 := c_w
    have hP : va_P G vwCl [(h0, .inr (8, [.int 1, .int 0, .int (-1), .int 0, .int 0, .int (-1), .int 0, .int 0, .int 0, .int 0, .int 0, .ref h1, .ref h2, .ref h3, .ref h4, .ref h5, .ref h6, .ref h7, .ref h8, .ref h9, .ref h10, .ref h11, .ref h12, .ref h13, .ref h14, .ref h15, .ref h16, .ref h17, .ref h18, .ref h19, .int 0, .ref h20, .ref h21, .ref h22, .ref h23, .int 0, .int 0, .ref h24, .ref h25, .int (-1), .ref h26, .ref h27]))] _ := hP
    have hD : va_D A [(h0, .inr (8, [.int 1, .int 0, .int (-1), .int 0, .int 0, .int (-1), .int 0, .int 0, .int 0, .int 0, .int 0, .ref h1, .ref h2, .ref h3, .ref h4, .ref h5, .ref h6, .ref h7, .ref h8, .ref h9, .ref h10, .ref h11, .ref h12, .ref h13, .ref h14, .ref h15, .ref h16, .ref h17, .ref h18, .ref h19, .int 0, .ref h20, .ref h21, .ref h22, .ref h23, .int 0, .int 0, .ref h24, .ref h25, .int (-1), .ref h26, .ref h27]))] := hD
    refine lv_if_ne (tgt := 241) hx hb dX11_reason_233 (by decide) (fun c_ => absurd c_ (by decide)) (fun _ => ?_)
    refine lv_bipush (v := 9) hx hb dX11_reason_236 (by decide) ?_
    refine lv_goto (tgt := 254) hx hb dX11_reason_238 (by decide) ?_
    have hP9 : va_P G vwCl [(h0, .inr (8, [.int 1, .int 0, .int (-1), .int 0, .int 0, .int (-1), .int 0, .int 0, .int 0, .int 0, .int 0, .ref h1, .ref h2, .ref h3, .ref h4, .ref h5, .ref h6, .ref h7, .ref h8, .ref h9, .ref h10, .ref h11, .ref h12, .ref h13, .ref h14, .ref h15, .ref h16, .ref h17, .ref h18, .ref h19, .int 0, .ref h20, .ref h21, .ref h22, .ref h23, .int 0, .int 0, .ref h24, .ref h25, .int (-1), .ref h26, .ref h27]))] _ := hP
    have hD9 : va_D A [(h0, .inr (8, [.int 1, .int 0, .int (-1), .int 0, .int 0, .int (-1), .int 0, .int 0, .int 0, .int 0, .int 0, .ref h1, .ref h2, .ref h3, .ref h4, .ref h5, .ref h6, .ref h7, .ref h8, .ref h9, .ref h10, .ref h11, .ref h12, .ref h13, .ref h14, .ref h15, .ref h16, .ref h17, .ref h18, .ref h19, .int 0, .ref h20, .ref h21, .ref h22, .ref h23, .int 0, .int 0, .ref h24, .ref h25, .int (-1), .ref h26, .ref h27]))] := hD
    exact W.iret (v := 9) hx hb hr (fun t ht hW => ⟨⟨9, _, rfl, Or.inl ⟨(by first | omega | decide | simp), rfl, rfl⟩, by rw [ht]; exact hP9, hD9⟩, hS.F ht⟩) hS.2.2 dX11_reason_254
  · have c2 := c_w
    have hP : va_P G vwCl [(h0, .inr (8, [.int 1, .int 0, .int (-1), .int 0, .int 0, .int (-1), .int 0, .int 0, .int 0, .int 0, .int 0, .ref h1, .ref h2, .ref h3, .ref h4, .ref h5, .ref h6, .ref h7, .ref h8, .ref h9, .ref h10, .ref h11, .ref h12, .ref h13, .ref h14, .ref h15, .ref h16, .ref h17, .ref h18, .ref h19, .int 0, .ref h20, .ref h21, .ref h22, .ref h23, .int 0, .int 0, .ref h24, .ref h25, .int (-1), .ref h26, .ref h27]))] _ := hP
    have hD : va_D A [(h0, .inr (8, [.int 1, .int 0, .int (-1), .int 0, .int 0, .int (-1), .int 0, .int 0, .int 0, .int 0, .int 0, .ref h1, .ref h2, .ref h3, .ref h4, .ref h5, .ref h6, .ref h7, .ref h8, .ref h9, .ref h10, .ref h11, .ref h12, .ref h13, .ref h14, .ref h15, .ref h16, .ref h17, .ref h18, .ref h19, .int 0, .ref h20, .ref h21, .ref h22, .ref h23, .int 0, .int 0, .ref h24, .ref h25, .int (-1), .ref h26, .ref h27]))] := hD
    refine lv_if_ne (tgt := 241) hx hb dX11_reason_233 (by decide) (fun _ => ?_) (fun c_ => absurd c_ (by decide))
    refine lv_aload_n hx hb dX11_reason_241 rfl (lv_at hl 0 rfl) ?_
    refine va_get (D := G) (ci := 8) (v := .int 0) (C := RX11) (T := TX11) (N := 42) hx hb hts iX11 hown hK hP 0 rfl rfl 6 (by decide) (hw (.fieldLink RX11 115 "MotionFloorModel$Hall" "pending" "I") (List.mem_of_getElem? (i := 2) rfl)) (fun _ h9 => h9) rfl dX11_reason_242 ?_
    refine lv_if_le (tgt := 253) hx hb dX11_reason_245 (by decide) (fun _ => ?_) (fun c_ => absurd c_ (by decide))
    refine lv_iconst (v := 0) hx hb dX11_reason_253 (by decide) ?_
    have hP9 : va_P G vwCl [(h0, .inr (8, [.int 1, .int 0, .int (-1), .int 0, .int 0, .int (-1), .int 0, .int 0, .int 0, .int 0, .int 0, .ref h1, .ref h2, .ref h3, .ref h4, .ref h5, .ref h6, .ref h7, .ref h8, .ref h9, .ref h10, .ref h11, .ref h12, .ref h13, .ref h14, .ref h15, .ref h16, .ref h17, .ref h18, .ref h19, .int 0, .ref h20, .ref h21, .ref h22, .ref h23, .int 0, .int 0, .ref h24, .ref h25, .int (-1), .ref h26, .ref h27]))] _ := hP
    have hD9 : va_D A [(h0, .inr (8, [.int 1, .int 0, .int (-1), .int 0, .int 0, .int (-1), .int 0, .int 0, .int 0, .int 0, .int 0, .ref h1, .ref h2, .ref h3, .ref h4, .ref h5, .ref h6, .ref h7, .ref h8, .ref h9, .ref h10, .ref h11, .ref h12, .ref h13, .ref h14, .ref h15, .ref h16, .ref h17, .ref h18, .ref h19, .int 0, .ref h20, .ref h21, .ref h22, .ref h23, .int 0, .int 0, .ref h24, .ref h25, .int (-1), .ref h26, .ref h27]))] := hD
    exact W.iret (v := 0) hx hb hr (fun t ht hW => ⟨⟨0, _, rfl, Or.inr (⟨(by first | omega | decide | simp), rfl, rfl⟩), by rw [ht]; exact hP9, hD9⟩, hS.F ht⟩) hS.2.2 dX11_reason_254
def e_X11_does_3 : List Cond := [.fieldLink RX11 109 "MotionFloorModel$Hall" "limit" "I"]
def v_X11_does_3 : List Cond := .code yX11_does cX11_does 7 (some .int) :: (e_X11_does_3 ++ (wsX110 ++ []))
theorem te_X11_does_3 : GoodIn lw_tbl e_X11_does_3 := wGc z204 (wG0)
theorem t_X11_does_3 : GoodIn lw_tbl v_X11_does_3 := wGc z356 (wGa te_X11_does_3 (wGa zcX11 (wG0)))
set_option maxHeartbeats 4000000 in
set_option maxRecDepth 100000 in
theorem m_X11_does_3 (l : Launch) (G : va_G) (K : Nat → ClassId) (h0 h1 h2 h3 h4 h5 h6 h7 h8 h9 h10 h11 h12 h13 h14 h15 h16 h17 h18 h19 h20 h21 h22 h23 h24 h25 h26 h27 : Nat) (p0 : Int32) (sz : Nat) (bp0 : 0 ≤ p0.toInt ∧ p0.toInt ≤ 99) : Met l yX11_does v_X11_does_3 ({ frames := 0, cells := 0, slots := 0, locals := 0 }) (va_Pc [.ref h0, .int 6, .int p0, .int 0, .int 0, .int 0] (wS G K sz [(h0, .inr (8, [.int 1, .int 0, .int (-1), .int 0, .int 0, .int (-1), .int 0, .int 0, .int 0, .int 0, .int 0, .ref h1, .ref h2, .ref h3, .ref h4, .ref h5, .ref h6, .ref h7, .ref h8, .ref h9, .ref h10, .ref h11, .ref h12, .ref h13, .ref h14, .ref h15, .ref h16, .ref h17, .ref h18, .ref h19, .int 0, .ref h20, .ref h21, .ref h22, .ref h23, .int 0, .int 0, .ref h24, .ref h25, .int (-1), .ref h26, .ref h27]))])) (va_Qi (fun (r : Int32) (u : va_W) => (p0 = r ∧ u = [(h0, .inr (8, [.int 1, .int 0, .int (-1), .int 0, .int p0, .int (-1), .int 0, .int 0, .int 0, .int 0, .int 0, .ref h1, .ref h2, .ref h3, .ref h4, .ref h5, .ref h6, .ref h7, .ref h8, .ref h9, .ref h10, .ref h11, .ref h12, .ref h13, .ref h14, .ref h15, .ref h16, .ref h17, .ref h18, .ref h19, .int 0, .ref h20, .ref h21, .ref h22, .ref h23, .int 0, .int 0, .ref h24, .ref h25, .int (-1), .ref h26, .ref h27]))])) (wB G (va_A [(h0, .inr (8, [.int 1, .int 0, .int (-1), .int 0, .int 0, .int (-1), .int 0, .int 0, .int 0, .int 0, .int 0, .ref h1, .ref h2, .ref h3, .ref h4, .ref h5, .ref h6, .ref h7, .ref h8, .ref h9, .ref h10, .ref h11, .ref h12, .ref h13, .ref h14, .ref h15, .ref h16, .ref h17, .ref h18, .ref h19, .int 0, .ref h20, .ref h21, .ref h22, .ref h23, .int 0, .int 0, .ref h24, .ref h25, .int (-1), .ref h26, .ref h27]))] sz)) (va_A [(h0, .inr (8, [.int 1, .int 0, .int (-1), .int 0, .int 0, .int (-1), .int 0, .int 0, .int 0, .int 0, .int 0, .ref h1, .ref h2, .ref h3, .ref h4, .ref h5, .ref h6, .ref h7, .ref h8, .ref h9, .ref h10, .ref h11, .ref h12, .ref h13, .ref h14, .ref h15, .ref h16, .ref h17, .ref h18, .ref h19, .int 0, .ref h20, .ref h21, .ref h22, .ref h23, .int 0, .int 0, .ref h24, .ref h25, .int (-1), .ref h26, .ref h27]))] sz)) 0 0 (va_A [(h0, .inr (8, [.int 1, .int 0, .int (-1), .int 0, .int 0, .int (-1), .int 0, .int 0, .int 0, .int 0, .int 0, .ref h1, .ref h2, .ref h3, .ref h4, .ref h5, .ref h6, .ref h7, .ref h8, .ref h9, .ref h10, .ref h11, .ref h12, .ref h13, .ref h14, .ref h15, .ref h16, .ref h17, .ref h18, .ref h19, .int 0, .ref h20, .ref h21, .ref h22, .ref h23, .int 0, .int 0, .ref h24, .ref h25, .int (-1), .ref h26, .ref h27]))] sz) := by
  refine Met.ofW (cc := cX11_does) (maxL := 7) (ret := (some .int)) (by decide) rfl ?_
  intro p e s m args below meth c s₁ B hml hv
  obtain ⟨rfl, hsz, hP, hK, hD0, hE⟩ := hv
  have hx := B.exec
  have hb := B.bytes
  have hr := B.returns
  have hts := atoms_spec (ws := v_X11_does_3) B.pre
  have t_ := t_X11_does_3
  have mw : ∀ w ∈ e_X11_does_3, w ∈ v_X11_does_3 := fun w h => List.mem_cons_of_mem _ (List.mem_append_left _ h)
  have hw := fun w (h : w ∈ e_X11_does_3) => hts w (mw w h)
  have iX11 : ∀ w ∈ wsX110, w ∈ v_X11_does_3 := fun w h => List.mem_cons_of_mem _ (List.mem_append_right _ (List.mem_append_left _ h))
  have hown : s.vm.findClass RX11 = some m.cls := findClass_of_methodNamed B.named
  have hlocks := B.notSynchronized
  subst hsz
  have hD := hD0.self (sz := s.heap.size)
  generalize hAe : va_A [(h0, .inr (8, [.int 1, .int 0, .int (-1), .int 0, .int 0, .int (-1), .int 0, .int 0, .int 0, .int 0, .int 0, .ref h1, .ref h2, .ref h3, .ref h4, .ref h5, .ref h6, .ref h7, .ref h8, .ref h9, .ref h10, .ref h11, .ref h12, .ref h13, .ref h14, .ref h15, .ref h16, .ref h17, .ref h18, .ref h19, .int 0, .ref h20, .ref h21, .ref h22, .ref h23, .int 0, .int 0, .ref h24, .ref h25, .int (-1), .ref h26, .ref h27]))] s.heap.size = A at hD ⊢
  have hA : ∀ q : Nat, s.heap.size ≤ q → A q := fun q h => by rw [← hAe]; exact Or.inr h
  have hS : va_S A s.heap s.heap [] := va_S.rf
  have hP : va_P G vwCl [(h0, .inr (8, [.int 1, .int 0, .int (-1), .int 0, .int 0, .int (-1), .int 0, .int 0, .int 0, .int 0, .int 0, .ref h1, .ref h2, .ref h3, .ref h4, .ref h5, .ref h6, .ref h7, .ref h8, .ref h9, .ref h10, .ref h11, .ref h12, .ref h13, .ref h14, .ref h15, .ref h16, .ref h17, .ref h18, .ref h19, .int 0, .ref h20, .ref h21, .ref h22, .ref h23, .int 0, .int 0, .ref h24, .ref h25, .int (-1), .ref h26, .ref h27]))] s.heap := hP
  have hl := lv_entry ([.ref h0, .int 6, .int p0, .int 0, .int 0, .int 0]) (n := 7) (Nat.le_of_ble_eq_true rfl)
  rw [lg_entry_eq]
  generalize (lg_sl ([.ref h0, .int 6, .int p0, .int 0, .int 0, .int 0]) ++ List.replicate (7 - (lg_sl ([.ref h0, .int 6, .int p0, .int 0, .int 0, .int 0])).length) Slot.unset).toArray = ls at hl ⊢
  have hl : lv_has ls 7 [(0, .ref h0), (1, .int 6), (2, .int p0), (3, .int 0), (4, .int 0), (5, .int 0)] := hl
  refine lv_iload_n hx hb dX11_does_0 rfl (lv_at hl 1 rfl) ?_
  refine lv_tableIn (off := 201) (tgt := 202) hx hb dX11_does_1 (by decide) (by decide) (by decide) (by decide) ?_
  refine lv_aload_n hx hb dX11_does_202 rfl (lv_at hl 0 rfl) ?_
  refine lv_iload_n hx hb dX11_does_203 rfl (lv_at hl 2 rfl) ?_
  refine va_put (D := G) (ci := 8) (v := .int p0) (ty := .int) (C := RX11) (T := TX11) (N := 42) hx hb hts iX11 tyX11 tyX11_ok nmX11 hown hK hP hD hS 0 rfl rfl 4 (by decide) (hw (.fieldLink RX11 109 "MotionFloorModel$Hall" "limit" "I") (List.mem_of_getElem? (i := 0) rfl)) (fun _ h9 => h9) rfl (by decide +kernel) rfl rfl (Nat.le_of_ble_eq_true rfl) dX11_does_204 (fun H locs hP hD hS => ?_)
  have hP : va_P G vwCl [(h0, .inr (8, [.int 1, .int 0, .int (-1), .int 0, .int p0, .int (-1), .int 0, .int 0, .int 0, .int 0, .int 0, .ref h1, .ref h2, .ref h3, .ref h4, .ref h5, .ref h6, .ref h7, .ref h8, .ref h9, .ref h10, .ref h11, .ref h12, .ref h13, .ref h14, .ref h15, .ref h16, .ref h17, .ref h18, .ref h19, .int 0, .ref h20, .ref h21, .ref h22, .ref h23, .int 0, .int 0, .ref h24, .ref h25, .int (-1), .ref h26, .ref h27]))] _ := hP
  have hD : va_D A [(h0, .inr (8, [.int 1, .int 0, .int (-1), .int 0, .int p0, .int (-1), .int 0, .int 0, .int 0, .int 0, .int 0, .ref h1, .ref h2, .ref h3, .ref h4, .ref h5, .ref h6, .ref h7, .ref h8, .ref h9, .ref h10, .ref h11, .ref h12, .ref h13, .ref h14, .ref h15, .ref h16, .ref h17, .ref h18, .ref h19, .int 0, .ref h20, .ref h21, .ref h22, .ref h23, .int 0, .int 0, .ref h24, .ref h25, .int (-1), .ref h26, .ref h27]))] := hD
  refine lv_iload_n hx hb dX11_does_207 rfl (lv_at hl 2 rfl) ?_
  have hP9 : va_P G vwCl [(h0, .inr (8, [.int 1, .int 0, .int (-1), .int 0, .int p0, .int (-1), .int 0, .int 0, .int 0, .int 0, .int 0, .ref h1, .ref h2, .ref h3, .ref h4, .ref h5, .ref h6, .ref h7, .ref h8, .ref h9, .ref h10, .ref h11, .ref h12, .ref h13, .ref h14, .ref h15, .ref h16, .ref h17, .ref h18, .ref h19, .int 0, .ref h20, .ref h21, .ref h22, .ref h23, .int 0, .int 0, .ref h24, .ref h25, .int (-1), .ref h26, .ref h27]))] _ := hP
  have hD9 : va_D A [(h0, .inr (8, [.int 1, .int 0, .int (-1), .int 0, .int p0, .int (-1), .int 0, .int 0, .int 0, .int 0, .int 0, .ref h1, .ref h2, .ref h3, .ref h4, .ref h5, .ref h6, .ref h7, .ref h8, .ref h9, .ref h10, .ref h11, .ref h12, .ref h13, .ref h14, .ref h15, .ref h16, .ref h17, .ref h18, .ref h19, .int 0, .ref h20, .ref h21, .ref h22, .ref h23, .int 0, .int 0, .ref h24, .ref h25, .int (-1), .ref h26, .ref h27]))] := hD
  exact W.iret (v := p0) hx hb hr (fun t ht hW => ⟨⟨p0, _, rfl, ⟨rfl, rfl⟩, by rw [ht]; exact hP9, hD9⟩, hS.F ht⟩) hS.2.2 dX11_does_208
def e_X12_in_13 : List Cond := []
def v_X12_in_13 : List Cond := .code yX12_in cX12_in 3 (some .boolean) :: (e_X12_in_13 ++ [])
theorem te_X12_in_13 : GoodIn lw_tbl e_X12_in_13 := wG0
theorem t_X12_in_13 : GoodIn lw_tbl v_X12_in_13 := wGc z276 (wGa te_X12_in_13 (wG0))
set_option maxHeartbeats 4000000 in
set_option maxRecDepth 100000 in
theorem m_X12_in_13 (l : Launch) (G : va_G) (K : Nat → ClassId) (sz : Nat) : Met l yX12_in v_X12_in_13 ({ frames := 0, cells := 0, slots := 0, locals := 0 }) (va_Pc [.int 6, .int 1, .int 22] (wS G K sz [])) (va_Qi (fun (r : Int32) (u : va_W) => (1 = r ∧ u = [])) (wB G (va_A [] sz)) (va_A [] sz)) 0 0 (va_A [] sz) := by
  refine Met.ofW (cc := cX12_in) (maxL := 3) (ret := (some .boolean)) (by decide) rfl ?_
  intro p e s m args below meth c s₁ B hml hv
  obtain ⟨rfl, hsz, hP, hK, hD0, hE⟩ := hv
  have hx := B.exec
  have hb := B.bytes
  have hr := B.returns
  have hts := atoms_spec (ws := v_X12_in_13) B.pre
  have t_ := t_X12_in_13
  have mw : ∀ w ∈ e_X12_in_13, w ∈ v_X12_in_13 := fun w h => List.mem_cons_of_mem _ (List.mem_append_left _ h)
  have hw := fun w (h : w ∈ e_X12_in_13) => hts w (mw w h)
  have hown : s.vm.findClass RX12 = some m.cls := findClass_of_methodNamed B.named
  have hlocks := B.notSynchronized
  subst hsz
  have hD := hD0.self (sz := s.heap.size)
  generalize hAe : va_A [] s.heap.size = A at hD ⊢
  have hA : ∀ q : Nat, s.heap.size ≤ q → A q := fun q h => by rw [← hAe]; exact Or.inr h
  have hS : va_S A s.heap s.heap [] := va_S.rf
  have hP : va_P G vwCl [] s.heap := hP
  have hl := lv_entry ([.int 6, .int 1, .int 22]) (n := 3) (Nat.le_of_ble_eq_true rfl)
  rw [lg_entry_eq]
  generalize (lg_sl ([.int 6, .int 1, .int 22]) ++ List.replicate (3 - (lg_sl ([.int 6, .int 1, .int 22])).length) Slot.unset).toArray = ls at hl ⊢
  have hl : lv_has ls 3 [(0, .int 6), (1, .int 1), (2, .int 22)] := hl
  refine lv_iload_n hx hb dX12_in_0 rfl (lv_at hl 0 rfl) ?_
  refine lv_iload_n hx hb dX12_in_1 rfl (lv_at hl 1 rfl) ?_
  refine lv_icmp_lt (tgt := 14) hx hb dX12_in_2 (by decide) (fun c_ => absurd c_ (by decide)) (fun _ => ?_)
  refine lv_iload_n hx hb dX12_in_5 rfl (lv_at hl 0 rfl) ?_
  refine lv_iload_n hx hb dX12_in_6 rfl (lv_at hl 2 rfl) ?_
  refine lv_icmp_gt (tgt := 14) hx hb dX12_in_7 (by decide) (fun c_ => absurd c_ (by decide)) (fun _ => ?_)
  refine lv_iconst (v := 1) hx hb dX12_in_10 (by decide) ?_
  refine lv_goto (tgt := 15) hx hb dX12_in_11 (by decide) ?_
  have hP9 : va_P G vwCl [] _ := hP
  have hD9 : va_D A [] := hD
  exact W.zret (v := 1) (ty := .boolean) hx hb hr rfl (fun t ht hW => ⟨⟨1, _, rfl, ⟨rfl, rfl⟩, by rw [ht]; exact hP9, hD9⟩, hS.F ht⟩) hS.2.2 dX12_in_15
def e_X12_numbers_3 : List Cond := [.methodLink RX12 1 yX12_in, .static yX12_in, .initialized RX12]
def v_X12_numbers_3 : List Cond := .code yX12_numbers cX12_numbers 1 (some .int) :: (e_X12_numbers_3 ++ (v_X12_in_13 ++ []))
theorem te_X12_numbers_3 : GoodIn lw_tbl e_X12_numbers_3 := wGc z279 (wGc z278 (wGc z277 (wG0)))
theorem t_X12_numbers_3 : GoodIn lw_tbl v_X12_numbers_3 := wGc z357 (wGa te_X12_numbers_3 (wGa t_X12_in_13 (wG0)))
set_option maxHeartbeats 4000000 in
set_option maxRecDepth 100000 in
theorem m_X12_numbers_3 (l : Launch) (G : va_G) (K : Nat → ClassId) (sz : Nat) : Met l yX12_numbers v_X12_numbers_3 ({ frames := 1, cells := 0, slots := 0, locals := 22 }) (va_Pc [.int 6] (wS G K sz [])) (va_Qi (fun (r : Int32) (u : va_W) => (1 = r ∧ u = [])) (wB G (va_A [] sz)) (va_A [] sz)) 0 0 (va_A [] sz) := by
  refine Met.ofW (cc := cX12_numbers) (maxL := 1) (ret := (some .int)) (by decide) rfl ?_
  intro p e s m args below meth c s₁ B hml hv
  obtain ⟨rfl, hsz, hP, hK, hD0, hE⟩ := hv
  have hx := B.exec
  have hb := B.bytes
  have hr := B.returns
  have hts := atoms_spec (ws := v_X12_numbers_3) B.pre
  have t_ := t_X12_numbers_3
  have mw : ∀ w ∈ e_X12_numbers_3, w ∈ v_X12_numbers_3 := fun w h => List.mem_cons_of_mem _ (List.mem_append_left _ h)
  have hw := fun w (h : w ∈ e_X12_numbers_3) => hts w (mw w h)
  have j_X12_in_13 : ∀ w ∈ v_X12_in_13, w ∈ v_X12_numbers_3 := fun w h => List.mem_cons_of_mem _ (List.mem_append_right _ (List.mem_append_left _ h))
  have hown : s.vm.findClass RX12 = some m.cls := findClass_of_methodNamed B.named
  have hlocks := B.notSynchronized
  subst hsz
  have hD := hD0.self (sz := s.heap.size)
  generalize hAe : va_A [] s.heap.size = A at hD ⊢
  have hA : ∀ q : Nat, s.heap.size ≤ q → A q := fun q h => by rw [← hAe]; exact Or.inr h
  have hS : va_S A s.heap s.heap [] := va_S.rf
  have hP : va_P G vwCl [] s.heap := hP
  have hl := lv_entry ([.int 6]) (n := 1) (Nat.le_of_ble_eq_true rfl)
  rw [lg_entry_eq]
  generalize (lg_sl ([.int 6]) ++ List.replicate (1 - (lg_sl ([.int 6])).length) Slot.unset).toArray = ls at hl ⊢
  have hl : lv_has ls 1 [(0, .int 6)] := hl
  refine lv_iload_n hx hb dX12_numbers_0 rfl (lv_at hl 0 rfl) ?_
  refine lv_tableIn (off := 93) (tgt := 94) hx hb dX12_numbers_1 (by decide) (by decide) (by decide) (by decide) ?_
  refine lv_iload_n hx hb dX12_numbers_94 rfl (lv_at hl 0 rfl) ?_
  refine lv_iconst (v := 1) hx hb dX12_numbers_95 (by decide) ?_
  refine lv_bipush (v := 22) hx hb dX12_numbers_96 (by decide) ?_
  have hPc := hP.sub (ws' := []) [] rfl
  have hDc := hD.sub (ws' := []) [] (by decide) rfl
  refine wGoi (wc := []) (wr := []) (va_runS (As := [.int 6, .int 1, .int 22]) (rest := []) ⟨hx, hb, hml, hown, hts⟩ (m_X12_in_13 l G K _) (va_cwS 3 hts (wGS t_ (mw (.methodLink RX12 1 yX12_in) (List.mem_of_getElem? (i := 0) rfl)) (mw (.static yX12_in) (List.mem_of_getElem? (i := 1) rfl)) (mw (.initialized RX12) (List.mem_of_getElem? (i := 2) rfl)) j_X12_in_13) rfl rfl rfl (by decide +kernel) ⟨Nat.le_of_ble_eq_true rfl, Nat.le_of_ble_eq_true rfl⟩) (wPS hK hE hPc hDc) rfl rfl hl.1 rfl (lv_room (Nat.le_of_ble_eq_true rfl)) dX12_numbers_98 ⟨Nat.le_of_ble_eq_true rfl, Nat.le_of_ble_eq_true rfl⟩) hP hD hS hA [] [] rfl rfl rfl (by decide) (fun r u H locs hw hP hD hS => ?_)
  rcases hw with ⟨rfl, rfl⟩
  have hP : va_P G vwCl [] _ := hP
  have hD : va_D A [] := hD
  refine lv_if_eq (tgt := 108) hx hb dX12_numbers_101 (by decide) (fun c_ => absurd c_ (by decide)) (fun _ => ?_)
  refine lv_iconst (v := 1) hx hb dX12_numbers_104 (by decide) ?_
  refine lv_goto (tgt := 109) hx hb dX12_numbers_105 (by decide) ?_
  have hP9 : va_P G vwCl [] _ := hP
  have hD9 : va_D A [] := hD
  exact W.iret (v := 1) hx hb hr (fun t ht hW => ⟨⟨1, _, rfl, ⟨rfl, rfl⟩, by rw [ht]; exact hP9, hD9⟩, hS.F ht⟩) hS.2.2 dX12_numbers_109
def e_X11_act_10 : List Cond := [.methodLink RX11 196 yX11_reason, .instanceMethod yX11_reason, .selects RX11 yX11_reason yX11_reason, .initialized RX11, .fieldLink RX11 127 "MotionFloorModel$Hall" "why" "I", .fieldLink RX11 118 "MotionFloorModel$Hall" "entries" "I", .methodLink RX11 200 yX11_does, .instanceMethod yX11_does, .selects RX11 yX11_does yX11_does, .initialized RX12, .static yX12_numbers, .fieldLink RX11 90 "MotionFloorModel$Hall" "minutes" "[I"]
def v_X11_act_10 : List Cond := .code yX11_act cX11_act 10 (some .int) :: (e_X11_act_10 ++ (wsX110 ++ (v_X11_reason_10 ++ (v_X11_does_3 ++ (v_X12_numbers_3 ++ [])))))
theorem te_X11_act_10 : GoodIn lw_tbl e_X11_act_10 := wGc z364 (wGc z363 (wGc z362 (wGc z227 (wGc z198 (wGc z201 (wGc z361 (wGc z360 (wGc z359 (wGc z277 (wGc z358 (wGc z166 (wG0))))))))))))
theorem t_X11_act_10 : GoodIn lw_tbl v_X11_act_10 := wGc z365 (wGa te_X11_act_10 (wGa zcX11 (wGa t_X11_reason_10 (wGa t_X11_does_3 (wGa t_X12_numbers_3 (wG0))))))
set_option maxHeartbeats 4000000 in
set_option maxRecDepth 100000 in
theorem m_X11_act_10 (l : Launch) (G : va_G) (K : Nat → ClassId) (h0 h1 h2 h3 h4 h5 h6 h7 h8 h9 h10 h11 h12 h13 h14 h15 h16 h17 h18 h19 h20 h21 h22 h23 h24 h25 h26 h27 : Nat) (p0 : Int32) (sz : Nat) : Met l yX11_act v_X11_act_10 ({ frames := 2, cells := 0, slots := 0, locals := 47 }) (va_Pc [.ref h0, .int 6, .int p0, .int 0, .int 0, .int 0] (wS G K sz [(h0, .inr (8, [.int 1, .int 0, .int (-1), .int 0, .int 0, .int (-1), .int 0, .int 0, .int 0, .int 0, .int 0, .ref h2, .ref h3, .ref h4, .ref h5, .ref h6, .ref h7, .ref h8, .ref h9, .ref h10, .ref h11, .ref h12, .ref h13, .ref h14, .ref h15, .ref h16, .ref h17, .ref h18, .ref h19, .ref h20, .int 0, .ref h21, .ref h22, .ref h23, .ref h24, .int 0, .int 0, .ref h25, .ref h26, .int (-1), .ref h1, .ref h27])), (h1, .inl (K 0, 3600, .inl (fun _ => 0)))])) (va_Qi (fun (r : Int32) (u : va_W) => ((((p0.toInt < 0 ∨ (p0.toInt ≥ 0 ∧ p0.toInt > 99)))) ∧ (-9) = r ∧ u = [(h0, .inr (8, [.int 1, .int 0, .int (-1), .int 0, .int 0, .int (-1), .int 0, .int 0, .int 0, .int 0, .int 9, .ref h2, .ref h3, .ref h4, .ref h5, .ref h6, .ref h7, .ref h8, .ref h9, .ref h10, .ref h11, .ref h12, .ref h13, .ref h14, .ref h15, .ref h16, .ref h17, .ref h18, .ref h19, .ref h20, .int 0, .ref h21, .ref h22, .ref h23, .ref h24, .int 0, .int 0, .ref h25, .ref h26, .int (-1), .ref h1, .ref h27])), (h1, .inl (K 0, 3600, .inl (fun _ => 0)))]) ∨ (((((p0.toInt ≥ 0 ∧ p0.toInt ≤ 99)))) ∧ p0 = r ∧ u = [(h0, .inr (8, [.int 1, .int 0, .int (-1), .int 0, .int p0, .int (-1), .int 0, .int 1, .int 0, .int 0, .int 0, .ref h2, .ref h3, .ref h4, .ref h5, .ref h6, .ref h7, .ref h8, .ref h9, .ref h10, .ref h11, .ref h12, .ref h13, .ref h14, .ref h15, .ref h16, .ref h17, .ref h18, .ref h19, .ref h20, .int 0, .ref h21, .ref h22, .ref h23, .ref h24, .int 0, .int 0, .ref h25, .ref h26, .int (-1), .ref h1, .ref h27])), (h1, .inl (K 0, 3600, .inl (upd (upd (upd (upd (upd (upd (fun _ => 0) 0 6) 1 p0) 2 0) 3 0) 4 0) 5 p0)))])) (wB G (va_A [(h0, .inr (8, [.int 1, .int 0, .int (-1), .int 0, .int 0, .int (-1), .int 0, .int 0, .int 0, .int 0, .int 0, .ref h2, .ref h3, .ref h4, .ref h5, .ref h6, .ref h7, .ref h8, .ref h9, .ref h10, .ref h11, .ref h12, .ref h13, .ref h14, .ref h15, .ref h16, .ref h17, .ref h18, .ref h19, .ref h20, .int 0, .ref h21, .ref h22, .ref h23, .ref h24, .int 0, .int 0, .ref h25, .ref h26, .int (-1), .ref h1, .ref h27])), (h1, .inl (K 0, 3600, .inl (fun _ => 0)))] sz)) (va_A [(h0, .inr (8, [.int 1, .int 0, .int (-1), .int 0, .int 0, .int (-1), .int 0, .int 0, .int 0, .int 0, .int 0, .ref h2, .ref h3, .ref h4, .ref h5, .ref h6, .ref h7, .ref h8, .ref h9, .ref h10, .ref h11, .ref h12, .ref h13, .ref h14, .ref h15, .ref h16, .ref h17, .ref h18, .ref h19, .ref h20, .int 0, .ref h21, .ref h22, .ref h23, .ref h24, .int 0, .int 0, .ref h25, .ref h26, .int (-1), .ref h1, .ref h27])), (h1, .inl (K 0, 3600, .inl (fun _ => 0)))] sz)) 0 0 (va_A [(h0, .inr (8, [.int 1, .int 0, .int (-1), .int 0, .int 0, .int (-1), .int 0, .int 0, .int 0, .int 0, .int 0, .ref h2, .ref h3, .ref h4, .ref h5, .ref h6, .ref h7, .ref h8, .ref h9, .ref h10, .ref h11, .ref h12, .ref h13, .ref h14, .ref h15, .ref h16, .ref h17, .ref h18, .ref h19, .ref h20, .int 0, .ref h21, .ref h22, .ref h23, .ref h24, .int 0, .int 0, .ref h25, .ref h26, .int (-1), .ref h1, .ref h27])), (h1, .inl (K 0, 3600, .inl (fun _ => 0)))] sz) := by
  refine Met.ofW (cc := cX11_act) (maxL := 10) (ret := (some .int)) (by decide) rfl ?_
  intro p e s m args below meth c s₁ B hml hv
  obtain ⟨rfl, hsz, hP, hK, hD0, hE⟩ := hv
  have hx := B.exec
  have hb := B.bytes
  have hr := B.returns
  have hts := atoms_spec (ws := v_X11_act_10) B.pre
  have t_ := t_X11_act_10
  have mw : ∀ w ∈ e_X11_act_10, w ∈ v_X11_act_10 := fun w h => List.mem_cons_of_mem _ (List.mem_append_left _ h)
  have hw := fun w (h : w ∈ e_X11_act_10) => hts w (mw w h)
  have iX11 : ∀ w ∈ wsX110, w ∈ v_X11_act_10 := fun w h => List.mem_cons_of_mem _ (List.mem_append_right _ (List.mem_append_left _ h))
  have j_X11_reason_10 : ∀ w ∈ v_X11_reason_10, w ∈ v_X11_act_10 := fun w h => List.mem_cons_of_mem _ (List.mem_append_right _ (List.mem_append_right _ (List.mem_append_left _ h)))
  have j_X11_does_3 : ∀ w ∈ v_X11_does_3, w ∈ v_X11_act_10 := fun w h => List.mem_cons_of_mem _ (List.mem_append_right _ (List.mem_append_right _ (List.mem_append_right _ (List.mem_append_left _ h))))
  have j_X12_numbers_3 : ∀ w ∈ v_X12_numbers_3, w ∈ v_X11_act_10 := fun w h => List.mem_cons_of_mem _ (List.mem_append_right _ (List.mem_append_right _ (List.mem_append_right _ (List.mem_append_right _ (List.mem_append_left _ h)))))
  have hown : s.vm.findClass RX11 = some m.cls := findClass_of_methodNamed B.named
  have hlocks := B.notSynchronized
  subst hsz
  have hD := hD0.self (sz := s.heap.size)
  generalize hAe : va_A [(h0, .inr (8, [.int 1, .int 0, .int (-1), .int 0, .int 0, .int (-1), .int 0, .int 0, .int 0, .int 0, .int 0, .ref h2, .ref h3, .ref h4, .ref h5, .ref h6, .ref h7, .ref h8, .ref h9, .ref h10, .ref h11, .ref h12, .ref h13, .ref h14, .ref h15, .ref h16, .ref h17, .ref h18, .ref h19, .ref h20, .int 0, .ref h21, .ref h22, .ref h23, .ref h24, .int 0, .int 0, .ref h25, .ref h26, .int (-1), .ref h1, .ref h27])), (h1, .inl (K 0, 3600, .inl (fun _ => 0)))] s.heap.size = A at hD ⊢
  have hA : ∀ q : Nat, s.heap.size ≤ q → A q := fun q h => by rw [← hAe]; exact Or.inr h
  have hS : va_S A s.heap s.heap [] := va_S.rf
  have hP : va_P G vwCl [(h0, .inr (8, [.int 1, .int 0, .int (-1), .int 0, .int 0, .int (-1), .int 0, .int 0, .int 0, .int 0, .int 0, .ref h2, .ref h3, .ref h4, .ref h5, .ref h6, .ref h7, .ref h8, .ref h9, .ref h10, .ref h11, .ref h12, .ref h13, .ref h14, .ref h15, .ref h16, .ref h17, .ref h18, .ref h19, .ref h20, .int 0, .ref h21, .ref h22, .ref h23, .ref h24, .int 0, .int 0, .ref h25, .ref h26, .int (-1), .ref h1, .ref h27])), (h1, .inl (K 0, 3600, .inl (fun _ => 0)))] s.heap := hP
  have hl := lv_entry ([.ref h0, .int 6, .int p0, .int 0, .int 0, .int 0]) (n := 10) (Nat.le_of_ble_eq_true rfl)
  rw [lg_entry_eq]
  generalize (lg_sl ([.ref h0, .int 6, .int p0, .int 0, .int 0, .int 0]) ++ List.replicate (10 - (lg_sl ([.ref h0, .int 6, .int p0, .int 0, .int 0, .int 0])).length) Slot.unset).toArray = ls at hl ⊢
  have hl : lv_has ls 10 [(0, .ref h0), (1, .int 6), (2, .int p0), (3, .int 0), (4, .int 0), (5, .int 0)] := hl
  refine lv_aload_n hx hb dX11_act_0 rfl (lv_at hl 0 rfl) ?_
  refine lv_iload_n hx hb dX11_act_1 rfl (lv_at hl 1 rfl) ?_
  refine lv_iload_n hx hb dX11_act_2 rfl (lv_at hl 2 rfl) ?_
  refine lv_iload_n hx hb dX11_act_3 rfl (lv_at hl 3 rfl) ?_
  refine lv_iload hx hb dX11_act_4 (lv_at hl 4 rfl) ?_
  refine lv_iload hx hb dX11_act_6 (lv_at hl 5 rfl) ?_
  have hPc := hP.sub (ws' := [(h0, .inr (8, [.int 1, .int 0, .int (-1), .int 0, .int 0, .int (-1), .int 0, .int 0, .int 0, .int 0, .int 0, .ref h2, .ref h3, .ref h4, .ref h5, .ref h6, .ref h7, .ref h8, .ref h9, .ref h10, .ref h11, .ref h12, .ref h13, .ref h14, .ref h15, .ref h16, .ref h17, .ref h18, .ref h19, .ref h20, .int 0, .ref h21, .ref h22, .ref h23, .ref h24, .int 0, .int 0, .ref h25, .ref h26, .int (-1), .ref h1, .ref h27]))]) [0] rfl
  have hDc := hD.sub (ws' := [(h0, .inr (8, [.int 1, .int 0, .int (-1), .int 0, .int 0, .int (-1), .int 0, .int 0, .int 0, .int 0, .int 0, .ref h2, .ref h3, .ref h4, .ref h5, .ref h6, .ref h7, .ref h8, .ref h9, .ref h10, .ref h11, .ref h12, .ref h13, .ref h14, .ref h15, .ref h16, .ref h17, .ref h18, .ref h19, .ref h20, .int 0, .ref h21, .ref h22, .ref h23, .ref h24, .int 0, .int 0, .ref h25, .ref h26, .int (-1), .ref h1, .ref h27]))]) [0] (by decide) rfl
  refine wGoi (wc := [(h0, .inr (8, [.int 1, .int 0, .int (-1), .int 0, .int 0, .int (-1), .int 0, .int 0, .int 0, .int 0, .int 0, .ref h2, .ref h3, .ref h4, .ref h5, .ref h6, .ref h7, .ref h8, .ref h9, .ref h10, .ref h11, .ref h12, .ref h13, .ref h14, .ref h15, .ref h16, .ref h17, .ref h18, .ref h19, .ref h20, .int 0, .ref h21, .ref h22, .ref h23, .ref h24, .int 0, .int 0, .ref h25, .ref h26, .int (-1), .ref h1, .ref h27]))]) (wr := [(h1, .inl (K 0, 3600, .inl (fun _ => 0)))]) (va_runV (As := [.int 6, .int p0, .int 0, .int 0, .int 0]) (rest := []) ⟨hx, hb, hml, hown, hts⟩ (m_X11_reason_10 l G K h0 h2 h3 h4 h5 h6 h7 h8 h9 h10 h11 h12 h13 h14 h15 h16 h17 h18 h19 h20 h21 h22 h23 h24 h25 h26 h1 h27 p0 _) (cwV 5 hts (wGV t_ (mw (.methodLink RX11 196 yX11_reason) (List.mem_of_getElem? (i := 0) rfl)) (mw (.instanceMethod yX11_reason) (List.mem_of_getElem? (i := 1) rfl)) (mw (.selects RX11 yX11_reason yX11_reason) (List.mem_of_getElem? (i := 2) rfl)) (mw (.initialized RX11) (List.mem_of_getElem? (i := 3) rfl)) j_X11_reason_10) rfl rfl rfl (by decide +kernel) ⟨Nat.le_of_ble_eq_true rfl, Nat.le_of_ble_eq_true rfl⟩) (wPV hK hE hPc hDc 8 0 rfl rfl) rfl rfl hl.1 rfl (lv_room (Nat.le_of_ble_eq_true rfl)) dX11_act_8 ⟨Nat.le_of_ble_eq_true rfl, Nat.le_of_ble_eq_true rfl⟩) hP hD hS hA [0] [1] rfl rfl rfl (by decide) (fun r u H locs hw hP hD hS => ?_)
  rcases hw with ⟨c_w, rfl, rfl⟩ | ⟨c_w, rfl, rfl⟩
  · have c1 := c_w
    have hP : va_P G vwCl [(h1, .inl (K 0, 3600, .inl (fun _ => 0))), (h0, .inr (8, [.int 1, .int 0, .int (-1), .int 0, .int 0, .int (-1), .int 0, .int 0, .int 0, .int 0, .int 0, .ref h2, .ref h3, .ref h4, .ref h5, .ref h6, .ref h7, .ref h8, .ref h9, .ref h10, .ref h11, .ref h12, .ref h13, .ref h14, .ref h15, .ref h16, .ref h17, .ref h18, .ref h19, .ref h20, .int 0, .ref h21, .ref h22, .ref h23, .ref h24, .int 0, .int 0, .ref h25, .ref h26, .int (-1), .ref h1, .ref h27]))] _ := hP
    have hD : va_D A [(h1, .inl (K 0, 3600, .inl (fun _ => 0))), (h0, .inr (8, [.int 1, .int 0, .int (-1), .int 0, .int 0, .int (-1), .int 0, .int 0, .int 0, .int 0, .int 0, .ref h2, .ref h3, .ref h4, .ref h5, .ref h6, .ref h7, .ref h8, .ref h9, .ref h10, .ref h11, .ref h12, .ref h13, .ref h14, .ref h15, .ref h16, .ref h17, .ref h18, .ref h19, .ref h20, .int 0, .ref h21, .ref h22, .ref h23, .ref h24, .int 0, .int 0, .ref h25, .ref h26, .int (-1), .ref h1, .ref h27]))] := hD
    refine lv_istore (lv' := [(6, .int 9), (0, .ref h0), (1, .int 6), (2, .int p0), (3, .int 0), (4, .int 0), (5, .int 0)]) hx hb dX11_act_11 hl (by decide) rfl (fun ls hl => ?_)
    refine lv_iload hx hb dX11_act_13 (lv_at hl 0 rfl) ?_
    refine lv_if_ne (tgt := 32) hx hb dX11_act_15 (by decide) (fun _ => ?_) (fun c_ => absurd c_ (by decide))
    refine lv_aload_n hx hb dX11_act_32 rfl (lv_at hl 1 rfl) ?_
    refine lv_iload hx hb dX11_act_33 (lv_at hl 0 rfl) ?_
    refine va_put (D := G) (ci := 8) (v := .int 9) (ty := .int) (C := RX11) (T := TX11) (N := 42) hx hb hts iX11 tyX11 tyX11_ok nmX11 hown hK hP hD hS 1 rfl rfl 10 (by decide) (hw (.fieldLink RX11 127 "MotionFloorModel$Hall" "why" "I") (List.mem_of_getElem? (i := 4) rfl)) (fun _ h9 => h9) rfl (by decide +kernel) rfl rfl (Nat.le_of_ble_eq_true rfl) dX11_act_35 (fun H locs hP hD hS => ?_)
    have hP : va_P G vwCl [(h1, .inl (K 0, 3600, .inl (fun _ => 0))), (h0, .inr (8, [.int 1, .int 0, .int (-1), .int 0, .int 0, .int (-1), .int 0, .int 0, .int 0, .int 0, .int 9, .ref h2, .ref h3, .ref h4, .ref h5, .ref h6, .ref h7, .ref h8, .ref h9, .ref h10, .ref h11, .ref h12, .ref h13, .ref h14, .ref h15, .ref h16, .ref h17, .ref h18, .ref h19, .ref h20, .int 0, .ref h21, .ref h22, .ref h23, .ref h24, .int 0, .int 0, .ref h25, .ref h26, .int (-1), .ref h1, .ref h27]))] _ := hP
    have hD : va_D A [(h1, .inl (K 0, 3600, .inl (fun _ => 0))), (h0, .inr (8, [.int 1, .int 0, .int (-1), .int 0, .int 0, .int (-1), .int 0, .int 0, .int 0, .int 0, .int 9, .ref h2, .ref h3, .ref h4, .ref h5, .ref h6, .ref h7, .ref h8, .ref h9, .ref h10, .ref h11, .ref h12, .ref h13, .ref h14, .ref h15, .ref h16, .ref h17, .ref h18, .ref h19, .ref h20, .int 0, .ref h21, .ref h22, .ref h23, .ref h24, .int 0, .int 0, .ref h25, .ref h26, .int (-1), .ref h1, .ref h27]))] := hD
    refine lv_iload hx hb dX11_act_38 (lv_at hl 0 rfl) ?_
    refine lv_if_le (tgt := 47) hx hb dX11_act_40 (by decide) (fun c_ => absurd c_ (by decide)) (fun _ => ?_)
    refine lv_iload hx hb dX11_act_43 (lv_at hl 0 rfl) ?_
    refine lv_ineg hx hb dX11_act_45 ?_
    refine wTop (v1 := .int (-9)) (congrArg Value.int (by decide)) ?_
    have hP9 := hP.sub (ws' := [(h0, .inr (8, [.int 1, .int 0, .int (-1), .int 0, .int 0, .int (-1), .int 0, .int 0, .int 0, .int 0, .int 9, .ref h2, .ref h3, .ref h4, .ref h5, .ref h6, .ref h7, .ref h8, .ref h9, .ref h10, .ref h11, .ref h12, .ref h13, .ref h14, .ref h15, .ref h16, .ref h17, .ref h18, .ref h19, .ref h20, .int 0, .ref h21, .ref h22, .ref h23, .ref h24, .int 0, .int 0, .ref h25, .ref h26, .int (-1), .ref h1, .ref h27])), (h1, .inl (K 0, 3600, .inl (fun _ => 0)))]) [1, 0] rfl
    have hD9 := hD.sub (ws' := [(h0, .inr (8, [.int 1, .int 0, .int (-1), .int 0, .int 0, .int (-1), .int 0, .int 0, .int 0, .int 0, .int 9, .ref h2, .ref h3, .ref h4, .ref h5, .ref h6, .ref h7, .ref h8, .ref h9, .ref h10, .ref h11, .ref h12, .ref h13, .ref h14, .ref h15, .ref h16, .ref h17, .ref h18, .ref h19, .ref h20, .int 0, .ref h21, .ref h22, .ref h23, .ref h24, .int 0, .int 0, .ref h25, .ref h26, .int (-1), .ref h1, .ref h27])), (h1, .inl (K 0, 3600, .inl (fun _ => 0)))]) [1, 0] (by decide) rfl
    exact W.iret (v := (-9)) hx hb hr (fun t ht hW => ⟨⟨(-9), _, rfl, Or.inl ⟨(by first | omega | decide | simp), rfl, rfl⟩, by rw [ht]; exact hP9, hD9⟩, hS.F ht⟩) hS.2.2 dX11_act_46
  · have c2 := c_w
    have hP : va_P G vwCl [(h1, .inl (K 0, 3600, .inl (fun _ => 0))), (h0, .inr (8, [.int 1, .int 0, .int (-1), .int 0, .int 0, .int (-1), .int 0, .int 0, .int 0, .int 0, .int 0, .ref h2, .ref h3, .ref h4, .ref h5, .ref h6, .ref h7, .ref h8, .ref h9, .ref h10, .ref h11, .ref h12, .ref h13, .ref h14, .ref h15, .ref h16, .ref h17, .ref h18, .ref h19, .ref h20, .int 0, .ref h21, .ref h22, .ref h23, .ref h24, .int 0, .int 0, .ref h25, .ref h26, .int (-1), .ref h1, .ref h27]))] _ := hP
    have hD : va_D A [(h1, .inl (K 0, 3600, .inl (fun _ => 0))), (h0, .inr (8, [.int 1, .int 0, .int (-1), .int 0, .int 0, .int (-1), .int 0, .int 0, .int 0, .int 0, .int 0, .ref h2, .ref h3, .ref h4, .ref h5, .ref h6, .ref h7, .ref h8, .ref h9, .ref h10, .ref h11, .ref h12, .ref h13, .ref h14, .ref h15, .ref h16, .ref h17, .ref h18, .ref h19, .ref h20, .int 0, .ref h21, .ref h22, .ref h23, .ref h24, .int 0, .int 0, .ref h25, .ref h26, .int (-1), .ref h1, .ref h27]))] := hD
    refine lv_istore (lv' := [(6, .int 0), (0, .ref h0), (1, .int 6), (2, .int p0), (3, .int 0), (4, .int 0), (5, .int 0)]) hx hb dX11_act_11 hl (by decide) rfl (fun ls hl => ?_)
    refine lv_iload hx hb dX11_act_13 (lv_at hl 0 rfl) ?_
    refine lv_if_ne (tgt := 32) hx hb dX11_act_15 (by decide) (fun c_ => absurd c_ (by decide)) (fun _ => ?_)
    refine lv_aload_n hx hb dX11_act_18 rfl (lv_at hl 1 rfl) ?_
    refine va_get (D := G) (ci := 8) (v := .int 0) (C := RX11) (T := TX11) (N := 42) hx hb hts iX11 hown hK hP 1 rfl rfl 7 (by decide) (hw (.fieldLink RX11 118 "MotionFloorModel$Hall" "entries" "I") (List.mem_of_getElem? (i := 5) rfl)) (fun _ h9 => h9) rfl dX11_act_19 ?_
    refine lv_sipush (v := 600) hx hb dX11_act_22 (by decide) ?_
    refine lv_icmp_ne (tgt := 32) hx hb dX11_act_25 (by decide) (fun _ => ?_) (fun c_ => absurd c_ (by decide))
    refine lv_aload_n hx hb dX11_act_32 rfl (lv_at hl 1 rfl) ?_
    refine lv_iload hx hb dX11_act_33 (lv_at hl 0 rfl) ?_
    refine va_put (D := G) (ci := 8) (v := .int 0) (ty := .int) (C := RX11) (T := TX11) (N := 42) hx hb hts iX11 tyX11 tyX11_ok nmX11 hown hK hP hD hS 1 rfl rfl 10 (by decide) (hw (.fieldLink RX11 127 "MotionFloorModel$Hall" "why" "I") (List.mem_of_getElem? (i := 4) rfl)) (fun _ h9 => h9) rfl (by decide +kernel) rfl rfl (Nat.le_of_ble_eq_true rfl) dX11_act_35 (fun H locs hP hD hS => ?_)
    have hP : va_P G vwCl [(h1, .inl (K 0, 3600, .inl (fun _ => 0))), (h0, .inr (8, [.int 1, .int 0, .int (-1), .int 0, .int 0, .int (-1), .int 0, .int 0, .int 0, .int 0, .int 0, .ref h2, .ref h3, .ref h4, .ref h5, .ref h6, .ref h7, .ref h8, .ref h9, .ref h10, .ref h11, .ref h12, .ref h13, .ref h14, .ref h15, .ref h16, .ref h17, .ref h18, .ref h19, .ref h20, .int 0, .ref h21, .ref h22, .ref h23, .ref h24, .int 0, .int 0, .ref h25, .ref h26, .int (-1), .ref h1, .ref h27]))] _ := hP
    have hD : va_D A [(h1, .inl (K 0, 3600, .inl (fun _ => 0))), (h0, .inr (8, [.int 1, .int 0, .int (-1), .int 0, .int 0, .int (-1), .int 0, .int 0, .int 0, .int 0, .int 0, .ref h2, .ref h3, .ref h4, .ref h5, .ref h6, .ref h7, .ref h8, .ref h9, .ref h10, .ref h11, .ref h12, .ref h13, .ref h14, .ref h15, .ref h16, .ref h17, .ref h18, .ref h19, .ref h20, .int 0, .ref h21, .ref h22, .ref h23, .ref h24, .int 0, .int 0, .ref h25, .ref h26, .int (-1), .ref h1, .ref h27]))] := hD
    refine lv_iload hx hb dX11_act_38 (lv_at hl 0 rfl) ?_
    refine lv_if_le (tgt := 47) hx hb dX11_act_40 (by decide) (fun _ => ?_) (fun c_ => absurd c_ (by decide))
    refine lv_aload_n hx hb dX11_act_47 rfl (lv_at hl 1 rfl) ?_
    refine lv_iload_n hx hb dX11_act_48 rfl (lv_at hl 2 rfl) ?_
    refine lv_iload_n hx hb dX11_act_49 rfl (lv_at hl 3 rfl) ?_
    refine lv_iload_n hx hb dX11_act_50 rfl (lv_at hl 4 rfl) ?_
    refine lv_iload hx hb dX11_act_51 (lv_at hl 5 rfl) ?_
    refine lv_iload hx hb dX11_act_53 (lv_at hl 6 rfl) ?_
    have hPc := hP.sub (ws' := [(h0, .inr (8, [.int 1, .int 0, .int (-1), .int 0, .int 0, .int (-1), .int 0, .int 0, .int 0, .int 0, .int 0, .ref h2, .ref h3, .ref h4, .ref h5, .ref h6, .ref h7, .ref h8, .ref h9, .ref h10, .ref h11, .ref h12, .ref h13, .ref h14, .ref h15, .ref h16, .ref h17, .ref h18, .ref h19, .ref h20, .int 0, .ref h21, .ref h22, .ref h23, .ref h24, .int 0, .int 0, .ref h25, .ref h26, .int (-1), .ref h1, .ref h27]))]) [1] rfl
    have hDc := hD.sub (ws' := [(h0, .inr (8, [.int 1, .int 0, .int (-1), .int 0, .int 0, .int (-1), .int 0, .int 0, .int 0, .int 0, .int 0, .ref h2, .ref h3, .ref h4, .ref h5, .ref h6, .ref h7, .ref h8, .ref h9, .ref h10, .ref h11, .ref h12, .ref h13, .ref h14, .ref h15, .ref h16, .ref h17, .ref h18, .ref h19, .ref h20, .int 0, .ref h21, .ref h22, .ref h23, .ref h24, .int 0, .int 0, .ref h25, .ref h26, .int (-1), .ref h1, .ref h27]))]) [1] (by decide) rfl
    refine wGoi (wc := [(h0, .inr (8, [.int 1, .int 0, .int (-1), .int 0, .int 0, .int (-1), .int 0, .int 0, .int 0, .int 0, .int 0, .ref h2, .ref h3, .ref h4, .ref h5, .ref h6, .ref h7, .ref h8, .ref h9, .ref h10, .ref h11, .ref h12, .ref h13, .ref h14, .ref h15, .ref h16, .ref h17, .ref h18, .ref h19, .ref h20, .int 0, .ref h21, .ref h22, .ref h23, .ref h24, .int 0, .int 0, .ref h25, .ref h26, .int (-1), .ref h1, .ref h27]))]) (wr := [(h1, .inl (K 0, 3600, .inl (fun _ => 0)))]) (va_runV (As := [.int 6, .int p0, .int 0, .int 0, .int 0]) (rest := []) ⟨hx, hb, hml, hown, hts⟩ (m_X11_does_3 l G K h0 h2 h3 h4 h5 h6 h7 h8 h9 h10 h11 h12 h13 h14 h15 h16 h17 h18 h19 h20 h21 h22 h23 h24 h25 h26 h1 h27 p0 _ (by omega)) (cwV 5 hts (wGV t_ (mw (.methodLink RX11 200 yX11_does) (List.mem_of_getElem? (i := 6) rfl)) (mw (.instanceMethod yX11_does) (List.mem_of_getElem? (i := 7) rfl)) (mw (.selects RX11 yX11_does yX11_does) (List.mem_of_getElem? (i := 8) rfl)) (mw (.initialized RX11) (List.mem_of_getElem? (i := 3) rfl)) j_X11_does_3) rfl rfl rfl (by decide +kernel) ⟨Nat.le_of_ble_eq_true rfl, Nat.le_of_ble_eq_true rfl⟩) (wPV hK hE hPc hDc 8 0 rfl rfl) rfl rfl hl.1 rfl (lv_room (Nat.le_of_ble_eq_true rfl)) dX11_act_55 ⟨Nat.le_of_ble_eq_true rfl, Nat.le_of_ble_eq_true rfl⟩) hP hD hS hA [1] [0] rfl rfl rfl (by decide) (fun r u H locs hw hP hD hS => ?_)
    rcases hw with ⟨rfl, rfl⟩
    have hP : va_P G vwCl [(h1, .inl (K 0, 3600, .inl (fun _ => 0))), (h0, .inr (8, [.int 1, .int 0, .int (-1), .int 0, .int p0, .int (-1), .int 0, .int 0, .int 0, .int 0, .int 0, .ref h2, .ref h3, .ref h4, .ref h5, .ref h6, .ref h7, .ref h8, .ref h9, .ref h10, .ref h11, .ref h12, .ref h13, .ref h14, .ref h15, .ref h16, .ref h17, .ref h18, .ref h19, .ref h20, .int 0, .ref h21, .ref h22, .ref h23, .ref h24, .int 0, .int 0, .ref h25, .ref h26, .int (-1), .ref h1, .ref h27]))] _ := hP
    have hD : va_D A [(h1, .inl (K 0, 3600, .inl (fun _ => 0))), (h0, .inr (8, [.int 1, .int 0, .int (-1), .int 0, .int p0, .int (-1), .int 0, .int 0, .int 0, .int 0, .int 0, .ref h2, .ref h3, .ref h4, .ref h5, .ref h6, .ref h7, .ref h8, .ref h9, .ref h10, .ref h11, .ref h12, .ref h13, .ref h14, .ref h15, .ref h16, .ref h17, .ref h18, .ref h19, .ref h20, .int 0, .ref h21, .ref h22, .ref h23, .ref h24, .int 0, .int 0, .ref h25, .ref h26, .int (-1), .ref h1, .ref h27]))] := hD
    refine lv_istore (lv' := [(7, .int p0), (6, .int 0), (0, .ref h0), (1, .int 6), (2, .int p0), (3, .int 0), (4, .int 0), (5, .int 0)]) hx hb dX11_act_58 hl (by decide) rfl (fun ls hl => ?_)
    refine lv_bipush (v := 6) hx hb dX11_act_60 (by decide) ?_
    refine lv_aload_n hx hb dX11_act_62 rfl (lv_at hl 2 rfl) ?_
    refine va_get (D := G) (ci := 8) (v := .int 0) (C := RX11) (T := TX11) (N := 42) hx hb hts iX11 hown hK hP 1 rfl rfl 7 (by decide) (hw (.fieldLink RX11 118 "MotionFloorModel$Hall" "entries" "I") (List.mem_of_getElem? (i := 5) rfl)) (fun _ h9 => h9) rfl dX11_act_63 ?_
    refine lv_imul hx hb dX11_act_66 ?_
    refine wTop (v1 := .int 0) (congrArg Value.int (by decide)) ?_
    refine lv_istore (lv' := [(8, .int 0), (7, .int p0), (6, .int 0), (0, .ref h0), (1, .int 6), (2, .int p0), (3, .int 0), (4, .int 0), (5, .int 0)]) hx hb dX11_act_67 hl (by decide) rfl (fun ls hl => ?_)
    refine lv_iload_n hx hb dX11_act_69 rfl (lv_at hl 4 rfl) ?_
    have hPc := hP.sub (ws' := []) [] rfl
    have hDc := hD.sub (ws' := []) [] (by decide) rfl
    refine wGoi (wc := []) (wr := [(h1, .inl (K 0, 3600, .inl (fun _ => 0))), (h0, .inr (8, [.int 1, .int 0, .int (-1), .int 0, .int p0, .int (-1), .int 0, .int 0, .int 0, .int 0, .int 0, .ref h2, .ref h3, .ref h4, .ref h5, .ref h6, .ref h7, .ref h8, .ref h9, .ref h10, .ref h11, .ref h12, .ref h13, .ref h14, .ref h15, .ref h16, .ref h17, .ref h18, .ref h19, .ref h20, .int 0, .ref h21, .ref h22, .ref h23, .ref h24, .int 0, .int 0, .ref h25, .ref h26, .int (-1), .ref h1, .ref h27]))]) (va_runSN (As := [.int 6]) (rest := []) ⟨hx, hb, hml, hown, hts⟩ (m_X12_numbers_3 l G K _) ⟨va_cnB (host := "MotionFloorModel") 1 hts (wGP t_ j_X12_numbers_3) rfl rfl rfl hE.2.2.2.2.2.2.2.2.2.2 (hw (.initialized RX12) (List.mem_of_getElem? (i := 9) rfl)) (by decide +kernel) ⟨Nat.le_of_ble_eq_true rfl, Nat.le_of_ble_eq_true rfl⟩, (hw (.static yX12_numbers) (List.mem_of_getElem? (i := 10) rfl)), trivial⟩ (wPS hK hE hPc hDc) rfl rfl hl.1 rfl (lv_room (Nat.le_of_ble_eq_true rfl)) dX11_act_70 ⟨Nat.le_of_ble_eq_true rfl, Nat.le_of_ble_eq_true rfl⟩) hP hD hS hA [] [0, 1] rfl rfl rfl (by decide) (fun r u H locs hw hP hD hS => ?_)
    rcases hw with ⟨rfl, rfl⟩
    have hP : va_P G vwCl [(h1, .inl (K 0, 3600, .inl (fun _ => 0))), (h0, .inr (8, [.int 1, .int 0, .int (-1), .int 0, .int p0, .int (-1), .int 0, .int 0, .int 0, .int 0, .int 0, .ref h2, .ref h3, .ref h4, .ref h5, .ref h6, .ref h7, .ref h8, .ref h9, .ref h10, .ref h11, .ref h12, .ref h13, .ref h14, .ref h15, .ref h16, .ref h17, .ref h18, .ref h19, .ref h20, .int 0, .ref h21, .ref h22, .ref h23, .ref h24, .int 0, .int 0, .ref h25, .ref h26, .int (-1), .ref h1, .ref h27]))] _ := hP
    have hD : va_D A [(h1, .inl (K 0, 3600, .inl (fun _ => 0))), (h0, .inr (8, [.int 1, .int 0, .int (-1), .int 0, .int p0, .int (-1), .int 0, .int 0, .int 0, .int 0, .int 0, .ref h2, .ref h3, .ref h4, .ref h5, .ref h6, .ref h7, .ref h8, .ref h9, .ref h10, .ref h11, .ref h12, .ref h13, .ref h14, .ref h15, .ref h16, .ref h17, .ref h18, .ref h19, .ref h20, .int 0, .ref h21, .ref h22, .ref h23, .ref h24, .int 0, .int 0, .ref h25, .ref h26, .int (-1), .ref h1, .ref h27]))] := hD
    refine lv_istore (lv' := [(9, .int 1), (8, .int 0), (7, .int p0), (6, .int 0), (0, .ref h0), (1, .int 6), (2, .int p0), (3, .int 0), (4, .int 0), (5, .int 0)]) hx hb dX11_act_73 hl (by decide) rfl (fun ls hl => ?_)
    refine lv_aload_n hx hb dX11_act_75 rfl (lv_at hl 4 rfl) ?_
    refine va_get (D := G) (ci := 8) (v := .ref h1) (C := RX11) (T := TX11) (N := 42) hx hb hts iX11 hown hK hP 1 rfl rfl 40 (by decide) (hw (.fieldLink RX11 90 "MotionFloorModel$Hall" "minutes" "[I") (List.mem_of_getElem? (i := 11) rfl)) (fun _ h9 => h9) rfl dX11_act_76 ?_
    refine lv_iload hx hb dX11_act_79 (lv_at hl 1 rfl) ?_
    refine lv_iload_n hx hb dX11_act_81 rfl (lv_at hl 5 rfl) ?_
    refine va_iast hx hb hK hP hD hS 0 0 rfl rfl (vp_in_iff.mpr (by decide)) dX11_act_82 (fun H locs hP hD hS => ?_)
    have hP : va_P G vwCl [(h1, .inl (K 0, 3600, .inl (upd (fun _ => 0) 0 6))), (h0, .inr (8, [.int 1, .int 0, .int (-1), .int 0, .int p0, .int (-1), .int 0, .int 0, .int 0, .int 0, .int 0, .ref h2, .ref h3, .ref h4, .ref h5, .ref h6, .ref h7, .ref h8, .ref h9, .ref h10, .ref h11, .ref h12, .ref h13, .ref h14, .ref h15, .ref h16, .ref h17, .ref h18, .ref h19, .ref h20, .int 0, .ref h21, .ref h22, .ref h23, .ref h24, .int 0, .int 0, .ref h25, .ref h26, .int (-1), .ref h1, .ref h27]))] _ := hP
    have hD : va_D A [(h1, .inl (K 0, 3600, .inl (upd (fun _ => 0) 0 6))), (h0, .inr (8, [.int 1, .int 0, .int (-1), .int 0, .int p0, .int (-1), .int 0, .int 0, .int 0, .int 0, .int 0, .ref h2, .ref h3, .ref h4, .ref h5, .ref h6, .ref h7, .ref h8, .ref h9, .ref h10, .ref h11, .ref h12, .ref h13, .ref h14, .ref h15, .ref h16, .ref h17, .ref h18, .ref h19, .ref h20, .int 0, .ref h21, .ref h22, .ref h23, .ref h24, .int 0, .int 0, .ref h25, .ref h26, .int (-1), .ref h1, .ref h27]))] := hD
    refine lv_aload_n hx hb dX11_act_83 rfl (lv_at hl 4 rfl) ?_
    refine va_get (D := G) (ci := 8) (v := .ref h1) (C := RX11) (T := TX11) (N := 42) hx hb hts iX11 hown hK hP 1 rfl rfl 40 (by decide) (hw (.fieldLink RX11 90 "MotionFloorModel$Hall" "minutes" "[I") (List.mem_of_getElem? (i := 11) rfl)) (fun _ h9 => h9) rfl dX11_act_84 ?_
    refine lv_iload hx hb dX11_act_87 (lv_at hl 1 rfl) ?_
    refine lv_iconst (v := 1) hx hb dX11_act_89 (by decide) ?_
    refine lv_iadd hx hb dX11_act_90 ?_
    refine wTop (v1 := .int 1) (congrArg Value.int (by decide)) ?_
    refine lv_iload hx hb dX11_act_91 (lv_at hl 0 rfl) ?_
    refine lv_if_le (tgt := 100) hx hb dX11_act_93 (by decide) (fun c_ => absurd c_ (by decide)) (fun _ => ?_)
    refine lv_iload_n hx hb dX11_act_96 rfl (lv_at hl 6 rfl) ?_
    refine lv_goto (tgt := 101) hx hb dX11_act_97 (by decide) ?_
    refine va_iast hx hb hK hP hD hS 0 0 rfl rfl (vp_in_iff.mpr (by decide)) dX11_act_101 (fun H locs hP hD hS => ?_)
    have hP : va_P G vwCl [(h1, .inl (K 0, 3600, .inl (upd (upd (fun _ => 0) 0 6) 1 p0))), (h0, .inr (8, [.int 1, .int 0, .int (-1), .int 0, .int p0, .int (-1), .int 0, .int 0, .int 0, .int 0, .int 0, .ref h2, .ref h3, .ref h4, .ref h5, .ref h6, .ref h7, .ref h8, .ref h9, .ref h10, .ref h11, .ref h12, .ref h13, .ref h14, .ref h15, .ref h16, .ref h17, .ref h18, .ref h19, .ref h20, .int 0, .ref h21, .ref h22, .ref h23, .ref h24, .int 0, .int 0, .ref h25, .ref h26, .int (-1), .ref h1, .ref h27]))] _ := hP
    have hD : va_D A [(h1, .inl (K 0, 3600, .inl (upd (upd (fun _ => 0) 0 6) 1 p0))), (h0, .inr (8, [.int 1, .int 0, .int (-1), .int 0, .int p0, .int (-1), .int 0, .int 0, .int 0, .int 0, .int 0, .ref h2, .ref h3, .ref h4, .ref h5, .ref h6, .ref h7, .ref h8, .ref h9, .ref h10, .ref h11, .ref h12, .ref h13, .ref h14, .ref h15, .ref h16, .ref h17, .ref h18, .ref h19, .ref h20, .int 0, .ref h21, .ref h22, .ref h23, .ref h24, .int 0, .int 0, .ref h25, .ref h26, .int (-1), .ref h1, .ref h27]))] := hD
    refine lv_aload_n hx hb dX11_act_102 rfl (lv_at hl 4 rfl) ?_
    refine va_get (D := G) (ci := 8) (v := .ref h1) (C := RX11) (T := TX11) (N := 42) hx hb hts iX11 hown hK hP 1 rfl rfl 40 (by decide) (hw (.fieldLink RX11 90 "MotionFloorModel$Hall" "minutes" "[I") (List.mem_of_getElem? (i := 11) rfl)) (fun _ h9 => h9) rfl dX11_act_103 ?_
    refine lv_iload hx hb dX11_act_106 (lv_at hl 1 rfl) ?_
    refine lv_iconst (v := 2) hx hb dX11_act_108 (by decide) ?_
    refine lv_iadd hx hb dX11_act_109 ?_
    refine wTop (v1 := .int 2) (congrArg Value.int (by decide)) ?_
    refine lv_iload hx hb dX11_act_110 (lv_at hl 0 rfl) ?_
    refine lv_iconst (v := 1) hx hb dX11_act_112 (by decide) ?_
    refine lv_icmp_le (tgt := 120) hx hb dX11_act_113 (by decide) (fun _ => ?_) (fun c_ => absurd c_ (by decide))
    refine lv_iconst (v := 0) hx hb dX11_act_120 (by decide) ?_
    refine va_iast hx hb hK hP hD hS 0 0 rfl rfl (vp_in_iff.mpr (by decide)) dX11_act_121 (fun H locs hP hD hS => ?_)
    have hP : va_P G vwCl [(h1, .inl (K 0, 3600, .inl (upd (upd (upd (fun _ => 0) 0 6) 1 p0) 2 0))), (h0, .inr (8, [.int 1, .int 0, .int (-1), .int 0, .int p0, .int (-1), .int 0, .int 0, .int 0, .int 0, .int 0, .ref h2, .ref h3, .ref h4, .ref h5, .ref h6, .ref h7, .ref h8, .ref h9, .ref h10, .ref h11, .ref h12, .ref h13, .ref h14, .ref h15, .ref h16, .ref h17, .ref h18, .ref h19, .ref h20, .int 0, .ref h21, .ref h22, .ref h23, .ref h24, .int 0, .int 0, .ref h25, .ref h26, .int (-1), .ref h1, .ref h27]))] _ := hP
    have hD : va_D A [(h1, .inl (K 0, 3600, .inl (upd (upd (upd (fun _ => 0) 0 6) 1 p0) 2 0))), (h0, .inr (8, [.int 1, .int 0, .int (-1), .int 0, .int p0, .int (-1), .int 0, .int 0, .int 0, .int 0, .int 0, .ref h2, .ref h3, .ref h4, .ref h5, .ref h6, .ref h7, .ref h8, .ref h9, .ref h10, .ref h11, .ref h12, .ref h13, .ref h14, .ref h15, .ref h16, .ref h17, .ref h18, .ref h19, .ref h20, .int 0, .ref h21, .ref h22, .ref h23, .ref h24, .int 0, .int 0, .ref h25, .ref h26, .int (-1), .ref h1, .ref h27]))] := hD
    refine lv_aload_n hx hb dX11_act_122 rfl (lv_at hl 4 rfl) ?_
    refine va_get (D := G) (ci := 8) (v := .ref h1) (C := RX11) (T := TX11) (N := 42) hx hb hts iX11 hown hK hP 1 rfl rfl 40 (by decide) (hw (.fieldLink RX11 90 "MotionFloorModel$Hall" "minutes" "[I") (List.mem_of_getElem? (i := 11) rfl)) (fun _ h9 => h9) rfl dX11_act_123 ?_
    refine lv_iload hx hb dX11_act_126 (lv_at hl 1 rfl) ?_
    refine lv_iconst (v := 3) hx hb dX11_act_128 (by decide) ?_
    refine lv_iadd hx hb dX11_act_129 ?_
    refine wTop (v1 := .int 3) (congrArg Value.int (by decide)) ?_
    refine lv_iload hx hb dX11_act_130 (lv_at hl 0 rfl) ?_
    refine lv_iconst (v := 2) hx hb dX11_act_132 (by decide) ?_
    refine lv_icmp_le (tgt := 141) hx hb dX11_act_133 (by decide) (fun _ => ?_) (fun c_ => absurd c_ (by decide))
    refine lv_iconst (v := 0) hx hb dX11_act_141 (by decide) ?_
    refine va_iast hx hb hK hP hD hS 0 0 rfl rfl (vp_in_iff.mpr (by decide)) dX11_act_142 (fun H locs hP hD hS => ?_)
    have hP : va_P G vwCl [(h1, .inl (K 0, 3600, .inl (upd (upd (upd (upd (fun _ => 0) 0 6) 1 p0) 2 0) 3 0))), (h0, .inr (8, [.int 1, .int 0, .int (-1), .int 0, .int p0, .int (-1), .int 0, .int 0, .int 0, .int 0, .int 0, .ref h2, .ref h3, .ref h4, .ref h5, .ref h6, .ref h7, .ref h8, .ref h9, .ref h10, .ref h11, .ref h12, .ref h13, .ref h14, .ref h15, .ref h16, .ref h17, .ref h18, .ref h19, .ref h20, .int 0, .ref h21, .ref h22, .ref h23, .ref h24, .int 0, .int 0, .ref h25, .ref h26, .int (-1), .ref h1, .ref h27]))] _ := hP
    have hD : va_D A [(h1, .inl (K 0, 3600, .inl (upd (upd (upd (upd (fun _ => 0) 0 6) 1 p0) 2 0) 3 0))), (h0, .inr (8, [.int 1, .int 0, .int (-1), .int 0, .int p0, .int (-1), .int 0, .int 0, .int 0, .int 0, .int 0, .ref h2, .ref h3, .ref h4, .ref h5, .ref h6, .ref h7, .ref h8, .ref h9, .ref h10, .ref h11, .ref h12, .ref h13, .ref h14, .ref h15, .ref h16, .ref h17, .ref h18, .ref h19, .ref h20, .int 0, .ref h21, .ref h22, .ref h23, .ref h24, .int 0, .int 0, .ref h25, .ref h26, .int (-1), .ref h1, .ref h27]))] := hD
    refine lv_aload_n hx hb dX11_act_143 rfl (lv_at hl 4 rfl) ?_
    refine va_get (D := G) (ci := 8) (v := .ref h1) (C := RX11) (T := TX11) (N := 42) hx hb hts iX11 hown hK hP 1 rfl rfl 40 (by decide) (hw (.fieldLink RX11 90 "MotionFloorModel$Hall" "minutes" "[I") (List.mem_of_getElem? (i := 11) rfl)) (fun _ h9 => h9) rfl dX11_act_144 ?_
    refine lv_iload hx hb dX11_act_147 (lv_at hl 1 rfl) ?_
    refine lv_iconst (v := 4) hx hb dX11_act_149 (by decide) ?_
    refine lv_iadd hx hb dX11_act_150 ?_
    refine wTop (v1 := .int 4) (congrArg Value.int (by decide)) ?_
    refine lv_iload hx hb dX11_act_151 (lv_at hl 0 rfl) ?_
    refine lv_iconst (v := 3) hx hb dX11_act_153 (by decide) ?_
    refine lv_icmp_le (tgt := 162) hx hb dX11_act_154 (by decide) (fun _ => ?_) (fun c_ => absurd c_ (by decide))
    refine lv_iconst (v := 0) hx hb dX11_act_162 (by decide) ?_
    refine va_iast hx hb hK hP hD hS 0 0 rfl rfl (vp_in_iff.mpr (by decide)) dX11_act_163 (fun H locs hP hD hS => ?_)
    have hP : va_P G vwCl [(h1, .inl (K 0, 3600, .inl (upd (upd (upd (upd (upd (fun _ => 0) 0 6) 1 p0) 2 0) 3 0) 4 0))), (h0, .inr (8, [.int 1, .int 0, .int (-1), .int 0, .int p0, .int (-1), .int 0, .int 0, .int 0, .int 0, .int 0, .ref h2, .ref h3, .ref h4, .ref h5, .ref h6, .ref h7, .ref h8, .ref h9, .ref h10, .ref h11, .ref h12, .ref h13, .ref h14, .ref h15, .ref h16, .ref h17, .ref h18, .ref h19, .ref h20, .int 0, .ref h21, .ref h22, .ref h23, .ref h24, .int 0, .int 0, .ref h25, .ref h26, .int (-1), .ref h1, .ref h27]))] _ := hP
    have hD : va_D A [(h1, .inl (K 0, 3600, .inl (upd (upd (upd (upd (upd (fun _ => 0) 0 6) 1 p0) 2 0) 3 0) 4 0))), (h0, .inr (8, [.int 1, .int 0, .int (-1), .int 0, .int p0, .int (-1), .int 0, .int 0, .int 0, .int 0, .int 0, .ref h2, .ref h3, .ref h4, .ref h5, .ref h6, .ref h7, .ref h8, .ref h9, .ref h10, .ref h11, .ref h12, .ref h13, .ref h14, .ref h15, .ref h16, .ref h17, .ref h18, .ref h19, .ref h20, .int 0, .ref h21, .ref h22, .ref h23, .ref h24, .int 0, .int 0, .ref h25, .ref h26, .int (-1), .ref h1, .ref h27]))] := hD
    refine lv_aload_n hx hb dX11_act_164 rfl (lv_at hl 4 rfl) ?_
    refine va_get (D := G) (ci := 8) (v := .ref h1) (C := RX11) (T := TX11) (N := 42) hx hb hts iX11 hown hK hP 1 rfl rfl 40 (by decide) (hw (.fieldLink RX11 90 "MotionFloorModel$Hall" "minutes" "[I") (List.mem_of_getElem? (i := 11) rfl)) (fun _ h9 => h9) rfl dX11_act_165 ?_
    refine lv_iload hx hb dX11_act_168 (lv_at hl 1 rfl) ?_
    refine lv_iconst (v := 5) hx hb dX11_act_170 (by decide) ?_
    refine lv_iadd hx hb dX11_act_171 ?_
    refine wTop (v1 := .int 5) (congrArg Value.int (by decide)) ?_
    refine lv_iload hx hb dX11_act_172 (lv_at hl 2 rfl) ?_
    refine va_iast hx hb hK hP hD hS 0 0 rfl rfl (vp_in_iff.mpr (by decide)) dX11_act_174 (fun H locs hP hD hS => ?_)
    have hP : va_P G vwCl [(h1, .inl (K 0, 3600, .inl (upd (upd (upd (upd (upd (upd (fun _ => 0) 0 6) 1 p0) 2 0) 3 0) 4 0) 5 p0))), (h0, .inr (8, [.int 1, .int 0, .int (-1), .int 0, .int p0, .int (-1), .int 0, .int 0, .int 0, .int 0, .int 0, .ref h2, .ref h3, .ref h4, .ref h5, .ref h6, .ref h7, .ref h8, .ref h9, .ref h10, .ref h11, .ref h12, .ref h13, .ref h14, .ref h15, .ref h16, .ref h17, .ref h18, .ref h19, .ref h20, .int 0, .ref h21, .ref h22, .ref h23, .ref h24, .int 0, .int 0, .ref h25, .ref h26, .int (-1), .ref h1, .ref h27]))] _ := hP
    have hD : va_D A [(h1, .inl (K 0, 3600, .inl (upd (upd (upd (upd (upd (upd (fun _ => 0) 0 6) 1 p0) 2 0) 3 0) 4 0) 5 p0))), (h0, .inr (8, [.int 1, .int 0, .int (-1), .int 0, .int p0, .int (-1), .int 0, .int 0, .int 0, .int 0, .int 0, .ref h2, .ref h3, .ref h4, .ref h5, .ref h6, .ref h7, .ref h8, .ref h9, .ref h10, .ref h11, .ref h12, .ref h13, .ref h14, .ref h15, .ref h16, .ref h17, .ref h18, .ref h19, .ref h20, .int 0, .ref h21, .ref h22, .ref h23, .ref h24, .int 0, .int 0, .ref h25, .ref h26, .int (-1), .ref h1, .ref h27]))] := hD
    refine lv_aload_n hx hb dX11_act_175 rfl (lv_at hl 4 rfl) ?_
    refine lv_dup hx hb dX11_act_176 rfl ?_
    refine va_get (D := G) (ci := 8) (v := .int 0) (C := RX11) (T := TX11) (N := 42) hx hb hts iX11 hown hK hP 1 rfl rfl 7 (by decide) (hw (.fieldLink RX11 118 "MotionFloorModel$Hall" "entries" "I") (List.mem_of_getElem? (i := 5) rfl)) (fun _ h9 => h9) rfl dX11_act_177 ?_
    refine lv_iconst (v := 1) hx hb dX11_act_180 (by decide) ?_
    refine lv_iadd hx hb dX11_act_181 ?_
    refine wTop (v1 := .int 1) (congrArg Value.int (by decide)) ?_
    refine va_put (D := G) (ci := 8) (v := .int 1) (ty := .int) (C := RX11) (T := TX11) (N := 42) hx hb hts iX11 tyX11 tyX11_ok nmX11 hown hK hP hD hS 1 rfl rfl 7 (by decide) (hw (.fieldLink RX11 118 "MotionFloorModel$Hall" "entries" "I") (List.mem_of_getElem? (i := 5) rfl)) (fun _ h9 => h9) rfl (by decide +kernel) rfl rfl (Nat.le_of_ble_eq_true rfl) dX11_act_182 (fun H locs hP hD hS => ?_)
    have hP : va_P G vwCl [(h1, .inl (K 0, 3600, .inl (upd (upd (upd (upd (upd (upd (fun _ => 0) 0 6) 1 p0) 2 0) 3 0) 4 0) 5 p0))), (h0, .inr (8, [.int 1, .int 0, .int (-1), .int 0, .int p0, .int (-1), .int 0, .int 1, .int 0, .int 0, .int 0, .ref h2, .ref h3, .ref h4, .ref h5, .ref h6, .ref h7, .ref h8, .ref h9, .ref h10, .ref h11, .ref h12, .ref h13, .ref h14, .ref h15, .ref h16, .ref h17, .ref h18, .ref h19, .ref h20, .int 0, .ref h21, .ref h22, .ref h23, .ref h24, .int 0, .int 0, .ref h25, .ref h26, .int (-1), .ref h1, .ref h27]))] _ := hP
    have hD : va_D A [(h1, .inl (K 0, 3600, .inl (upd (upd (upd (upd (upd (upd (fun _ => 0) 0 6) 1 p0) 2 0) 3 0) 4 0) 5 p0))), (h0, .inr (8, [.int 1, .int 0, .int (-1), .int 0, .int p0, .int (-1), .int 0, .int 1, .int 0, .int 0, .int 0, .ref h2, .ref h3, .ref h4, .ref h5, .ref h6, .ref h7, .ref h8, .ref h9, .ref h10, .ref h11, .ref h12, .ref h13, .ref h14, .ref h15, .ref h16, .ref h17, .ref h18, .ref h19, .ref h20, .int 0, .ref h21, .ref h22, .ref h23, .ref h24, .int 0, .int 0, .ref h25, .ref h26, .int (-1), .ref h1, .ref h27]))] := hD
    refine lv_iload hx hb dX11_act_185 (lv_at hl 2 rfl) ?_
    have hP9 := hP.sub (ws' := [(h0, .inr (8, [.int 1, .int 0, .int (-1), .int 0, .int p0, .int (-1), .int 0, .int 1, .int 0, .int 0, .int 0, .ref h2, .ref h3, .ref h4, .ref h5, .ref h6, .ref h7, .ref h8, .ref h9, .ref h10, .ref h11, .ref h12, .ref h13, .ref h14, .ref h15, .ref h16, .ref h17, .ref h18, .ref h19, .ref h20, .int 0, .ref h21, .ref h22, .ref h23, .ref h24, .int 0, .int 0, .ref h25, .ref h26, .int (-1), .ref h1, .ref h27])), (h1, .inl (K 0, 3600, .inl (upd (upd (upd (upd (upd (upd (fun _ => 0) 0 6) 1 p0) 2 0) 3 0) 4 0) 5 p0)))]) [1, 0] rfl
    have hD9 := hD.sub (ws' := [(h0, .inr (8, [.int 1, .int 0, .int (-1), .int 0, .int p0, .int (-1), .int 0, .int 1, .int 0, .int 0, .int 0, .ref h2, .ref h3, .ref h4, .ref h5, .ref h6, .ref h7, .ref h8, .ref h9, .ref h10, .ref h11, .ref h12, .ref h13, .ref h14, .ref h15, .ref h16, .ref h17, .ref h18, .ref h19, .ref h20, .int 0, .ref h21, .ref h22, .ref h23, .ref h24, .int 0, .int 0, .ref h25, .ref h26, .int (-1), .ref h1, .ref h27])), (h1, .inl (K 0, 3600, .inl (upd (upd (upd (upd (upd (upd (fun _ => 0) 0 6) 1 p0) 2 0) 3 0) 4 0) 5 p0)))]) [1, 0] (by decide) rfl
    exact W.iret (v := p0) hx hb hr (fun t ht hW => ⟨⟨p0, _, rfl, Or.inr (⟨(by first | omega | decide | simp), rfl, rfl⟩), by rw [ht]; exact hP9, hD9⟩, hS.F ht⟩) hS.2.2 dX11_act_187
def e_X12_limit_0 : List Cond := [.fieldLink RX12 16 "MotionFloorModel" "hall" "LMotionFloorModel$Hall;", .methodLink RX12 40 yX11_act, .instanceMethod yX11_act, .selects RX11 yX11_act yX11_act, .initialized RX11]
def v_X12_limit_0 : List Cond := .code yX12_limit cX12_limit 2 (some .int) :: (e_X12_limit_0 ++ (wsX120 ++ (v_X11_act_10 ++ [])))
theorem te_X12_limit_0 : GoodIn lw_tbl e_X12_limit_0 := wGc z225 (wGc z368 (wGc z367 (wGc z366 (wGc z227 (wG0)))))
theorem t_X12_limit_0 : GoodIn lw_tbl v_X12_limit_0 := wGc z423 (wGa te_X12_limit_0 (wGa zcX12 (wGa t_X11_act_10 (wG0))))
set_option maxHeartbeats 4000000 in
set_option maxRecDepth 100000 in
theorem m_X12_limit_0 (l : Launch) (G : va_G) (K : Nat → ClassId) (h0 h1 h2 h3 h4 h5 h6 h7 h8 h9 h10 h11 h12 h13 h14 h15 h16 h17 h18 h19 h20 h21 h22 h23 h24 h25 h26 h27 h28 h29 h30 h31 h32 h33 : Nat) (p0 : Int32) (sz : Nat) : Met l yX12_limit v_X12_limit_0 ({ frames := 3, cells := 0, slots := 0, locals := 76 }) (va_Pc [.ref h0, .int p0] (wS G K sz [(h0, .inr (9, [.ref h1, .ref h3, .ref h4, .ref h5, .ref h6, .ref h7, .int 0])), (h1, .inr (8, [.int 1, .int 0, .int (-1), .int 0, .int 0, .int (-1), .int 0, .int 0, .int 0, .int 0, .int 0, .ref h8, .ref h9, .ref h10, .ref h11, .ref h12, .ref h13, .ref h14, .ref h15, .ref h16, .ref h17, .ref h18, .ref h19, .ref h20, .ref h21, .ref h22, .ref h23, .ref h24, .ref h25, .ref h26, .int 0, .ref h27, .ref h28, .ref h29, .ref h30, .int 0, .int 0, .ref h31, .ref h32, .int (-1), .ref h2, .ref h33])), (h2, .inl (K 0, 3600, .inl (fun _ => 0)))])) (va_Qi (fun (r : Int32) (u : va_W) => (((((p0.toInt < 0 ∨ (p0.toInt ≥ 0 ∧ p0.toInt > 99))))) ∧ (-9) = r ∧ u = [(h0, .inr (9, [.ref h1, .ref h3, .ref h4, .ref h5, .ref h6, .ref h7, .int 0])), (h1, .inr (8, [.int 1, .int 0, .int (-1), .int 0, .int 0, .int (-1), .int 0, .int 0, .int 0, .int 0, .int 9, .ref h8, .ref h9, .ref h10, .ref h11, .ref h12, .ref h13, .ref h14, .ref h15, .ref h16, .ref h17, .ref h18, .ref h19, .ref h20, .ref h21, .ref h22, .ref h23, .ref h24, .ref h25, .ref h26, .int 0, .ref h27, .ref h28, .ref h29, .ref h30, .int 0, .int 0, .ref h31, .ref h32, .int (-1), .ref h2, .ref h33])), (h2, .inl (K 0, 3600, .inl (fun _ => 0)))]) ∨ ((((((p0.toInt ≥ 0 ∧ p0.toInt ≤ 99))))) ∧ p0 = r ∧ u = [(h0, .inr (9, [.ref h1, .ref h3, .ref h4, .ref h5, .ref h6, .ref h7, .int 0])), (h1, .inr (8, [.int 1, .int 0, .int (-1), .int 0, .int p0, .int (-1), .int 0, .int 1, .int 0, .int 0, .int 0, .ref h8, .ref h9, .ref h10, .ref h11, .ref h12, .ref h13, .ref h14, .ref h15, .ref h16, .ref h17, .ref h18, .ref h19, .ref h20, .ref h21, .ref h22, .ref h23, .ref h24, .ref h25, .ref h26, .int 0, .ref h27, .ref h28, .ref h29, .ref h30, .int 0, .int 0, .ref h31, .ref h32, .int (-1), .ref h2, .ref h33])), (h2, .inl (K 0, 3600, .inl (upd (upd (upd (upd (upd (upd (fun _ => 0) 0 6) 1 p0) 2 0) 3 0) 4 0) 5 p0)))])) (wB G (va_A [(h0, .inr (9, [.ref h1, .ref h3, .ref h4, .ref h5, .ref h6, .ref h7, .int 0])), (h1, .inr (8, [.int 1, .int 0, .int (-1), .int 0, .int 0, .int (-1), .int 0, .int 0, .int 0, .int 0, .int 0, .ref h8, .ref h9, .ref h10, .ref h11, .ref h12, .ref h13, .ref h14, .ref h15, .ref h16, .ref h17, .ref h18, .ref h19, .ref h20, .ref h21, .ref h22, .ref h23, .ref h24, .ref h25, .ref h26, .int 0, .ref h27, .ref h28, .ref h29, .ref h30, .int 0, .int 0, .ref h31, .ref h32, .int (-1), .ref h2, .ref h33])), (h2, .inl (K 0, 3600, .inl (fun _ => 0)))] sz)) (va_A [(h0, .inr (9, [.ref h1, .ref h3, .ref h4, .ref h5, .ref h6, .ref h7, .int 0])), (h1, .inr (8, [.int 1, .int 0, .int (-1), .int 0, .int 0, .int (-1), .int 0, .int 0, .int 0, .int 0, .int 0, .ref h8, .ref h9, .ref h10, .ref h11, .ref h12, .ref h13, .ref h14, .ref h15, .ref h16, .ref h17, .ref h18, .ref h19, .ref h20, .ref h21, .ref h22, .ref h23, .ref h24, .ref h25, .ref h26, .int 0, .ref h27, .ref h28, .ref h29, .ref h30, .int 0, .int 0, .ref h31, .ref h32, .int (-1), .ref h2, .ref h33])), (h2, .inl (K 0, 3600, .inl (fun _ => 0)))] sz)) 0 0 (va_A [(h0, .inr (9, [.ref h1, .ref h3, .ref h4, .ref h5, .ref h6, .ref h7, .int 0])), (h1, .inr (8, [.int 1, .int 0, .int (-1), .int 0, .int 0, .int (-1), .int 0, .int 0, .int 0, .int 0, .int 0, .ref h8, .ref h9, .ref h10, .ref h11, .ref h12, .ref h13, .ref h14, .ref h15, .ref h16, .ref h17, .ref h18, .ref h19, .ref h20, .ref h21, .ref h22, .ref h23, .ref h24, .ref h25, .ref h26, .int 0, .ref h27, .ref h28, .ref h29, .ref h30, .int 0, .int 0, .ref h31, .ref h32, .int (-1), .ref h2, .ref h33])), (h2, .inl (K 0, 3600, .inl (fun _ => 0)))] sz) := by
  refine Met.ofW (cc := cX12_limit) (maxL := 2) (ret := (some .int)) (by decide) rfl ?_
  intro p e s m args below meth c s₁ B hml hv
  obtain ⟨rfl, hsz, hP, hK, hD0, hE⟩ := hv
  have hx := B.exec
  have hb := B.bytes
  have hr := B.returns
  have hts := atoms_spec (ws := v_X12_limit_0) B.pre
  have t_ := t_X12_limit_0
  have mw : ∀ w ∈ e_X12_limit_0, w ∈ v_X12_limit_0 := fun w h => List.mem_cons_of_mem _ (List.mem_append_left _ h)
  have hw := fun w (h : w ∈ e_X12_limit_0) => hts w (mw w h)
  have iX12 : ∀ w ∈ wsX120, w ∈ v_X12_limit_0 := fun w h => List.mem_cons_of_mem _ (List.mem_append_right _ (List.mem_append_left _ h))
  have j_X11_act_10 : ∀ w ∈ v_X11_act_10, w ∈ v_X12_limit_0 := fun w h => List.mem_cons_of_mem _ (List.mem_append_right _ (List.mem_append_right _ (List.mem_append_left _ h)))
  have hown : s.vm.findClass RX12 = some m.cls := findClass_of_methodNamed B.named
  have hlocks := B.notSynchronized
  subst hsz
  have hD := hD0.self (sz := s.heap.size)
  generalize hAe : va_A [(h0, .inr (9, [.ref h1, .ref h3, .ref h4, .ref h5, .ref h6, .ref h7, .int 0])), (h1, .inr (8, [.int 1, .int 0, .int (-1), .int 0, .int 0, .int (-1), .int 0, .int 0, .int 0, .int 0, .int 0, .ref h8, .ref h9, .ref h10, .ref h11, .ref h12, .ref h13, .ref h14, .ref h15, .ref h16, .ref h17, .ref h18, .ref h19, .ref h20, .ref h21, .ref h22, .ref h23, .ref h24, .ref h25, .ref h26, .int 0, .ref h27, .ref h28, .ref h29, .ref h30, .int 0, .int 0, .ref h31, .ref h32, .int (-1), .ref h2, .ref h33])), (h2, .inl (K 0, 3600, .inl (fun _ => 0)))] s.heap.size = A at hD ⊢
  have hA : ∀ q : Nat, s.heap.size ≤ q → A q := fun q h => by rw [← hAe]; exact Or.inr h
  have hS : va_S A s.heap s.heap [] := va_S.rf
  have hP : va_P G vwCl [(h0, .inr (9, [.ref h1, .ref h3, .ref h4, .ref h5, .ref h6, .ref h7, .int 0])), (h1, .inr (8, [.int 1, .int 0, .int (-1), .int 0, .int 0, .int (-1), .int 0, .int 0, .int 0, .int 0, .int 0, .ref h8, .ref h9, .ref h10, .ref h11, .ref h12, .ref h13, .ref h14, .ref h15, .ref h16, .ref h17, .ref h18, .ref h19, .ref h20, .ref h21, .ref h22, .ref h23, .ref h24, .ref h25, .ref h26, .int 0, .ref h27, .ref h28, .ref h29, .ref h30, .int 0, .int 0, .ref h31, .ref h32, .int (-1), .ref h2, .ref h33])), (h2, .inl (K 0, 3600, .inl (fun _ => 0)))] s.heap := hP
  have hl := lv_entry ([.ref h0, .int p0]) (n := 2) (Nat.le_of_ble_eq_true rfl)
  rw [lg_entry_eq]
  generalize (lg_sl ([.ref h0, .int p0]) ++ List.replicate (2 - (lg_sl ([.ref h0, .int p0])).length) Slot.unset).toArray = ls at hl ⊢
  have hl : lv_has ls 2 [(0, .ref h0), (1, .int p0)] := hl
  refine lv_aload_n hx hb dX12_limit_0 rfl (lv_at hl 0 rfl) ?_
  refine va_get (D := G) (ci := 9) (v := .ref h1) (C := RX12) (T := TX12) (N := 7) hx hb hts iX12 hown hK hP 0 rfl rfl 0 (by decide) (hw (.fieldLink RX12 16 "MotionFloorModel" "hall" "LMotionFloorModel$Hall;") (List.mem_of_getElem? (i := 0) rfl)) (fun _ h9 => h9) rfl dX12_limit_1 ?_
  refine lv_bipush (v := 6) hx hb dX12_limit_4 (by decide) ?_
  refine lv_iload_n hx hb dX12_limit_6 rfl (lv_at hl 1 rfl) ?_
  refine lv_iconst (v := 0) hx hb dX12_limit_7 (by decide) ?_
  refine lv_iconst (v := 0) hx hb dX12_limit_8 (by decide) ?_
  refine lv_iconst (v := 0) hx hb dX12_limit_9 (by decide) ?_
  have hPc := hP.sub (ws' := [(h1, .inr (8, [.int 1, .int 0, .int (-1), .int 0, .int 0, .int (-1), .int 0, .int 0, .int 0, .int 0, .int 0, .ref h8, .ref h9, .ref h10, .ref h11, .ref h12, .ref h13, .ref h14, .ref h15, .ref h16, .ref h17, .ref h18, .ref h19, .ref h20, .ref h21, .ref h22, .ref h23, .ref h24, .ref h25, .ref h26, .int 0, .ref h27, .ref h28, .ref h29, .ref h30, .int 0, .int 0, .ref h31, .ref h32, .int (-1), .ref h2, .ref h33])), (h2, .inl (K 0, 3600, .inl (fun _ => 0)))]) [1, 2] rfl
  have hDc := hD.sub (ws' := [(h1, .inr (8, [.int 1, .int 0, .int (-1), .int 0, .int 0, .int (-1), .int 0, .int 0, .int 0, .int 0, .int 0, .ref h8, .ref h9, .ref h10, .ref h11, .ref h12, .ref h13, .ref h14, .ref h15, .ref h16, .ref h17, .ref h18, .ref h19, .ref h20, .ref h21, .ref h22, .ref h23, .ref h24, .ref h25, .ref h26, .int 0, .ref h27, .ref h28, .ref h29, .ref h30, .int 0, .int 0, .ref h31, .ref h32, .int (-1), .ref h2, .ref h33])), (h2, .inl (K 0, 3600, .inl (fun _ => 0)))]) [1, 2] (by decide) rfl
  refine wGoi (wc := [(h1, .inr (8, [.int 1, .int 0, .int (-1), .int 0, .int 0, .int (-1), .int 0, .int 0, .int 0, .int 0, .int 0, .ref h8, .ref h9, .ref h10, .ref h11, .ref h12, .ref h13, .ref h14, .ref h15, .ref h16, .ref h17, .ref h18, .ref h19, .ref h20, .ref h21, .ref h22, .ref h23, .ref h24, .ref h25, .ref h26, .int 0, .ref h27, .ref h28, .ref h29, .ref h30, .int 0, .int 0, .ref h31, .ref h32, .int (-1), .ref h2, .ref h33])), (h2, .inl (K 0, 3600, .inl (fun _ => 0)))]) (wr := [(h0, .inr (9, [.ref h1, .ref h3, .ref h4, .ref h5, .ref h6, .ref h7, .int 0]))]) (va_runV (As := [.int 6, .int p0, .int 0, .int 0, .int 0]) (rest := []) ⟨hx, hb, hml, hown, hts⟩ (m_X11_act_10 l G K h1 h2 h8 h9 h10 h11 h12 h13 h14 h15 h16 h17 h18 h19 h20 h21 h22 h23 h24 h25 h26 h27 h28 h29 h30 h31 h32 h33 p0 _) (cwV 5 hts (wGV t_ (mw (.methodLink RX12 40 yX11_act) (List.mem_of_getElem? (i := 1) rfl)) (mw (.instanceMethod yX11_act) (List.mem_of_getElem? (i := 2) rfl)) (mw (.selects RX11 yX11_act yX11_act) (List.mem_of_getElem? (i := 3) rfl)) (mw (.initialized RX11) (List.mem_of_getElem? (i := 4) rfl)) j_X11_act_10) rfl rfl rfl (by decide +kernel) ⟨Nat.le_of_ble_eq_true rfl, Nat.le_of_ble_eq_true rfl⟩) (wPV hK hE hPc hDc 8 0 rfl rfl) rfl rfl hl.1 rfl (lv_room (Nat.le_of_ble_eq_true rfl)) dX12_limit_10 ⟨Nat.le_of_ble_eq_true rfl, Nat.le_of_ble_eq_true rfl⟩) hP hD hS hA [1, 2] [0] rfl rfl rfl (by decide) (fun r u H locs hw hP hD hS => ?_)
  rcases hw with ⟨c_w, rfl, rfl⟩ | ⟨c_w, rfl, rfl⟩
  · have c1 := c_w
    have hP : va_P G vwCl [(h0, .inr (9, [.ref h1, .ref h3, .ref h4, .ref h5, .ref h6, .ref h7, .int 0])), (h1, .inr (8, [.int 1, .int 0, .int (-1), .int 0, .int 0, .int (-1), .int 0, .int 0, .int 0, .int 0, .int 9, .ref h8, .ref h9, .ref h10, .ref h11, .ref h12, .ref h13, .ref h14, .ref h15, .ref h16, .ref h17, .ref h18, .ref h19, .ref h20, .ref h21, .ref h22, .ref h23, .ref h24, .ref h25, .ref h26, .int 0, .ref h27, .ref h28, .ref h29, .ref h30, .int 0, .int 0, .ref h31, .ref h32, .int (-1), .ref h2, .ref h33])), (h2, .inl (K 0, 3600, .inl (fun _ => 0)))] _ := hP
    have hD : va_D A [(h0, .inr (9, [.ref h1, .ref h3, .ref h4, .ref h5, .ref h6, .ref h7, .int 0])), (h1, .inr (8, [.int 1, .int 0, .int (-1), .int 0, .int 0, .int (-1), .int 0, .int 0, .int 0, .int 0, .int 9, .ref h8, .ref h9, .ref h10, .ref h11, .ref h12, .ref h13, .ref h14, .ref h15, .ref h16, .ref h17, .ref h18, .ref h19, .ref h20, .ref h21, .ref h22, .ref h23, .ref h24, .ref h25, .ref h26, .int 0, .ref h27, .ref h28, .ref h29, .ref h30, .int 0, .int 0, .ref h31, .ref h32, .int (-1), .ref h2, .ref h33])), (h2, .inl (K 0, 3600, .inl (fun _ => 0)))] := hD
    have hP9 : va_P G vwCl [(h0, .inr (9, [.ref h1, .ref h3, .ref h4, .ref h5, .ref h6, .ref h7, .int 0])), (h1, .inr (8, [.int 1, .int 0, .int (-1), .int 0, .int 0, .int (-1), .int 0, .int 0, .int 0, .int 0, .int 9, .ref h8, .ref h9, .ref h10, .ref h11, .ref h12, .ref h13, .ref h14, .ref h15, .ref h16, .ref h17, .ref h18, .ref h19, .ref h20, .ref h21, .ref h22, .ref h23, .ref h24, .ref h25, .ref h26, .int 0, .ref h27, .ref h28, .ref h29, .ref h30, .int 0, .int 0, .ref h31, .ref h32, .int (-1), .ref h2, .ref h33])), (h2, .inl (K 0, 3600, .inl (fun _ => 0)))] _ := hP
    have hD9 : va_D A [(h0, .inr (9, [.ref h1, .ref h3, .ref h4, .ref h5, .ref h6, .ref h7, .int 0])), (h1, .inr (8, [.int 1, .int 0, .int (-1), .int 0, .int 0, .int (-1), .int 0, .int 0, .int 0, .int 0, .int 9, .ref h8, .ref h9, .ref h10, .ref h11, .ref h12, .ref h13, .ref h14, .ref h15, .ref h16, .ref h17, .ref h18, .ref h19, .ref h20, .ref h21, .ref h22, .ref h23, .ref h24, .ref h25, .ref h26, .int 0, .ref h27, .ref h28, .ref h29, .ref h30, .int 0, .int 0, .ref h31, .ref h32, .int (-1), .ref h2, .ref h33])), (h2, .inl (K 0, 3600, .inl (fun _ => 0)))] := hD
    exact W.iret (v := (-9)) hx hb hr (fun t ht hW => ⟨⟨(-9), _, rfl, Or.inl ⟨(by first | omega | decide | simp), rfl, rfl⟩, by rw [ht]; exact hP9, hD9⟩, hS.F ht⟩) hS.2.2 dX12_limit_13
  · have c2 := c_w
    have hP : va_P G vwCl [(h0, .inr (9, [.ref h1, .ref h3, .ref h4, .ref h5, .ref h6, .ref h7, .int 0])), (h1, .inr (8, [.int 1, .int 0, .int (-1), .int 0, .int p0, .int (-1), .int 0, .int 1, .int 0, .int 0, .int 0, .ref h8, .ref h9, .ref h10, .ref h11, .ref h12, .ref h13, .ref h14, .ref h15, .ref h16, .ref h17, .ref h18, .ref h19, .ref h20, .ref h21, .ref h22, .ref h23, .ref h24, .ref h25, .ref h26, .int 0, .ref h27, .ref h28, .ref h29, .ref h30, .int 0, .int 0, .ref h31, .ref h32, .int (-1), .ref h2, .ref h33])), (h2, .inl (K 0, 3600, .inl (upd (upd (upd (upd (upd (upd (fun _ => 0) 0 6) 1 p0) 2 0) 3 0) 4 0) 5 p0)))] _ := hP
    have hD : va_D A [(h0, .inr (9, [.ref h1, .ref h3, .ref h4, .ref h5, .ref h6, .ref h7, .int 0])), (h1, .inr (8, [.int 1, .int 0, .int (-1), .int 0, .int p0, .int (-1), .int 0, .int 1, .int 0, .int 0, .int 0, .ref h8, .ref h9, .ref h10, .ref h11, .ref h12, .ref h13, .ref h14, .ref h15, .ref h16, .ref h17, .ref h18, .ref h19, .ref h20, .ref h21, .ref h22, .ref h23, .ref h24, .ref h25, .ref h26, .int 0, .ref h27, .ref h28, .ref h29, .ref h30, .int 0, .int 0, .ref h31, .ref h32, .int (-1), .ref h2, .ref h33])), (h2, .inl (K 0, 3600, .inl (upd (upd (upd (upd (upd (upd (fun _ => 0) 0 6) 1 p0) 2 0) 3 0) 4 0) 5 p0)))] := hD
    have hP9 : va_P G vwCl [(h0, .inr (9, [.ref h1, .ref h3, .ref h4, .ref h5, .ref h6, .ref h7, .int 0])), (h1, .inr (8, [.int 1, .int 0, .int (-1), .int 0, .int p0, .int (-1), .int 0, .int 1, .int 0, .int 0, .int 0, .ref h8, .ref h9, .ref h10, .ref h11, .ref h12, .ref h13, .ref h14, .ref h15, .ref h16, .ref h17, .ref h18, .ref h19, .ref h20, .ref h21, .ref h22, .ref h23, .ref h24, .ref h25, .ref h26, .int 0, .ref h27, .ref h28, .ref h29, .ref h30, .int 0, .int 0, .ref h31, .ref h32, .int (-1), .ref h2, .ref h33])), (h2, .inl (K 0, 3600, .inl (upd (upd (upd (upd (upd (upd (fun _ => 0) 0 6) 1 p0) 2 0) 3 0) 4 0) 5 p0)))] _ := hP
    have hD9 : va_D A [(h0, .inr (9, [.ref h1, .ref h3, .ref h4, .ref h5, .ref h6, .ref h7, .int 0])), (h1, .inr (8, [.int 1, .int 0, .int (-1), .int 0, .int p0, .int (-1), .int 0, .int 1, .int 0, .int 0, .int 0, .ref h8, .ref h9, .ref h10, .ref h11, .ref h12, .ref h13, .ref h14, .ref h15, .ref h16, .ref h17, .ref h18, .ref h19, .ref h20, .ref h21, .ref h22, .ref h23, .ref h24, .ref h25, .ref h26, .int 0, .ref h27, .ref h28, .ref h29, .ref h30, .int 0, .int 0, .ref h31, .ref h32, .int (-1), .ref h2, .ref h33])), (h2, .inl (K 0, 3600, .inl (upd (upd (upd (upd (upd (upd (fun _ => 0) 0 6) 1 p0) 2 0) 3 0) 4 0) 5 p0)))] := hD
    exact W.iret (v := p0) hx hb hr (fun t ht hW => ⟨⟨p0, _, rfl, Or.inr (⟨(by first | omega | decide | simp), rfl, rfl⟩), by rw [ht]; exact hP9, hD9⟩, hS.F ht⟩) hS.2.2 dX12_limit_13
def e_X12_in_14 : List Cond := []
def v_X12_in_14 : List Cond := .code yX12_in cX12_in 3 (some .boolean) :: (e_X12_in_14 ++ [])
theorem te_X12_in_14 : GoodIn lw_tbl e_X12_in_14 := wG0
theorem t_X12_in_14 : GoodIn lw_tbl v_X12_in_14 := wGc z276 (wGa te_X12_in_14 (wG0))
set_option maxHeartbeats 4000000 in
set_option maxRecDepth 100000 in
theorem m_X12_in_14 (l : Launch) (G : va_G) (K : Nat → ClassId) (p0 : Int32) (sz : Nat) (bp0 : 0 ≤ p0.toInt ∧ p0.toInt ≤ 99) : Met l yX12_in v_X12_in_14 ({ frames := 0, cells := 0, slots := 0, locals := 0 }) (va_Pc [.int p0, .int 0, .int 99] (wS G K sz [])) (va_Qi (fun (r : Int32) (u : va_W) => (1 = r ∧ u = [])) (wB G (va_A [] sz)) (va_A [] sz)) 0 0 (va_A [] sz) := by
  refine Met.ofW (cc := cX12_in) (maxL := 3) (ret := (some .boolean)) (by decide) rfl ?_
  intro p e s m args below meth c s₁ B hml hv
  obtain ⟨rfl, hsz, hP, hK, hD0, hE⟩ := hv
  have hx := B.exec
  have hb := B.bytes
  have hr := B.returns
  have hts := atoms_spec (ws := v_X12_in_14) B.pre
  have t_ := t_X12_in_14
  have mw : ∀ w ∈ e_X12_in_14, w ∈ v_X12_in_14 := fun w h => List.mem_cons_of_mem _ (List.mem_append_left _ h)
  have hw := fun w (h : w ∈ e_X12_in_14) => hts w (mw w h)
  have hown : s.vm.findClass RX12 = some m.cls := findClass_of_methodNamed B.named
  have hlocks := B.notSynchronized
  subst hsz
  have hD := hD0.self (sz := s.heap.size)
  generalize hAe : va_A [] s.heap.size = A at hD ⊢
  have hA : ∀ q : Nat, s.heap.size ≤ q → A q := fun q h => by rw [← hAe]; exact Or.inr h
  have hS : va_S A s.heap s.heap [] := va_S.rf
  have hP : va_P G vwCl [] s.heap := hP
  have hl := lv_entry ([.int p0, .int 0, .int 99]) (n := 3) (Nat.le_of_ble_eq_true rfl)
  rw [lg_entry_eq]
  generalize (lg_sl ([.int p0, .int 0, .int 99]) ++ List.replicate (3 - (lg_sl ([.int p0, .int 0, .int 99])).length) Slot.unset).toArray = ls at hl ⊢
  have hl : lv_has ls 3 [(0, .int p0), (1, .int 0), (2, .int 99)] := hl
  refine lv_iload_n hx hb dX12_in_0 rfl (lv_at hl 0 rfl) ?_
  refine lv_iload_n hx hb dX12_in_1 rfl (lv_at hl 1 rfl) ?_
  refine lv_icmp_lt (tgt := 14) hx hb dX12_in_2 (by decide) (fun c1 => by have c1 : p0.toInt < 0 := wLt rfl (by decide) c1; omega) (fun c1 => ?_)
  have c1 : p0.toInt ≥ 0 := wNlt rfl (by decide) c1
  refine lv_iload_n hx hb dX12_in_5 rfl (lv_at hl 0 rfl) ?_
  refine lv_iload_n hx hb dX12_in_6 rfl (lv_at hl 2 rfl) ?_
  refine lv_icmp_gt (tgt := 14) hx hb dX12_in_7 (by decide) (fun c2 => by have c2 : 99 < p0.toInt := wLt (by decide) rfl c2; omega) (fun c2 => ?_)
  have c2 : 99 ≥ p0.toInt := wNlt (by decide) rfl c2
  refine lv_iconst (v := 1) hx hb dX12_in_10 (by decide) ?_
  refine lv_goto (tgt := 15) hx hb dX12_in_11 (by decide) ?_
  have hP9 : va_P G vwCl [] _ := hP
  have hD9 : va_D A [] := hD
  exact W.zret (v := 1) (ty := .boolean) hx hb hr rfl (fun t ht hW => ⟨⟨1, _, rfl, ⟨rfl, rfl⟩, by rw [ht]; exact hP9, hD9⟩, hS.F ht⟩) hS.2.2 dX12_in_15
def e_X11_reason_11 : List Cond := [.initialized RX12, .static yX12_in, .fieldLink RX11 115 "MotionFloorModel$Hall" "pending" "I"]
def v_X11_reason_11 : List Cond := .code yX11_reason cX11_reason 6 (some .int) :: (e_X11_reason_11 ++ (wsX110 ++ (v_X12_in_14 ++ [])))
theorem te_X11_reason_11 : GoodIn lw_tbl e_X11_reason_11 := wGc z277 (wGc z278 (wGc z202 (wG0)))
theorem t_X11_reason_11 : GoodIn lw_tbl v_X11_reason_11 := wGc z355 (wGa te_X11_reason_11 (wGa zcX11 (wGa t_X12_in_14 (wG0))))
set_option maxHeartbeats 4000000 in
set_option maxRecDepth 100000 in
theorem m_X11_reason_11 (l : Launch) (G : va_G) (K : Nat → ClassId) (h0 h1 h2 h3 h4 h5 h6 h7 h8 h9 h10 h11 h12 h13 h14 h15 h16 h17 h18 h19 h20 h21 h22 h23 h24 h25 h26 h27 : Nat) (p0 : Int32) (sz : Nat) (bp0 : 0 ≤ p0.toInt ∧ p0.toInt ≤ 99) : Met l yX11_reason v_X11_reason_11 ({ frames := 1, cells := 0, slots := 0, locals := 22 }) (va_Pc [.ref h0, .int 6, .int p0, .int 0, .int 0, .int 0] (wS G K sz [(h0, .inr (8, [.int 1, .int 0, .int (-1), .int 0, .int 0, .int (-1), .int 0, .int 0, .int 0, .int 0, .int 0, .ref h1, .ref h2, .ref h3, .ref h4, .ref h5, .ref h6, .ref h7, .ref h8, .ref h9, .ref h10, .ref h11, .ref h12, .ref h13, .ref h14, .ref h15, .ref h16, .ref h17, .ref h18, .ref h19, .int 0, .ref h20, .ref h21, .ref h22, .ref h23, .int 0, .int 0, .ref h24, .ref h25, .int (-1), .ref h26, .ref h27]))])) (va_Qi (fun (r : Int32) (u : va_W) => (0 = r ∧ u = [(h0, .inr (8, [.int 1, .int 0, .int (-1), .int 0, .int 0, .int (-1), .int 0, .int 0, .int 0, .int 0, .int 0, .ref h1, .ref h2, .ref h3, .ref h4, .ref h5, .ref h6, .ref h7, .ref h8, .ref h9, .ref h10, .ref h11, .ref h12, .ref h13, .ref h14, .ref h15, .ref h16, .ref h17, .ref h18, .ref h19, .int 0, .ref h20, .ref h21, .ref h22, .ref h23, .int 0, .int 0, .ref h24, .ref h25, .int (-1), .ref h26, .ref h27]))])) (wB G (va_A [(h0, .inr (8, [.int 1, .int 0, .int (-1), .int 0, .int 0, .int (-1), .int 0, .int 0, .int 0, .int 0, .int 0, .ref h1, .ref h2, .ref h3, .ref h4, .ref h5, .ref h6, .ref h7, .ref h8, .ref h9, .ref h10, .ref h11, .ref h12, .ref h13, .ref h14, .ref h15, .ref h16, .ref h17, .ref h18, .ref h19, .int 0, .ref h20, .ref h21, .ref h22, .ref h23, .int 0, .int 0, .ref h24, .ref h25, .int (-1), .ref h26, .ref h27]))] sz)) (va_A [(h0, .inr (8, [.int 1, .int 0, .int (-1), .int 0, .int 0, .int (-1), .int 0, .int 0, .int 0, .int 0, .int 0, .ref h1, .ref h2, .ref h3, .ref h4, .ref h5, .ref h6, .ref h7, .ref h8, .ref h9, .ref h10, .ref h11, .ref h12, .ref h13, .ref h14, .ref h15, .ref h16, .ref h17, .ref h18, .ref h19, .int 0, .ref h20, .ref h21, .ref h22, .ref h23, .int 0, .int 0, .ref h24, .ref h25, .int (-1), .ref h26, .ref h27]))] sz)) 0 0 (va_A [(h0, .inr (8, [.int 1, .int 0, .int (-1), .int 0, .int 0, .int (-1), .int 0, .int 0, .int 0, .int 0, .int 0, .ref h1, .ref h2, .ref h3, .ref h4, .ref h5, .ref h6, .ref h7, .ref h8, .ref h9, .ref h10, .ref h11, .ref h12, .ref h13, .ref h14, .ref h15, .ref h16, .ref h17, .ref h18, .ref h19, .int 0, .ref h20, .ref h21, .ref h22, .ref h23, .int 0, .int 0, .ref h24, .ref h25, .int (-1), .ref h26, .ref h27]))] sz) := by
  refine Met.ofW (cc := cX11_reason) (maxL := 6) (ret := (some .int)) (by decide) rfl ?_
  intro p e s m args below meth c s₁ B hml hv
  obtain ⟨rfl, hsz, hP, hK, hD0, hE⟩ := hv
  have hx := B.exec
  have hb := B.bytes
  have hr := B.returns
  have hts := atoms_spec (ws := v_X11_reason_11) B.pre
  have t_ := t_X11_reason_11
  have mw : ∀ w ∈ e_X11_reason_11, w ∈ v_X11_reason_11 := fun w h => List.mem_cons_of_mem _ (List.mem_append_left _ h)
  have hw := fun w (h : w ∈ e_X11_reason_11) => hts w (mw w h)
  have iX11 : ∀ w ∈ wsX110, w ∈ v_X11_reason_11 := fun w h => List.mem_cons_of_mem _ (List.mem_append_right _ (List.mem_append_left _ h))
  have j_X12_in_14 : ∀ w ∈ v_X12_in_14, w ∈ v_X11_reason_11 := fun w h => List.mem_cons_of_mem _ (List.mem_append_right _ (List.mem_append_right _ (List.mem_append_left _ h)))
  have hown : s.vm.findClass RX11 = some m.cls := findClass_of_methodNamed B.named
  have hlocks := B.notSynchronized
  subst hsz
  have hD := hD0.self (sz := s.heap.size)
  generalize hAe : va_A [(h0, .inr (8, [.int 1, .int 0, .int (-1), .int 0, .int 0, .int (-1), .int 0, .int 0, .int 0, .int 0, .int 0, .ref h1, .ref h2, .ref h3, .ref h4, .ref h5, .ref h6, .ref h7, .ref h8, .ref h9, .ref h10, .ref h11, .ref h12, .ref h13, .ref h14, .ref h15, .ref h16, .ref h17, .ref h18, .ref h19, .int 0, .ref h20, .ref h21, .ref h22, .ref h23, .int 0, .int 0, .ref h24, .ref h25, .int (-1), .ref h26, .ref h27]))] s.heap.size = A at hD ⊢
  have hA : ∀ q : Nat, s.heap.size ≤ q → A q := fun q h => by rw [← hAe]; exact Or.inr h
  have hS : va_S A s.heap s.heap [] := va_S.rf
  have hP : va_P G vwCl [(h0, .inr (8, [.int 1, .int 0, .int (-1), .int 0, .int 0, .int (-1), .int 0, .int 0, .int 0, .int 0, .int 0, .ref h1, .ref h2, .ref h3, .ref h4, .ref h5, .ref h6, .ref h7, .ref h8, .ref h9, .ref h10, .ref h11, .ref h12, .ref h13, .ref h14, .ref h15, .ref h16, .ref h17, .ref h18, .ref h19, .int 0, .ref h20, .ref h21, .ref h22, .ref h23, .int 0, .int 0, .ref h24, .ref h25, .int (-1), .ref h26, .ref h27]))] s.heap := hP
  have hl := lv_entry ([.ref h0, .int 6, .int p0, .int 0, .int 0, .int 0]) (n := 6) (Nat.le_of_ble_eq_true rfl)
  rw [lg_entry_eq]
  generalize (lg_sl ([.ref h0, .int 6, .int p0, .int 0, .int 0, .int 0]) ++ List.replicate (6 - (lg_sl ([.ref h0, .int 6, .int p0, .int 0, .int 0, .int 0])).length) Slot.unset).toArray = ls at hl ⊢
  have hl : lv_has ls 6 [(0, .ref h0), (1, .int 6), (2, .int p0), (3, .int 0), (4, .int 0), (5, .int 0)] := hl
  refine lv_iload_n hx hb dX11_reason_0 rfl (lv_at hl 1 rfl) ?_
  refine lv_tableIn (off := 225) (tgt := 226) hx hb dX11_reason_1 (by decide) (by decide) (by decide) (by decide) ?_
  refine lv_iload_n hx hb dX11_reason_226 rfl (lv_at hl 2 rfl) ?_
  refine lv_iconst (v := 0) hx hb dX11_reason_227 (by decide) ?_
  refine lv_bipush (v := 99) hx hb dX11_reason_228 (by decide) ?_
  have hPc := hP.sub (ws' := []) [] rfl
  have hDc := hD.sub (ws' := []) [] (by decide) rfl
  refine wGoi (wc := []) (wr := [(h0, .inr (8, [.int 1, .int 0, .int (-1), .int 0, .int 0, .int (-1), .int 0, .int 0, .int 0, .int 0, .int 0, .ref h1, .ref h2, .ref h3, .ref h4, .ref h5, .ref h6, .ref h7, .ref h8, .ref h9, .ref h10, .ref h11, .ref h12, .ref h13, .ref h14, .ref h15, .ref h16, .ref h17, .ref h18, .ref h19, .int 0, .ref h20, .ref h21, .ref h22, .ref h23, .int 0, .int 0, .ref h24, .ref h25, .int (-1), .ref h26, .ref h27]))]) (va_runSN (As := [.int p0, .int 0, .int 99]) (rest := []) ⟨hx, hb, hml, hown, hts⟩ (m_X12_in_14 l G K p0 _ (by omega)) ⟨va_cnB (host := "MotionFloorModel") 3 hts (wGP t_ j_X12_in_14) rfl rfl rfl hE.2.2.2.2.2.2.2.2.2.1 (hw (.initialized RX12) (List.mem_of_getElem? (i := 0) rfl)) (by decide +kernel) ⟨Nat.le_of_ble_eq_true rfl, Nat.le_of_ble_eq_true rfl⟩, (hw (.static yX12_in) (List.mem_of_getElem? (i := 1) rfl)), trivial⟩ (wPS hK hE hPc hDc) rfl rfl hl.1 rfl (lv_room (Nat.le_of_ble_eq_true rfl)) dX11_reason_230 ⟨Nat.le_of_ble_eq_true rfl, Nat.le_of_ble_eq_true rfl⟩) hP hD hS hA [] [0] rfl rfl rfl (by decide) (fun r u H locs hw hP hD hS => ?_)
  rcases hw with ⟨rfl, rfl⟩
  have hP : va_P G vwCl [(h0, .inr (8, [.int 1, .int 0, .int (-1), .int 0, .int 0, .int (-1), .int 0, .int 0, .int 0, .int 0, .int 0, .ref h1, .ref h2, .ref h3, .ref h4, .ref h5, .ref h6, .ref h7, .ref h8, .ref h9, .ref h10, .ref h11, .ref h12, .ref h13, .ref h14, .ref h15, .ref h16, .ref h17, .ref h18, .ref h19, .int 0, .ref h20, .ref h21, .ref h22, .ref h23, .int 0, .int 0, .ref h24, .ref h25, .int (-1), .ref h26, .ref h27]))] _ := hP
  have hD : va_D A [(h0, .inr (8, [.int 1, .int 0, .int (-1), .int 0, .int 0, .int (-1), .int 0, .int 0, .int 0, .int 0, .int 0, .ref h1, .ref h2, .ref h3, .ref h4, .ref h5, .ref h6, .ref h7, .ref h8, .ref h9, .ref h10, .ref h11, .ref h12, .ref h13, .ref h14, .ref h15, .ref h16, .ref h17, .ref h18, .ref h19, .int 0, .ref h20, .ref h21, .ref h22, .ref h23, .int 0, .int 0, .ref h24, .ref h25, .int (-1), .ref h26, .ref h27]))] := hD
  refine lv_if_ne (tgt := 241) hx hb dX11_reason_233 (by decide) (fun _ => ?_) (fun c_ => absurd c_ (by decide))
  refine lv_aload_n hx hb dX11_reason_241 rfl (lv_at hl 0 rfl) ?_
  refine va_get (D := G) (ci := 8) (v := .int 0) (C := RX11) (T := TX11) (N := 42) hx hb hts iX11 hown hK hP 0 rfl rfl 6 (by decide) (hw (.fieldLink RX11 115 "MotionFloorModel$Hall" "pending" "I") (List.mem_of_getElem? (i := 2) rfl)) (fun _ h9 => h9) rfl dX11_reason_242 ?_
  refine lv_if_le (tgt := 253) hx hb dX11_reason_245 (by decide) (fun _ => ?_) (fun c_ => absurd c_ (by decide))
  refine lv_iconst (v := 0) hx hb dX11_reason_253 (by decide) ?_
  have hP9 : va_P G vwCl [(h0, .inr (8, [.int 1, .int 0, .int (-1), .int 0, .int 0, .int (-1), .int 0, .int 0, .int 0, .int 0, .int 0, .ref h1, .ref h2, .ref h3, .ref h4, .ref h5, .ref h6, .ref h7, .ref h8, .ref h9, .ref h10, .ref h11, .ref h12, .ref h13, .ref h14, .ref h15, .ref h16, .ref h17, .ref h18, .ref h19, .int 0, .ref h20, .ref h21, .ref h22, .ref h23, .int 0, .int 0, .ref h24, .ref h25, .int (-1), .ref h26, .ref h27]))] _ := hP
  have hD9 : va_D A [(h0, .inr (8, [.int 1, .int 0, .int (-1), .int 0, .int 0, .int (-1), .int 0, .int 0, .int 0, .int 0, .int 0, .ref h1, .ref h2, .ref h3, .ref h4, .ref h5, .ref h6, .ref h7, .ref h8, .ref h9, .ref h10, .ref h11, .ref h12, .ref h13, .ref h14, .ref h15, .ref h16, .ref h17, .ref h18, .ref h19, .int 0, .ref h20, .ref h21, .ref h22, .ref h23, .int 0, .int 0, .ref h24, .ref h25, .int (-1), .ref h26, .ref h27]))] := hD
  exact W.iret (v := 0) hx hb hr (fun t ht hW => ⟨⟨0, _, rfl, ⟨rfl, rfl⟩, by rw [ht]; exact hP9, hD9⟩, hS.F ht⟩) hS.2.2 dX11_reason_254
def e_X11_act_11 : List Cond := [.methodLink RX11 196 yX11_reason, .instanceMethod yX11_reason, .selects RX11 yX11_reason yX11_reason, .initialized RX11, .fieldLink RX11 118 "MotionFloorModel$Hall" "entries" "I", .fieldLink RX11 127 "MotionFloorModel$Hall" "why" "I", .methodLink RX11 200 yX11_does, .instanceMethod yX11_does, .selects RX11 yX11_does yX11_does, .initialized RX12, .static yX12_numbers, .fieldLink RX11 90 "MotionFloorModel$Hall" "minutes" "[I"]
def v_X11_act_11 : List Cond := .code yX11_act cX11_act 10 (some .int) :: (e_X11_act_11 ++ (wsX110 ++ (v_X11_reason_11 ++ (v_X11_does_3 ++ (v_X12_numbers_3 ++ [])))))
theorem te_X11_act_11 : GoodIn lw_tbl e_X11_act_11 := wGc z364 (wGc z363 (wGc z362 (wGc z227 (wGc z201 (wGc z198 (wGc z361 (wGc z360 (wGc z359 (wGc z277 (wGc z358 (wGc z166 (wG0))))))))))))
theorem t_X11_act_11 : GoodIn lw_tbl v_X11_act_11 := wGc z365 (wGa te_X11_act_11 (wGa zcX11 (wGa t_X11_reason_11 (wGa t_X11_does_3 (wGa t_X12_numbers_3 (wG0))))))
set_option maxHeartbeats 4000000 in
set_option maxRecDepth 100000 in
theorem m_X11_act_11 (l : Launch) (G : va_G) (K : Nat → ClassId) (h0 h1 h2 h3 h4 h5 h6 h7 h8 h9 h10 h11 h12 h13 h14 h15 h16 h17 h18 h19 h20 h21 h22 h23 h24 h25 h26 h27 : Nat) (p0 : Int32) (sz : Nat) (bp0 : 0 ≤ p0.toInt ∧ p0.toInt ≤ 99) : Met l yX11_act v_X11_act_11 ({ frames := 2, cells := 0, slots := 0, locals := 47 }) (va_Pc [.ref h0, .int 6, .int p0, .int 0, .int 0, .int 0] (wS G K sz [(h0, .inr (8, [.int 1, .int 0, .int (-1), .int 0, .int 0, .int (-1), .int 0, .int 0, .int 0, .int 0, .int 0, .ref h2, .ref h3, .ref h4, .ref h5, .ref h6, .ref h7, .ref h8, .ref h9, .ref h10, .ref h11, .ref h12, .ref h13, .ref h14, .ref h15, .ref h16, .ref h17, .ref h18, .ref h19, .ref h20, .int 0, .ref h21, .ref h22, .ref h23, .ref h24, .int 0, .int 0, .ref h25, .ref h26, .int (-1), .ref h1, .ref h27])), (h1, .inl (K 0, 3600, .inl (fun _ => 0)))])) (va_Qi (fun (r : Int32) (u : va_W) => (p0 = r ∧ u = [(h0, .inr (8, [.int 1, .int 0, .int (-1), .int 0, .int p0, .int (-1), .int 0, .int 1, .int 0, .int 0, .int 0, .ref h2, .ref h3, .ref h4, .ref h5, .ref h6, .ref h7, .ref h8, .ref h9, .ref h10, .ref h11, .ref h12, .ref h13, .ref h14, .ref h15, .ref h16, .ref h17, .ref h18, .ref h19, .ref h20, .int 0, .ref h21, .ref h22, .ref h23, .ref h24, .int 0, .int 0, .ref h25, .ref h26, .int (-1), .ref h1, .ref h27])), (h1, .inl (K 0, 3600, .inl (upd (upd (upd (upd (upd (upd (fun _ => 0) 0 6) 1 p0) 2 0) 3 0) 4 0) 5 p0)))])) (wB G (va_A [(h0, .inr (8, [.int 1, .int 0, .int (-1), .int 0, .int 0, .int (-1), .int 0, .int 0, .int 0, .int 0, .int 0, .ref h2, .ref h3, .ref h4, .ref h5, .ref h6, .ref h7, .ref h8, .ref h9, .ref h10, .ref h11, .ref h12, .ref h13, .ref h14, .ref h15, .ref h16, .ref h17, .ref h18, .ref h19, .ref h20, .int 0, .ref h21, .ref h22, .ref h23, .ref h24, .int 0, .int 0, .ref h25, .ref h26, .int (-1), .ref h1, .ref h27])), (h1, .inl (K 0, 3600, .inl (fun _ => 0)))] sz)) (va_A [(h0, .inr (8, [.int 1, .int 0, .int (-1), .int 0, .int 0, .int (-1), .int 0, .int 0, .int 0, .int 0, .int 0, .ref h2, .ref h3, .ref h4, .ref h5, .ref h6, .ref h7, .ref h8, .ref h9, .ref h10, .ref h11, .ref h12, .ref h13, .ref h14, .ref h15, .ref h16, .ref h17, .ref h18, .ref h19, .ref h20, .int 0, .ref h21, .ref h22, .ref h23, .ref h24, .int 0, .int 0, .ref h25, .ref h26, .int (-1), .ref h1, .ref h27])), (h1, .inl (K 0, 3600, .inl (fun _ => 0)))] sz)) 0 0 (va_A [(h0, .inr (8, [.int 1, .int 0, .int (-1), .int 0, .int 0, .int (-1), .int 0, .int 0, .int 0, .int 0, .int 0, .ref h2, .ref h3, .ref h4, .ref h5, .ref h6, .ref h7, .ref h8, .ref h9, .ref h10, .ref h11, .ref h12, .ref h13, .ref h14, .ref h15, .ref h16, .ref h17, .ref h18, .ref h19, .ref h20, .int 0, .ref h21, .ref h22, .ref h23, .ref h24, .int 0, .int 0, .ref h25, .ref h26, .int (-1), .ref h1, .ref h27])), (h1, .inl (K 0, 3600, .inl (fun _ => 0)))] sz) := by
  refine Met.ofW (cc := cX11_act) (maxL := 10) (ret := (some .int)) (by decide) rfl ?_
  intro p e s m args below meth c s₁ B hml hv
  obtain ⟨rfl, hsz, hP, hK, hD0, hE⟩ := hv
  have hx := B.exec
  have hb := B.bytes
  have hr := B.returns
  have hts := atoms_spec (ws := v_X11_act_11) B.pre
  have t_ := t_X11_act_11
  have mw : ∀ w ∈ e_X11_act_11, w ∈ v_X11_act_11 := fun w h => List.mem_cons_of_mem _ (List.mem_append_left _ h)
  have hw := fun w (h : w ∈ e_X11_act_11) => hts w (mw w h)
  have iX11 : ∀ w ∈ wsX110, w ∈ v_X11_act_11 := fun w h => List.mem_cons_of_mem _ (List.mem_append_right _ (List.mem_append_left _ h))
  have j_X11_reason_11 : ∀ w ∈ v_X11_reason_11, w ∈ v_X11_act_11 := fun w h => List.mem_cons_of_mem _ (List.mem_append_right _ (List.mem_append_right _ (List.mem_append_left _ h)))
  have j_X11_does_3 : ∀ w ∈ v_X11_does_3, w ∈ v_X11_act_11 := fun w h => List.mem_cons_of_mem _ (List.mem_append_right _ (List.mem_append_right _ (List.mem_append_right _ (List.mem_append_left _ h))))
  have j_X12_numbers_3 : ∀ w ∈ v_X12_numbers_3, w ∈ v_X11_act_11 := fun w h => List.mem_cons_of_mem _ (List.mem_append_right _ (List.mem_append_right _ (List.mem_append_right _ (List.mem_append_right _ (List.mem_append_left _ h)))))
  have hown : s.vm.findClass RX11 = some m.cls := findClass_of_methodNamed B.named
  have hlocks := B.notSynchronized
  subst hsz
  have hD := hD0.self (sz := s.heap.size)
  generalize hAe : va_A [(h0, .inr (8, [.int 1, .int 0, .int (-1), .int 0, .int 0, .int (-1), .int 0, .int 0, .int 0, .int 0, .int 0, .ref h2, .ref h3, .ref h4, .ref h5, .ref h6, .ref h7, .ref h8, .ref h9, .ref h10, .ref h11, .ref h12, .ref h13, .ref h14, .ref h15, .ref h16, .ref h17, .ref h18, .ref h19, .ref h20, .int 0, .ref h21, .ref h22, .ref h23, .ref h24, .int 0, .int 0, .ref h25, .ref h26, .int (-1), .ref h1, .ref h27])), (h1, .inl (K 0, 3600, .inl (fun _ => 0)))] s.heap.size = A at hD ⊢
  have hA : ∀ q : Nat, s.heap.size ≤ q → A q := fun q h => by rw [← hAe]; exact Or.inr h
  have hS : va_S A s.heap s.heap [] := va_S.rf
  have hP : va_P G vwCl [(h0, .inr (8, [.int 1, .int 0, .int (-1), .int 0, .int 0, .int (-1), .int 0, .int 0, .int 0, .int 0, .int 0, .ref h2, .ref h3, .ref h4, .ref h5, .ref h6, .ref h7, .ref h8, .ref h9, .ref h10, .ref h11, .ref h12, .ref h13, .ref h14, .ref h15, .ref h16, .ref h17, .ref h18, .ref h19, .ref h20, .int 0, .ref h21, .ref h22, .ref h23, .ref h24, .int 0, .int 0, .ref h25, .ref h26, .int (-1), .ref h1, .ref h27])), (h1, .inl (K 0, 3600, .inl (fun _ => 0)))] s.heap := hP
  have hl := lv_entry ([.ref h0, .int 6, .int p0, .int 0, .int 0, .int 0]) (n := 10) (Nat.le_of_ble_eq_true rfl)
  rw [lg_entry_eq]
  generalize (lg_sl ([.ref h0, .int 6, .int p0, .int 0, .int 0, .int 0]) ++ List.replicate (10 - (lg_sl ([.ref h0, .int 6, .int p0, .int 0, .int 0, .int 0])).length) Slot.unset).toArray = ls at hl ⊢
  have hl : lv_has ls 10 [(0, .ref h0), (1, .int 6), (2, .int p0), (3, .int 0), (4, .int 0), (5, .int 0)] := hl
  refine lv_aload_n hx hb dX11_act_0 rfl (lv_at hl 0 rfl) ?_
  refine lv_iload_n hx hb dX11_act_1 rfl (lv_at hl 1 rfl) ?_
  refine lv_iload_n hx hb dX11_act_2 rfl (lv_at hl 2 rfl) ?_
  refine lv_iload_n hx hb dX11_act_3 rfl (lv_at hl 3 rfl) ?_
  refine lv_iload hx hb dX11_act_4 (lv_at hl 4 rfl) ?_
  refine lv_iload hx hb dX11_act_6 (lv_at hl 5 rfl) ?_
  have hPc := hP.sub (ws' := [(h0, .inr (8, [.int 1, .int 0, .int (-1), .int 0, .int 0, .int (-1), .int 0, .int 0, .int 0, .int 0, .int 0, .ref h2, .ref h3, .ref h4, .ref h5, .ref h6, .ref h7, .ref h8, .ref h9, .ref h10, .ref h11, .ref h12, .ref h13, .ref h14, .ref h15, .ref h16, .ref h17, .ref h18, .ref h19, .ref h20, .int 0, .ref h21, .ref h22, .ref h23, .ref h24, .int 0, .int 0, .ref h25, .ref h26, .int (-1), .ref h1, .ref h27]))]) [0] rfl
  have hDc := hD.sub (ws' := [(h0, .inr (8, [.int 1, .int 0, .int (-1), .int 0, .int 0, .int (-1), .int 0, .int 0, .int 0, .int 0, .int 0, .ref h2, .ref h3, .ref h4, .ref h5, .ref h6, .ref h7, .ref h8, .ref h9, .ref h10, .ref h11, .ref h12, .ref h13, .ref h14, .ref h15, .ref h16, .ref h17, .ref h18, .ref h19, .ref h20, .int 0, .ref h21, .ref h22, .ref h23, .ref h24, .int 0, .int 0, .ref h25, .ref h26, .int (-1), .ref h1, .ref h27]))]) [0] (by decide) rfl
  refine wGoi (wc := [(h0, .inr (8, [.int 1, .int 0, .int (-1), .int 0, .int 0, .int (-1), .int 0, .int 0, .int 0, .int 0, .int 0, .ref h2, .ref h3, .ref h4, .ref h5, .ref h6, .ref h7, .ref h8, .ref h9, .ref h10, .ref h11, .ref h12, .ref h13, .ref h14, .ref h15, .ref h16, .ref h17, .ref h18, .ref h19, .ref h20, .int 0, .ref h21, .ref h22, .ref h23, .ref h24, .int 0, .int 0, .ref h25, .ref h26, .int (-1), .ref h1, .ref h27]))]) (wr := [(h1, .inl (K 0, 3600, .inl (fun _ => 0)))]) (va_runV (As := [.int 6, .int p0, .int 0, .int 0, .int 0]) (rest := []) ⟨hx, hb, hml, hown, hts⟩ (m_X11_reason_11 l G K h0 h2 h3 h4 h5 h6 h7 h8 h9 h10 h11 h12 h13 h14 h15 h16 h17 h18 h19 h20 h21 h22 h23 h24 h25 h26 h1 h27 p0 _ (by omega)) (cwV 5 hts (wGV t_ (mw (.methodLink RX11 196 yX11_reason) (List.mem_of_getElem? (i := 0) rfl)) (mw (.instanceMethod yX11_reason) (List.mem_of_getElem? (i := 1) rfl)) (mw (.selects RX11 yX11_reason yX11_reason) (List.mem_of_getElem? (i := 2) rfl)) (mw (.initialized RX11) (List.mem_of_getElem? (i := 3) rfl)) j_X11_reason_11) rfl rfl rfl (by decide +kernel) ⟨Nat.le_of_ble_eq_true rfl, Nat.le_of_ble_eq_true rfl⟩) (wPV hK hE hPc hDc 8 0 rfl rfl) rfl rfl hl.1 rfl (lv_room (Nat.le_of_ble_eq_true rfl)) dX11_act_8 ⟨Nat.le_of_ble_eq_true rfl, Nat.le_of_ble_eq_true rfl⟩) hP hD hS hA [0] [1] rfl rfl rfl (by decide) (fun r u H locs hw hP hD hS => ?_)
  rcases hw with ⟨rfl, rfl⟩
  have hP : va_P G vwCl [(h1, .inl (K 0, 3600, .inl (fun _ => 0))), (h0, .inr (8, [.int 1, .int 0, .int (-1), .int 0, .int 0, .int (-1), .int 0, .int 0, .int 0, .int 0, .int 0, .ref h2, .ref h3, .ref h4, .ref h5, .ref h6, .ref h7, .ref h8, .ref h9, .ref h10, .ref h11, .ref h12, .ref h13, .ref h14, .ref h15, .ref h16, .ref h17, .ref h18, .ref h19, .ref h20, .int 0, .ref h21, .ref h22, .ref h23, .ref h24, .int 0, .int 0, .ref h25, .ref h26, .int (-1), .ref h1, .ref h27]))] _ := hP
  have hD : va_D A [(h1, .inl (K 0, 3600, .inl (fun _ => 0))), (h0, .inr (8, [.int 1, .int 0, .int (-1), .int 0, .int 0, .int (-1), .int 0, .int 0, .int 0, .int 0, .int 0, .ref h2, .ref h3, .ref h4, .ref h5, .ref h6, .ref h7, .ref h8, .ref h9, .ref h10, .ref h11, .ref h12, .ref h13, .ref h14, .ref h15, .ref h16, .ref h17, .ref h18, .ref h19, .ref h20, .int 0, .ref h21, .ref h22, .ref h23, .ref h24, .int 0, .int 0, .ref h25, .ref h26, .int (-1), .ref h1, .ref h27]))] := hD
  refine lv_istore (lv' := [(6, .int 0), (0, .ref h0), (1, .int 6), (2, .int p0), (3, .int 0), (4, .int 0), (5, .int 0)]) hx hb dX11_act_11 hl (by decide) rfl (fun ls hl => ?_)
  refine lv_iload hx hb dX11_act_13 (lv_at hl 0 rfl) ?_
  refine lv_if_ne (tgt := 32) hx hb dX11_act_15 (by decide) (fun c_ => absurd c_ (by decide)) (fun _ => ?_)
  refine lv_aload_n hx hb dX11_act_18 rfl (lv_at hl 1 rfl) ?_
  refine va_get (D := G) (ci := 8) (v := .int 0) (C := RX11) (T := TX11) (N := 42) hx hb hts iX11 hown hK hP 1 rfl rfl 7 (by decide) (hw (.fieldLink RX11 118 "MotionFloorModel$Hall" "entries" "I") (List.mem_of_getElem? (i := 4) rfl)) (fun _ h9 => h9) rfl dX11_act_19 ?_
  refine lv_sipush (v := 600) hx hb dX11_act_22 (by decide) ?_
  refine lv_icmp_ne (tgt := 32) hx hb dX11_act_25 (by decide) (fun _ => ?_) (fun c_ => absurd c_ (by decide))
  refine lv_aload_n hx hb dX11_act_32 rfl (lv_at hl 1 rfl) ?_
  refine lv_iload hx hb dX11_act_33 (lv_at hl 0 rfl) ?_
  refine va_put (D := G) (ci := 8) (v := .int 0) (ty := .int) (C := RX11) (T := TX11) (N := 42) hx hb hts iX11 tyX11 tyX11_ok nmX11 hown hK hP hD hS 1 rfl rfl 10 (by decide) (hw (.fieldLink RX11 127 "MotionFloorModel$Hall" "why" "I") (List.mem_of_getElem? (i := 5) rfl)) (fun _ h9 => h9) rfl (by decide +kernel) rfl rfl (Nat.le_of_ble_eq_true rfl) dX11_act_35 (fun H locs hP hD hS => ?_)
  have hP : va_P G vwCl [(h1, .inl (K 0, 3600, .inl (fun _ => 0))), (h0, .inr (8, [.int 1, .int 0, .int (-1), .int 0, .int 0, .int (-1), .int 0, .int 0, .int 0, .int 0, .int 0, .ref h2, .ref h3, .ref h4, .ref h5, .ref h6, .ref h7, .ref h8, .ref h9, .ref h10, .ref h11, .ref h12, .ref h13, .ref h14, .ref h15, .ref h16, .ref h17, .ref h18, .ref h19, .ref h20, .int 0, .ref h21, .ref h22, .ref h23, .ref h24, .int 0, .int 0, .ref h25, .ref h26, .int (-1), .ref h1, .ref h27]))] _ := hP
  have hD : va_D A [(h1, .inl (K 0, 3600, .inl (fun _ => 0))), (h0, .inr (8, [.int 1, .int 0, .int (-1), .int 0, .int 0, .int (-1), .int 0, .int 0, .int 0, .int 0, .int 0, .ref h2, .ref h3, .ref h4, .ref h5, .ref h6, .ref h7, .ref h8, .ref h9, .ref h10, .ref h11, .ref h12, .ref h13, .ref h14, .ref h15, .ref h16, .ref h17, .ref h18, .ref h19, .ref h20, .int 0, .ref h21, .ref h22, .ref h23, .ref h24, .int 0, .int 0, .ref h25, .ref h26, .int (-1), .ref h1, .ref h27]))] := hD
  refine lv_iload hx hb dX11_act_38 (lv_at hl 0 rfl) ?_
  refine lv_if_le (tgt := 47) hx hb dX11_act_40 (by decide) (fun _ => ?_) (fun c_ => absurd c_ (by decide))
  refine lv_aload_n hx hb dX11_act_47 rfl (lv_at hl 1 rfl) ?_
  refine lv_iload_n hx hb dX11_act_48 rfl (lv_at hl 2 rfl) ?_
  refine lv_iload_n hx hb dX11_act_49 rfl (lv_at hl 3 rfl) ?_
  refine lv_iload_n hx hb dX11_act_50 rfl (lv_at hl 4 rfl) ?_
  refine lv_iload hx hb dX11_act_51 (lv_at hl 5 rfl) ?_
  refine lv_iload hx hb dX11_act_53 (lv_at hl 6 rfl) ?_
  have hPc := hP.sub (ws' := [(h0, .inr (8, [.int 1, .int 0, .int (-1), .int 0, .int 0, .int (-1), .int 0, .int 0, .int 0, .int 0, .int 0, .ref h2, .ref h3, .ref h4, .ref h5, .ref h6, .ref h7, .ref h8, .ref h9, .ref h10, .ref h11, .ref h12, .ref h13, .ref h14, .ref h15, .ref h16, .ref h17, .ref h18, .ref h19, .ref h20, .int 0, .ref h21, .ref h22, .ref h23, .ref h24, .int 0, .int 0, .ref h25, .ref h26, .int (-1), .ref h1, .ref h27]))]) [1] rfl
  have hDc := hD.sub (ws' := [(h0, .inr (8, [.int 1, .int 0, .int (-1), .int 0, .int 0, .int (-1), .int 0, .int 0, .int 0, .int 0, .int 0, .ref h2, .ref h3, .ref h4, .ref h5, .ref h6, .ref h7, .ref h8, .ref h9, .ref h10, .ref h11, .ref h12, .ref h13, .ref h14, .ref h15, .ref h16, .ref h17, .ref h18, .ref h19, .ref h20, .int 0, .ref h21, .ref h22, .ref h23, .ref h24, .int 0, .int 0, .ref h25, .ref h26, .int (-1), .ref h1, .ref h27]))]) [1] (by decide) rfl
  refine wGoi (wc := [(h0, .inr (8, [.int 1, .int 0, .int (-1), .int 0, .int 0, .int (-1), .int 0, .int 0, .int 0, .int 0, .int 0, .ref h2, .ref h3, .ref h4, .ref h5, .ref h6, .ref h7, .ref h8, .ref h9, .ref h10, .ref h11, .ref h12, .ref h13, .ref h14, .ref h15, .ref h16, .ref h17, .ref h18, .ref h19, .ref h20, .int 0, .ref h21, .ref h22, .ref h23, .ref h24, .int 0, .int 0, .ref h25, .ref h26, .int (-1), .ref h1, .ref h27]))]) (wr := [(h1, .inl (K 0, 3600, .inl (fun _ => 0)))]) (va_runV (As := [.int 6, .int p0, .int 0, .int 0, .int 0]) (rest := []) ⟨hx, hb, hml, hown, hts⟩ (m_X11_does_3 l G K h0 h2 h3 h4 h5 h6 h7 h8 h9 h10 h11 h12 h13 h14 h15 h16 h17 h18 h19 h20 h21 h22 h23 h24 h25 h26 h1 h27 p0 _ (by omega)) (cwV 5 hts (wGV t_ (mw (.methodLink RX11 200 yX11_does) (List.mem_of_getElem? (i := 6) rfl)) (mw (.instanceMethod yX11_does) (List.mem_of_getElem? (i := 7) rfl)) (mw (.selects RX11 yX11_does yX11_does) (List.mem_of_getElem? (i := 8) rfl)) (mw (.initialized RX11) (List.mem_of_getElem? (i := 3) rfl)) j_X11_does_3) rfl rfl rfl (by decide +kernel) ⟨Nat.le_of_ble_eq_true rfl, Nat.le_of_ble_eq_true rfl⟩) (wPV hK hE hPc hDc 8 0 rfl rfl) rfl rfl hl.1 rfl (lv_room (Nat.le_of_ble_eq_true rfl)) dX11_act_55 ⟨Nat.le_of_ble_eq_true rfl, Nat.le_of_ble_eq_true rfl⟩) hP hD hS hA [1] [0] rfl rfl rfl (by decide) (fun r u H locs hw hP hD hS => ?_)
  rcases hw with ⟨rfl, rfl⟩
  have hP : va_P G vwCl [(h1, .inl (K 0, 3600, .inl (fun _ => 0))), (h0, .inr (8, [.int 1, .int 0, .int (-1), .int 0, .int p0, .int (-1), .int 0, .int 0, .int 0, .int 0, .int 0, .ref h2, .ref h3, .ref h4, .ref h5, .ref h6, .ref h7, .ref h8, .ref h9, .ref h10, .ref h11, .ref h12, .ref h13, .ref h14, .ref h15, .ref h16, .ref h17, .ref h18, .ref h19, .ref h20, .int 0, .ref h21, .ref h22, .ref h23, .ref h24, .int 0, .int 0, .ref h25, .ref h26, .int (-1), .ref h1, .ref h27]))] _ := hP
  have hD : va_D A [(h1, .inl (K 0, 3600, .inl (fun _ => 0))), (h0, .inr (8, [.int 1, .int 0, .int (-1), .int 0, .int p0, .int (-1), .int 0, .int 0, .int 0, .int 0, .int 0, .ref h2, .ref h3, .ref h4, .ref h5, .ref h6, .ref h7, .ref h8, .ref h9, .ref h10, .ref h11, .ref h12, .ref h13, .ref h14, .ref h15, .ref h16, .ref h17, .ref h18, .ref h19, .ref h20, .int 0, .ref h21, .ref h22, .ref h23, .ref h24, .int 0, .int 0, .ref h25, .ref h26, .int (-1), .ref h1, .ref h27]))] := hD
  refine lv_istore (lv' := [(7, .int p0), (6, .int 0), (0, .ref h0), (1, .int 6), (2, .int p0), (3, .int 0), (4, .int 0), (5, .int 0)]) hx hb dX11_act_58 hl (by decide) rfl (fun ls hl => ?_)
  refine lv_bipush (v := 6) hx hb dX11_act_60 (by decide) ?_
  refine lv_aload_n hx hb dX11_act_62 rfl (lv_at hl 2 rfl) ?_
  refine va_get (D := G) (ci := 8) (v := .int 0) (C := RX11) (T := TX11) (N := 42) hx hb hts iX11 hown hK hP 1 rfl rfl 7 (by decide) (hw (.fieldLink RX11 118 "MotionFloorModel$Hall" "entries" "I") (List.mem_of_getElem? (i := 4) rfl)) (fun _ h9 => h9) rfl dX11_act_63 ?_
  refine lv_imul hx hb dX11_act_66 ?_
  refine wTop (v1 := .int 0) (congrArg Value.int (by decide)) ?_
  refine lv_istore (lv' := [(8, .int 0), (7, .int p0), (6, .int 0), (0, .ref h0), (1, .int 6), (2, .int p0), (3, .int 0), (4, .int 0), (5, .int 0)]) hx hb dX11_act_67 hl (by decide) rfl (fun ls hl => ?_)
  refine lv_iload_n hx hb dX11_act_69 rfl (lv_at hl 4 rfl) ?_
  have hPc := hP.sub (ws' := []) [] rfl
  have hDc := hD.sub (ws' := []) [] (by decide) rfl
  refine wGoi (wc := []) (wr := [(h1, .inl (K 0, 3600, .inl (fun _ => 0))), (h0, .inr (8, [.int 1, .int 0, .int (-1), .int 0, .int p0, .int (-1), .int 0, .int 0, .int 0, .int 0, .int 0, .ref h2, .ref h3, .ref h4, .ref h5, .ref h6, .ref h7, .ref h8, .ref h9, .ref h10, .ref h11, .ref h12, .ref h13, .ref h14, .ref h15, .ref h16, .ref h17, .ref h18, .ref h19, .ref h20, .int 0, .ref h21, .ref h22, .ref h23, .ref h24, .int 0, .int 0, .ref h25, .ref h26, .int (-1), .ref h1, .ref h27]))]) (va_runSN (As := [.int 6]) (rest := []) ⟨hx, hb, hml, hown, hts⟩ (m_X12_numbers_3 l G K _) ⟨va_cnB (host := "MotionFloorModel") 1 hts (wGP t_ j_X12_numbers_3) rfl rfl rfl hE.2.2.2.2.2.2.2.2.2.2 (hw (.initialized RX12) (List.mem_of_getElem? (i := 9) rfl)) (by decide +kernel) ⟨Nat.le_of_ble_eq_true rfl, Nat.le_of_ble_eq_true rfl⟩, (hw (.static yX12_numbers) (List.mem_of_getElem? (i := 10) rfl)), trivial⟩ (wPS hK hE hPc hDc) rfl rfl hl.1 rfl (lv_room (Nat.le_of_ble_eq_true rfl)) dX11_act_70 ⟨Nat.le_of_ble_eq_true rfl, Nat.le_of_ble_eq_true rfl⟩) hP hD hS hA [] [0, 1] rfl rfl rfl (by decide) (fun r u H locs hw hP hD hS => ?_)
  rcases hw with ⟨rfl, rfl⟩
  have hP : va_P G vwCl [(h1, .inl (K 0, 3600, .inl (fun _ => 0))), (h0, .inr (8, [.int 1, .int 0, .int (-1), .int 0, .int p0, .int (-1), .int 0, .int 0, .int 0, .int 0, .int 0, .ref h2, .ref h3, .ref h4, .ref h5, .ref h6, .ref h7, .ref h8, .ref h9, .ref h10, .ref h11, .ref h12, .ref h13, .ref h14, .ref h15, .ref h16, .ref h17, .ref h18, .ref h19, .ref h20, .int 0, .ref h21, .ref h22, .ref h23, .ref h24, .int 0, .int 0, .ref h25, .ref h26, .int (-1), .ref h1, .ref h27]))] _ := hP
  have hD : va_D A [(h1, .inl (K 0, 3600, .inl (fun _ => 0))), (h0, .inr (8, [.int 1, .int 0, .int (-1), .int 0, .int p0, .int (-1), .int 0, .int 0, .int 0, .int 0, .int 0, .ref h2, .ref h3, .ref h4, .ref h5, .ref h6, .ref h7, .ref h8, .ref h9, .ref h10, .ref h11, .ref h12, .ref h13, .ref h14, .ref h15, .ref h16, .ref h17, .ref h18, .ref h19, .ref h20, .int 0, .ref h21, .ref h22, .ref h23, .ref h24, .int 0, .int 0, .ref h25, .ref h26, .int (-1), .ref h1, .ref h27]))] := hD
  refine lv_istore (lv' := [(9, .int 1), (8, .int 0), (7, .int p0), (6, .int 0), (0, .ref h0), (1, .int 6), (2, .int p0), (3, .int 0), (4, .int 0), (5, .int 0)]) hx hb dX11_act_73 hl (by decide) rfl (fun ls hl => ?_)
  refine lv_aload_n hx hb dX11_act_75 rfl (lv_at hl 4 rfl) ?_
  refine va_get (D := G) (ci := 8) (v := .ref h1) (C := RX11) (T := TX11) (N := 42) hx hb hts iX11 hown hK hP 1 rfl rfl 40 (by decide) (hw (.fieldLink RX11 90 "MotionFloorModel$Hall" "minutes" "[I") (List.mem_of_getElem? (i := 11) rfl)) (fun _ h9 => h9) rfl dX11_act_76 ?_
  refine lv_iload hx hb dX11_act_79 (lv_at hl 1 rfl) ?_
  refine lv_iload_n hx hb dX11_act_81 rfl (lv_at hl 5 rfl) ?_
  refine va_iast hx hb hK hP hD hS 0 0 rfl rfl (vp_in_iff.mpr (by decide)) dX11_act_82 (fun H locs hP hD hS => ?_)
  have hP : va_P G vwCl [(h1, .inl (K 0, 3600, .inl (upd (fun _ => 0) 0 6))), (h0, .inr (8, [.int 1, .int 0, .int (-1), .int 0, .int p0, .int (-1), .int 0, .int 0, .int 0, .int 0, .int 0, .ref h2, .ref h3, .ref h4, .ref h5, .ref h6, .ref h7, .ref h8, .ref h9, .ref h10, .ref h11, .ref h12, .ref h13, .ref h14, .ref h15, .ref h16, .ref h17, .ref h18, .ref h19, .ref h20, .int 0, .ref h21, .ref h22, .ref h23, .ref h24, .int 0, .int 0, .ref h25, .ref h26, .int (-1), .ref h1, .ref h27]))] _ := hP
  have hD : va_D A [(h1, .inl (K 0, 3600, .inl (upd (fun _ => 0) 0 6))), (h0, .inr (8, [.int 1, .int 0, .int (-1), .int 0, .int p0, .int (-1), .int 0, .int 0, .int 0, .int 0, .int 0, .ref h2, .ref h3, .ref h4, .ref h5, .ref h6, .ref h7, .ref h8, .ref h9, .ref h10, .ref h11, .ref h12, .ref h13, .ref h14, .ref h15, .ref h16, .ref h17, .ref h18, .ref h19, .ref h20, .int 0, .ref h21, .ref h22, .ref h23, .ref h24, .int 0, .int 0, .ref h25, .ref h26, .int (-1), .ref h1, .ref h27]))] := hD
  refine lv_aload_n hx hb dX11_act_83 rfl (lv_at hl 4 rfl) ?_
  refine va_get (D := G) (ci := 8) (v := .ref h1) (C := RX11) (T := TX11) (N := 42) hx hb hts iX11 hown hK hP 1 rfl rfl 40 (by decide) (hw (.fieldLink RX11 90 "MotionFloorModel$Hall" "minutes" "[I") (List.mem_of_getElem? (i := 11) rfl)) (fun _ h9 => h9) rfl dX11_act_84 ?_
  refine lv_iload hx hb dX11_act_87 (lv_at hl 1 rfl) ?_
  refine lv_iconst (v := 1) hx hb dX11_act_89 (by decide) ?_
  refine lv_iadd hx hb dX11_act_90 ?_
  refine wTop (v1 := .int 1) (congrArg Value.int (by decide)) ?_
  refine lv_iload hx hb dX11_act_91 (lv_at hl 0 rfl) ?_
  refine lv_if_le (tgt := 100) hx hb dX11_act_93 (by decide) (fun c_ => absurd c_ (by decide)) (fun _ => ?_)
  refine lv_iload_n hx hb dX11_act_96 rfl (lv_at hl 6 rfl) ?_
  refine lv_goto (tgt := 101) hx hb dX11_act_97 (by decide) ?_
  refine va_iast hx hb hK hP hD hS 0 0 rfl rfl (vp_in_iff.mpr (by decide)) dX11_act_101 (fun H locs hP hD hS => ?_)
  have hP : va_P G vwCl [(h1, .inl (K 0, 3600, .inl (upd (upd (fun _ => 0) 0 6) 1 p0))), (h0, .inr (8, [.int 1, .int 0, .int (-1), .int 0, .int p0, .int (-1), .int 0, .int 0, .int 0, .int 0, .int 0, .ref h2, .ref h3, .ref h4, .ref h5, .ref h6, .ref h7, .ref h8, .ref h9, .ref h10, .ref h11, .ref h12, .ref h13, .ref h14, .ref h15, .ref h16, .ref h17, .ref h18, .ref h19, .ref h20, .int 0, .ref h21, .ref h22, .ref h23, .ref h24, .int 0, .int 0, .ref h25, .ref h26, .int (-1), .ref h1, .ref h27]))] _ := hP
  have hD : va_D A [(h1, .inl (K 0, 3600, .inl (upd (upd (fun _ => 0) 0 6) 1 p0))), (h0, .inr (8, [.int 1, .int 0, .int (-1), .int 0, .int p0, .int (-1), .int 0, .int 0, .int 0, .int 0, .int 0, .ref h2, .ref h3, .ref h4, .ref h5, .ref h6, .ref h7, .ref h8, .ref h9, .ref h10, .ref h11, .ref h12, .ref h13, .ref h14, .ref h15, .ref h16, .ref h17, .ref h18, .ref h19, .ref h20, .int 0, .ref h21, .ref h22, .ref h23, .ref h24, .int 0, .int 0, .ref h25, .ref h26, .int (-1), .ref h1, .ref h27]))] := hD
  refine lv_aload_n hx hb dX11_act_102 rfl (lv_at hl 4 rfl) ?_
  refine va_get (D := G) (ci := 8) (v := .ref h1) (C := RX11) (T := TX11) (N := 42) hx hb hts iX11 hown hK hP 1 rfl rfl 40 (by decide) (hw (.fieldLink RX11 90 "MotionFloorModel$Hall" "minutes" "[I") (List.mem_of_getElem? (i := 11) rfl)) (fun _ h9 => h9) rfl dX11_act_103 ?_
  refine lv_iload hx hb dX11_act_106 (lv_at hl 1 rfl) ?_
  refine lv_iconst (v := 2) hx hb dX11_act_108 (by decide) ?_
  refine lv_iadd hx hb dX11_act_109 ?_
  refine wTop (v1 := .int 2) (congrArg Value.int (by decide)) ?_
  refine lv_iload hx hb dX11_act_110 (lv_at hl 0 rfl) ?_
  refine lv_iconst (v := 1) hx hb dX11_act_112 (by decide) ?_
  refine lv_icmp_le (tgt := 120) hx hb dX11_act_113 (by decide) (fun _ => ?_) (fun c_ => absurd c_ (by decide))
  refine lv_iconst (v := 0) hx hb dX11_act_120 (by decide) ?_
  refine va_iast hx hb hK hP hD hS 0 0 rfl rfl (vp_in_iff.mpr (by decide)) dX11_act_121 (fun H locs hP hD hS => ?_)
  have hP : va_P G vwCl [(h1, .inl (K 0, 3600, .inl (upd (upd (upd (fun _ => 0) 0 6) 1 p0) 2 0))), (h0, .inr (8, [.int 1, .int 0, .int (-1), .int 0, .int p0, .int (-1), .int 0, .int 0, .int 0, .int 0, .int 0, .ref h2, .ref h3, .ref h4, .ref h5, .ref h6, .ref h7, .ref h8, .ref h9, .ref h10, .ref h11, .ref h12, .ref h13, .ref h14, .ref h15, .ref h16, .ref h17, .ref h18, .ref h19, .ref h20, .int 0, .ref h21, .ref h22, .ref h23, .ref h24, .int 0, .int 0, .ref h25, .ref h26, .int (-1), .ref h1, .ref h27]))] _ := hP
  have hD : va_D A [(h1, .inl (K 0, 3600, .inl (upd (upd (upd (fun _ => 0) 0 6) 1 p0) 2 0))), (h0, .inr (8, [.int 1, .int 0, .int (-1), .int 0, .int p0, .int (-1), .int 0, .int 0, .int 0, .int 0, .int 0, .ref h2, .ref h3, .ref h4, .ref h5, .ref h6, .ref h7, .ref h8, .ref h9, .ref h10, .ref h11, .ref h12, .ref h13, .ref h14, .ref h15, .ref h16, .ref h17, .ref h18, .ref h19, .ref h20, .int 0, .ref h21, .ref h22, .ref h23, .ref h24, .int 0, .int 0, .ref h25, .ref h26, .int (-1), .ref h1, .ref h27]))] := hD
  refine lv_aload_n hx hb dX11_act_122 rfl (lv_at hl 4 rfl) ?_
  refine va_get (D := G) (ci := 8) (v := .ref h1) (C := RX11) (T := TX11) (N := 42) hx hb hts iX11 hown hK hP 1 rfl rfl 40 (by decide) (hw (.fieldLink RX11 90 "MotionFloorModel$Hall" "minutes" "[I") (List.mem_of_getElem? (i := 11) rfl)) (fun _ h9 => h9) rfl dX11_act_123 ?_
  refine lv_iload hx hb dX11_act_126 (lv_at hl 1 rfl) ?_
  refine lv_iconst (v := 3) hx hb dX11_act_128 (by decide) ?_
  refine lv_iadd hx hb dX11_act_129 ?_
  refine wTop (v1 := .int 3) (congrArg Value.int (by decide)) ?_
  refine lv_iload hx hb dX11_act_130 (lv_at hl 0 rfl) ?_
  refine lv_iconst (v := 2) hx hb dX11_act_132 (by decide) ?_
  refine lv_icmp_le (tgt := 141) hx hb dX11_act_133 (by decide) (fun _ => ?_) (fun c_ => absurd c_ (by decide))
  refine lv_iconst (v := 0) hx hb dX11_act_141 (by decide) ?_
  refine va_iast hx hb hK hP hD hS 0 0 rfl rfl (vp_in_iff.mpr (by decide)) dX11_act_142 (fun H locs hP hD hS => ?_)
  have hP : va_P G vwCl [(h1, .inl (K 0, 3600, .inl (upd (upd (upd (upd (fun _ => 0) 0 6) 1 p0) 2 0) 3 0))), (h0, .inr (8, [.int 1, .int 0, .int (-1), .int 0, .int p0, .int (-1), .int 0, .int 0, .int 0, .int 0, .int 0, .ref h2, .ref h3, .ref h4, .ref h5, .ref h6, .ref h7, .ref h8, .ref h9, .ref h10, .ref h11, .ref h12, .ref h13, .ref h14, .ref h15, .ref h16, .ref h17, .ref h18, .ref h19, .ref h20, .int 0, .ref h21, .ref h22, .ref h23, .ref h24, .int 0, .int 0, .ref h25, .ref h26, .int (-1), .ref h1, .ref h27]))] _ := hP
  have hD : va_D A [(h1, .inl (K 0, 3600, .inl (upd (upd (upd (upd (fun _ => 0) 0 6) 1 p0) 2 0) 3 0))), (h0, .inr (8, [.int 1, .int 0, .int (-1), .int 0, .int p0, .int (-1), .int 0, .int 0, .int 0, .int 0, .int 0, .ref h2, .ref h3, .ref h4, .ref h5, .ref h6, .ref h7, .ref h8, .ref h9, .ref h10, .ref h11, .ref h12, .ref h13, .ref h14, .ref h15, .ref h16, .ref h17, .ref h18, .ref h19, .ref h20, .int 0, .ref h21, .ref h22, .ref h23, .ref h24, .int 0, .int 0, .ref h25, .ref h26, .int (-1), .ref h1, .ref h27]))] := hD
  refine lv_aload_n hx hb dX11_act_143 rfl (lv_at hl 4 rfl) ?_
  refine va_get (D := G) (ci := 8) (v := .ref h1) (C := RX11) (T := TX11) (N := 42) hx hb hts iX11 hown hK hP 1 rfl rfl 40 (by decide) (hw (.fieldLink RX11 90 "MotionFloorModel$Hall" "minutes" "[I") (List.mem_of_getElem? (i := 11) rfl)) (fun _ h9 => h9) rfl dX11_act_144 ?_
  refine lv_iload hx hb dX11_act_147 (lv_at hl 1 rfl) ?_
  refine lv_iconst (v := 4) hx hb dX11_act_149 (by decide) ?_
  refine lv_iadd hx hb dX11_act_150 ?_
  refine wTop (v1 := .int 4) (congrArg Value.int (by decide)) ?_
  refine lv_iload hx hb dX11_act_151 (lv_at hl 0 rfl) ?_
  refine lv_iconst (v := 3) hx hb dX11_act_153 (by decide) ?_
  refine lv_icmp_le (tgt := 162) hx hb dX11_act_154 (by decide) (fun _ => ?_) (fun c_ => absurd c_ (by decide))
  refine lv_iconst (v := 0) hx hb dX11_act_162 (by decide) ?_
  refine va_iast hx hb hK hP hD hS 0 0 rfl rfl (vp_in_iff.mpr (by decide)) dX11_act_163 (fun H locs hP hD hS => ?_)
  have hP : va_P G vwCl [(h1, .inl (K 0, 3600, .inl (upd (upd (upd (upd (upd (fun _ => 0) 0 6) 1 p0) 2 0) 3 0) 4 0))), (h0, .inr (8, [.int 1, .int 0, .int (-1), .int 0, .int p0, .int (-1), .int 0, .int 0, .int 0, .int 0, .int 0, .ref h2, .ref h3, .ref h4, .ref h5, .ref h6, .ref h7, .ref h8, .ref h9, .ref h10, .ref h11, .ref h12, .ref h13, .ref h14, .ref h15, .ref h16, .ref h17, .ref h18, .ref h19, .ref h20, .int 0, .ref h21, .ref h22, .ref h23, .ref h24, .int 0, .int 0, .ref h25, .ref h26, .int (-1), .ref h1, .ref h27]))] _ := hP
  have hD : va_D A [(h1, .inl (K 0, 3600, .inl (upd (upd (upd (upd (upd (fun _ => 0) 0 6) 1 p0) 2 0) 3 0) 4 0))), (h0, .inr (8, [.int 1, .int 0, .int (-1), .int 0, .int p0, .int (-1), .int 0, .int 0, .int 0, .int 0, .int 0, .ref h2, .ref h3, .ref h4, .ref h5, .ref h6, .ref h7, .ref h8, .ref h9, .ref h10, .ref h11, .ref h12, .ref h13, .ref h14, .ref h15, .ref h16, .ref h17, .ref h18, .ref h19, .ref h20, .int 0, .ref h21, .ref h22, .ref h23, .ref h24, .int 0, .int 0, .ref h25, .ref h26, .int (-1), .ref h1, .ref h27]))] := hD
  refine lv_aload_n hx hb dX11_act_164 rfl (lv_at hl 4 rfl) ?_
  refine va_get (D := G) (ci := 8) (v := .ref h1) (C := RX11) (T := TX11) (N := 42) hx hb hts iX11 hown hK hP 1 rfl rfl 40 (by decide) (hw (.fieldLink RX11 90 "MotionFloorModel$Hall" "minutes" "[I") (List.mem_of_getElem? (i := 11) rfl)) (fun _ h9 => h9) rfl dX11_act_165 ?_
  refine lv_iload hx hb dX11_act_168 (lv_at hl 1 rfl) ?_
  refine lv_iconst (v := 5) hx hb dX11_act_170 (by decide) ?_
  refine lv_iadd hx hb dX11_act_171 ?_
  refine wTop (v1 := .int 5) (congrArg Value.int (by decide)) ?_
  refine lv_iload hx hb dX11_act_172 (lv_at hl 2 rfl) ?_
  refine va_iast hx hb hK hP hD hS 0 0 rfl rfl (vp_in_iff.mpr (by decide)) dX11_act_174 (fun H locs hP hD hS => ?_)
  have hP : va_P G vwCl [(h1, .inl (K 0, 3600, .inl (upd (upd (upd (upd (upd (upd (fun _ => 0) 0 6) 1 p0) 2 0) 3 0) 4 0) 5 p0))), (h0, .inr (8, [.int 1, .int 0, .int (-1), .int 0, .int p0, .int (-1), .int 0, .int 0, .int 0, .int 0, .int 0, .ref h2, .ref h3, .ref h4, .ref h5, .ref h6, .ref h7, .ref h8, .ref h9, .ref h10, .ref h11, .ref h12, .ref h13, .ref h14, .ref h15, .ref h16, .ref h17, .ref h18, .ref h19, .ref h20, .int 0, .ref h21, .ref h22, .ref h23, .ref h24, .int 0, .int 0, .ref h25, .ref h26, .int (-1), .ref h1, .ref h27]))] _ := hP
  have hD : va_D A [(h1, .inl (K 0, 3600, .inl (upd (upd (upd (upd (upd (upd (fun _ => 0) 0 6) 1 p0) 2 0) 3 0) 4 0) 5 p0))), (h0, .inr (8, [.int 1, .int 0, .int (-1), .int 0, .int p0, .int (-1), .int 0, .int 0, .int 0, .int 0, .int 0, .ref h2, .ref h3, .ref h4, .ref h5, .ref h6, .ref h7, .ref h8, .ref h9, .ref h10, .ref h11, .ref h12, .ref h13, .ref h14, .ref h15, .ref h16, .ref h17, .ref h18, .ref h19, .ref h20, .int 0, .ref h21, .ref h22, .ref h23, .ref h24, .int 0, .int 0, .ref h25, .ref h26, .int (-1), .ref h1, .ref h27]))] := hD
  refine lv_aload_n hx hb dX11_act_175 rfl (lv_at hl 4 rfl) ?_
  refine lv_dup hx hb dX11_act_176 rfl ?_
  refine va_get (D := G) (ci := 8) (v := .int 0) (C := RX11) (T := TX11) (N := 42) hx hb hts iX11 hown hK hP 1 rfl rfl 7 (by decide) (hw (.fieldLink RX11 118 "MotionFloorModel$Hall" "entries" "I") (List.mem_of_getElem? (i := 4) rfl)) (fun _ h9 => h9) rfl dX11_act_177 ?_
  refine lv_iconst (v := 1) hx hb dX11_act_180 (by decide) ?_
  refine lv_iadd hx hb dX11_act_181 ?_
  refine wTop (v1 := .int 1) (congrArg Value.int (by decide)) ?_
  refine va_put (D := G) (ci := 8) (v := .int 1) (ty := .int) (C := RX11) (T := TX11) (N := 42) hx hb hts iX11 tyX11 tyX11_ok nmX11 hown hK hP hD hS 1 rfl rfl 7 (by decide) (hw (.fieldLink RX11 118 "MotionFloorModel$Hall" "entries" "I") (List.mem_of_getElem? (i := 4) rfl)) (fun _ h9 => h9) rfl (by decide +kernel) rfl rfl (Nat.le_of_ble_eq_true rfl) dX11_act_182 (fun H locs hP hD hS => ?_)
  have hP : va_P G vwCl [(h1, .inl (K 0, 3600, .inl (upd (upd (upd (upd (upd (upd (fun _ => 0) 0 6) 1 p0) 2 0) 3 0) 4 0) 5 p0))), (h0, .inr (8, [.int 1, .int 0, .int (-1), .int 0, .int p0, .int (-1), .int 0, .int 1, .int 0, .int 0, .int 0, .ref h2, .ref h3, .ref h4, .ref h5, .ref h6, .ref h7, .ref h8, .ref h9, .ref h10, .ref h11, .ref h12, .ref h13, .ref h14, .ref h15, .ref h16, .ref h17, .ref h18, .ref h19, .ref h20, .int 0, .ref h21, .ref h22, .ref h23, .ref h24, .int 0, .int 0, .ref h25, .ref h26, .int (-1), .ref h1, .ref h27]))] _ := hP
  have hD : va_D A [(h1, .inl (K 0, 3600, .inl (upd (upd (upd (upd (upd (upd (fun _ => 0) 0 6) 1 p0) 2 0) 3 0) 4 0) 5 p0))), (h0, .inr (8, [.int 1, .int 0, .int (-1), .int 0, .int p0, .int (-1), .int 0, .int 1, .int 0, .int 0, .int 0, .ref h2, .ref h3, .ref h4, .ref h5, .ref h6, .ref h7, .ref h8, .ref h9, .ref h10, .ref h11, .ref h12, .ref h13, .ref h14, .ref h15, .ref h16, .ref h17, .ref h18, .ref h19, .ref h20, .int 0, .ref h21, .ref h22, .ref h23, .ref h24, .int 0, .int 0, .ref h25, .ref h26, .int (-1), .ref h1, .ref h27]))] := hD
  refine lv_iload hx hb dX11_act_185 (lv_at hl 2 rfl) ?_
  have hP9 := hP.sub (ws' := [(h0, .inr (8, [.int 1, .int 0, .int (-1), .int 0, .int p0, .int (-1), .int 0, .int 1, .int 0, .int 0, .int 0, .ref h2, .ref h3, .ref h4, .ref h5, .ref h6, .ref h7, .ref h8, .ref h9, .ref h10, .ref h11, .ref h12, .ref h13, .ref h14, .ref h15, .ref h16, .ref h17, .ref h18, .ref h19, .ref h20, .int 0, .ref h21, .ref h22, .ref h23, .ref h24, .int 0, .int 0, .ref h25, .ref h26, .int (-1), .ref h1, .ref h27])), (h1, .inl (K 0, 3600, .inl (upd (upd (upd (upd (upd (upd (fun _ => 0) 0 6) 1 p0) 2 0) 3 0) 4 0) 5 p0)))]) [1, 0] rfl
  have hD9 := hD.sub (ws' := [(h0, .inr (8, [.int 1, .int 0, .int (-1), .int 0, .int p0, .int (-1), .int 0, .int 1, .int 0, .int 0, .int 0, .ref h2, .ref h3, .ref h4, .ref h5, .ref h6, .ref h7, .ref h8, .ref h9, .ref h10, .ref h11, .ref h12, .ref h13, .ref h14, .ref h15, .ref h16, .ref h17, .ref h18, .ref h19, .ref h20, .int 0, .ref h21, .ref h22, .ref h23, .ref h24, .int 0, .int 0, .ref h25, .ref h26, .int (-1), .ref h1, .ref h27])), (h1, .inl (K 0, 3600, .inl (upd (upd (upd (upd (upd (upd (fun _ => 0) 0 6) 1 p0) 2 0) 3 0) 4 0) 5 p0)))]) [1, 0] (by decide) rfl
  exact W.iret (v := p0) hx hb hr (fun t ht hW => ⟨⟨p0, _, rfl, ⟨rfl, rfl⟩, by rw [ht]; exact hP9, hD9⟩, hS.F ht⟩) hS.2.2 dX11_act_187
def e_X12_limit_1 : List Cond := [.fieldLink RX12 16 "MotionFloorModel" "hall" "LMotionFloorModel$Hall;", .methodLink RX12 40 yX11_act, .instanceMethod yX11_act, .selects RX11 yX11_act yX11_act, .initialized RX11]
def v_X12_limit_1 : List Cond := .code yX12_limit cX12_limit 2 (some .int) :: (e_X12_limit_1 ++ (wsX120 ++ (v_X11_act_11 ++ [])))
theorem te_X12_limit_1 : GoodIn lw_tbl e_X12_limit_1 := wGc z225 (wGc z368 (wGc z367 (wGc z366 (wGc z227 (wG0)))))
theorem t_X12_limit_1 : GoodIn lw_tbl v_X12_limit_1 := wGc z423 (wGa te_X12_limit_1 (wGa zcX12 (wGa t_X11_act_11 (wG0))))
set_option maxHeartbeats 4000000 in
set_option maxRecDepth 100000 in
theorem m_X12_limit_1 (l : Launch) (G : va_G) (K : Nat → ClassId) (h0 h1 h2 h3 h4 h5 h6 h7 h8 h9 h10 h11 h12 h13 h14 h15 h16 h17 h18 h19 h20 h21 h22 h23 h24 h25 h26 h27 h28 h29 h30 h31 h32 h33 : Nat) (p0 : Int32) (sz : Nat) (bp0 : 0 ≤ p0.toInt ∧ p0.toInt ≤ 99) : Met l yX12_limit v_X12_limit_1 ({ frames := 3, cells := 0, slots := 0, locals := 76 }) (va_Pc [.ref h0, .int p0] (wS G K sz [(h0, .inr (9, [.ref h1, .ref h3, .ref h4, .ref h5, .ref h6, .ref h7, .int 0])), (h1, .inr (8, [.int 1, .int 0, .int (-1), .int 0, .int 0, .int (-1), .int 0, .int 0, .int 0, .int 0, .int 0, .ref h8, .ref h9, .ref h10, .ref h11, .ref h12, .ref h13, .ref h14, .ref h15, .ref h16, .ref h17, .ref h18, .ref h19, .ref h20, .ref h21, .ref h22, .ref h23, .ref h24, .ref h25, .ref h26, .int 0, .ref h27, .ref h28, .ref h29, .ref h30, .int 0, .int 0, .ref h31, .ref h32, .int (-1), .ref h2, .ref h33])), (h2, .inl (K 0, 3600, .inl (fun _ => 0)))])) (va_Qi (fun (r : Int32) (u : va_W) => (p0 = r ∧ u = [(h0, .inr (9, [.ref h1, .ref h3, .ref h4, .ref h5, .ref h6, .ref h7, .int 0])), (h1, .inr (8, [.int 1, .int 0, .int (-1), .int 0, .int p0, .int (-1), .int 0, .int 1, .int 0, .int 0, .int 0, .ref h8, .ref h9, .ref h10, .ref h11, .ref h12, .ref h13, .ref h14, .ref h15, .ref h16, .ref h17, .ref h18, .ref h19, .ref h20, .ref h21, .ref h22, .ref h23, .ref h24, .ref h25, .ref h26, .int 0, .ref h27, .ref h28, .ref h29, .ref h30, .int 0, .int 0, .ref h31, .ref h32, .int (-1), .ref h2, .ref h33])), (h2, .inl (K 0, 3600, .inl (upd (upd (upd (upd (upd (upd (fun _ => 0) 0 6) 1 p0) 2 0) 3 0) 4 0) 5 p0)))])) (wB G (va_A [(h0, .inr (9, [.ref h1, .ref h3, .ref h4, .ref h5, .ref h6, .ref h7, .int 0])), (h1, .inr (8, [.int 1, .int 0, .int (-1), .int 0, .int 0, .int (-1), .int 0, .int 0, .int 0, .int 0, .int 0, .ref h8, .ref h9, .ref h10, .ref h11, .ref h12, .ref h13, .ref h14, .ref h15, .ref h16, .ref h17, .ref h18, .ref h19, .ref h20, .ref h21, .ref h22, .ref h23, .ref h24, .ref h25, .ref h26, .int 0, .ref h27, .ref h28, .ref h29, .ref h30, .int 0, .int 0, .ref h31, .ref h32, .int (-1), .ref h2, .ref h33])), (h2, .inl (K 0, 3600, .inl (fun _ => 0)))] sz)) (va_A [(h0, .inr (9, [.ref h1, .ref h3, .ref h4, .ref h5, .ref h6, .ref h7, .int 0])), (h1, .inr (8, [.int 1, .int 0, .int (-1), .int 0, .int 0, .int (-1), .int 0, .int 0, .int 0, .int 0, .int 0, .ref h8, .ref h9, .ref h10, .ref h11, .ref h12, .ref h13, .ref h14, .ref h15, .ref h16, .ref h17, .ref h18, .ref h19, .ref h20, .ref h21, .ref h22, .ref h23, .ref h24, .ref h25, .ref h26, .int 0, .ref h27, .ref h28, .ref h29, .ref h30, .int 0, .int 0, .ref h31, .ref h32, .int (-1), .ref h2, .ref h33])), (h2, .inl (K 0, 3600, .inl (fun _ => 0)))] sz)) 0 0 (va_A [(h0, .inr (9, [.ref h1, .ref h3, .ref h4, .ref h5, .ref h6, .ref h7, .int 0])), (h1, .inr (8, [.int 1, .int 0, .int (-1), .int 0, .int 0, .int (-1), .int 0, .int 0, .int 0, .int 0, .int 0, .ref h8, .ref h9, .ref h10, .ref h11, .ref h12, .ref h13, .ref h14, .ref h15, .ref h16, .ref h17, .ref h18, .ref h19, .ref h20, .ref h21, .ref h22, .ref h23, .ref h24, .ref h25, .ref h26, .int 0, .ref h27, .ref h28, .ref h29, .ref h30, .int 0, .int 0, .ref h31, .ref h32, .int (-1), .ref h2, .ref h33])), (h2, .inl (K 0, 3600, .inl (fun _ => 0)))] sz) := by
  refine Met.ofW (cc := cX12_limit) (maxL := 2) (ret := (some .int)) (by decide) rfl ?_
  intro p e s m args below meth c s₁ B hml hv
  obtain ⟨rfl, hsz, hP, hK, hD0, hE⟩ := hv
  have hx := B.exec
  have hb := B.bytes
  have hr := B.returns
  have hts := atoms_spec (ws := v_X12_limit_1) B.pre
  have t_ := t_X12_limit_1
  have mw : ∀ w ∈ e_X12_limit_1, w ∈ v_X12_limit_1 := fun w h => List.mem_cons_of_mem _ (List.mem_append_left _ h)
  have hw := fun w (h : w ∈ e_X12_limit_1) => hts w (mw w h)
  have iX12 : ∀ w ∈ wsX120, w ∈ v_X12_limit_1 := fun w h => List.mem_cons_of_mem _ (List.mem_append_right _ (List.mem_append_left _ h))
  have j_X11_act_11 : ∀ w ∈ v_X11_act_11, w ∈ v_X12_limit_1 := fun w h => List.mem_cons_of_mem _ (List.mem_append_right _ (List.mem_append_right _ (List.mem_append_left _ h)))
  have hown : s.vm.findClass RX12 = some m.cls := findClass_of_methodNamed B.named
  have hlocks := B.notSynchronized
  subst hsz
  have hD := hD0.self (sz := s.heap.size)
  generalize hAe : va_A [(h0, .inr (9, [.ref h1, .ref h3, .ref h4, .ref h5, .ref h6, .ref h7, .int 0])), (h1, .inr (8, [.int 1, .int 0, .int (-1), .int 0, .int 0, .int (-1), .int 0, .int 0, .int 0, .int 0, .int 0, .ref h8, .ref h9, .ref h10, .ref h11, .ref h12, .ref h13, .ref h14, .ref h15, .ref h16, .ref h17, .ref h18, .ref h19, .ref h20, .ref h21, .ref h22, .ref h23, .ref h24, .ref h25, .ref h26, .int 0, .ref h27, .ref h28, .ref h29, .ref h30, .int 0, .int 0, .ref h31, .ref h32, .int (-1), .ref h2, .ref h33])), (h2, .inl (K 0, 3600, .inl (fun _ => 0)))] s.heap.size = A at hD ⊢
  have hA : ∀ q : Nat, s.heap.size ≤ q → A q := fun q h => by rw [← hAe]; exact Or.inr h
  have hS : va_S A s.heap s.heap [] := va_S.rf
  have hP : va_P G vwCl [(h0, .inr (9, [.ref h1, .ref h3, .ref h4, .ref h5, .ref h6, .ref h7, .int 0])), (h1, .inr (8, [.int 1, .int 0, .int (-1), .int 0, .int 0, .int (-1), .int 0, .int 0, .int 0, .int 0, .int 0, .ref h8, .ref h9, .ref h10, .ref h11, .ref h12, .ref h13, .ref h14, .ref h15, .ref h16, .ref h17, .ref h18, .ref h19, .ref h20, .ref h21, .ref h22, .ref h23, .ref h24, .ref h25, .ref h26, .int 0, .ref h27, .ref h28, .ref h29, .ref h30, .int 0, .int 0, .ref h31, .ref h32, .int (-1), .ref h2, .ref h33])), (h2, .inl (K 0, 3600, .inl (fun _ => 0)))] s.heap := hP
  have hl := lv_entry ([.ref h0, .int p0]) (n := 2) (Nat.le_of_ble_eq_true rfl)
  rw [lg_entry_eq]
  generalize (lg_sl ([.ref h0, .int p0]) ++ List.replicate (2 - (lg_sl ([.ref h0, .int p0])).length) Slot.unset).toArray = ls at hl ⊢
  have hl : lv_has ls 2 [(0, .ref h0), (1, .int p0)] := hl
  refine lv_aload_n hx hb dX12_limit_0 rfl (lv_at hl 0 rfl) ?_
  refine va_get (D := G) (ci := 9) (v := .ref h1) (C := RX12) (T := TX12) (N := 7) hx hb hts iX12 hown hK hP 0 rfl rfl 0 (by decide) (hw (.fieldLink RX12 16 "MotionFloorModel" "hall" "LMotionFloorModel$Hall;") (List.mem_of_getElem? (i := 0) rfl)) (fun _ h9 => h9) rfl dX12_limit_1 ?_
  refine lv_bipush (v := 6) hx hb dX12_limit_4 (by decide) ?_
  refine lv_iload_n hx hb dX12_limit_6 rfl (lv_at hl 1 rfl) ?_
  refine lv_iconst (v := 0) hx hb dX12_limit_7 (by decide) ?_
  refine lv_iconst (v := 0) hx hb dX12_limit_8 (by decide) ?_
  refine lv_iconst (v := 0) hx hb dX12_limit_9 (by decide) ?_
  have hPc := hP.sub (ws' := [(h1, .inr (8, [.int 1, .int 0, .int (-1), .int 0, .int 0, .int (-1), .int 0, .int 0, .int 0, .int 0, .int 0, .ref h8, .ref h9, .ref h10, .ref h11, .ref h12, .ref h13, .ref h14, .ref h15, .ref h16, .ref h17, .ref h18, .ref h19, .ref h20, .ref h21, .ref h22, .ref h23, .ref h24, .ref h25, .ref h26, .int 0, .ref h27, .ref h28, .ref h29, .ref h30, .int 0, .int 0, .ref h31, .ref h32, .int (-1), .ref h2, .ref h33])), (h2, .inl (K 0, 3600, .inl (fun _ => 0)))]) [1, 2] rfl
  have hDc := hD.sub (ws' := [(h1, .inr (8, [.int 1, .int 0, .int (-1), .int 0, .int 0, .int (-1), .int 0, .int 0, .int 0, .int 0, .int 0, .ref h8, .ref h9, .ref h10, .ref h11, .ref h12, .ref h13, .ref h14, .ref h15, .ref h16, .ref h17, .ref h18, .ref h19, .ref h20, .ref h21, .ref h22, .ref h23, .ref h24, .ref h25, .ref h26, .int 0, .ref h27, .ref h28, .ref h29, .ref h30, .int 0, .int 0, .ref h31, .ref h32, .int (-1), .ref h2, .ref h33])), (h2, .inl (K 0, 3600, .inl (fun _ => 0)))]) [1, 2] (by decide) rfl
  refine wGoi (wc := [(h1, .inr (8, [.int 1, .int 0, .int (-1), .int 0, .int 0, .int (-1), .int 0, .int 0, .int 0, .int 0, .int 0, .ref h8, .ref h9, .ref h10, .ref h11, .ref h12, .ref h13, .ref h14, .ref h15, .ref h16, .ref h17, .ref h18, .ref h19, .ref h20, .ref h21, .ref h22, .ref h23, .ref h24, .ref h25, .ref h26, .int 0, .ref h27, .ref h28, .ref h29, .ref h30, .int 0, .int 0, .ref h31, .ref h32, .int (-1), .ref h2, .ref h33])), (h2, .inl (K 0, 3600, .inl (fun _ => 0)))]) (wr := [(h0, .inr (9, [.ref h1, .ref h3, .ref h4, .ref h5, .ref h6, .ref h7, .int 0]))]) (va_runV (As := [.int 6, .int p0, .int 0, .int 0, .int 0]) (rest := []) ⟨hx, hb, hml, hown, hts⟩ (m_X11_act_11 l G K h1 h2 h8 h9 h10 h11 h12 h13 h14 h15 h16 h17 h18 h19 h20 h21 h22 h23 h24 h25 h26 h27 h28 h29 h30 h31 h32 h33 p0 _ (by omega)) (cwV 5 hts (wGV t_ (mw (.methodLink RX12 40 yX11_act) (List.mem_of_getElem? (i := 1) rfl)) (mw (.instanceMethod yX11_act) (List.mem_of_getElem? (i := 2) rfl)) (mw (.selects RX11 yX11_act yX11_act) (List.mem_of_getElem? (i := 3) rfl)) (mw (.initialized RX11) (List.mem_of_getElem? (i := 4) rfl)) j_X11_act_11) rfl rfl rfl (by decide +kernel) ⟨Nat.le_of_ble_eq_true rfl, Nat.le_of_ble_eq_true rfl⟩) (wPV hK hE hPc hDc 8 0 rfl rfl) rfl rfl hl.1 rfl (lv_room (Nat.le_of_ble_eq_true rfl)) dX12_limit_10 ⟨Nat.le_of_ble_eq_true rfl, Nat.le_of_ble_eq_true rfl⟩) hP hD hS hA [1, 2] [0] rfl rfl rfl (by decide) (fun r u H locs hw hP hD hS => ?_)
  rcases hw with ⟨rfl, rfl⟩
  have hP : va_P G vwCl [(h0, .inr (9, [.ref h1, .ref h3, .ref h4, .ref h5, .ref h6, .ref h7, .int 0])), (h1, .inr (8, [.int 1, .int 0, .int (-1), .int 0, .int p0, .int (-1), .int 0, .int 1, .int 0, .int 0, .int 0, .ref h8, .ref h9, .ref h10, .ref h11, .ref h12, .ref h13, .ref h14, .ref h15, .ref h16, .ref h17, .ref h18, .ref h19, .ref h20, .ref h21, .ref h22, .ref h23, .ref h24, .ref h25, .ref h26, .int 0, .ref h27, .ref h28, .ref h29, .ref h30, .int 0, .int 0, .ref h31, .ref h32, .int (-1), .ref h2, .ref h33])), (h2, .inl (K 0, 3600, .inl (upd (upd (upd (upd (upd (upd (fun _ => 0) 0 6) 1 p0) 2 0) 3 0) 4 0) 5 p0)))] _ := hP
  have hD : va_D A [(h0, .inr (9, [.ref h1, .ref h3, .ref h4, .ref h5, .ref h6, .ref h7, .int 0])), (h1, .inr (8, [.int 1, .int 0, .int (-1), .int 0, .int p0, .int (-1), .int 0, .int 1, .int 0, .int 0, .int 0, .ref h8, .ref h9, .ref h10, .ref h11, .ref h12, .ref h13, .ref h14, .ref h15, .ref h16, .ref h17, .ref h18, .ref h19, .ref h20, .ref h21, .ref h22, .ref h23, .ref h24, .ref h25, .ref h26, .int 0, .ref h27, .ref h28, .ref h29, .ref h30, .int 0, .int 0, .ref h31, .ref h32, .int (-1), .ref h2, .ref h33])), (h2, .inl (K 0, 3600, .inl (upd (upd (upd (upd (upd (upd (fun _ => 0) 0 6) 1 p0) 2 0) 3 0) 4 0) 5 p0)))] := hD
  have hP9 : va_P G vwCl [(h0, .inr (9, [.ref h1, .ref h3, .ref h4, .ref h5, .ref h6, .ref h7, .int 0])), (h1, .inr (8, [.int 1, .int 0, .int (-1), .int 0, .int p0, .int (-1), .int 0, .int 1, .int 0, .int 0, .int 0, .ref h8, .ref h9, .ref h10, .ref h11, .ref h12, .ref h13, .ref h14, .ref h15, .ref h16, .ref h17, .ref h18, .ref h19, .ref h20, .ref h21, .ref h22, .ref h23, .ref h24, .ref h25, .ref h26, .int 0, .ref h27, .ref h28, .ref h29, .ref h30, .int 0, .int 0, .ref h31, .ref h32, .int (-1), .ref h2, .ref h33])), (h2, .inl (K 0, 3600, .inl (upd (upd (upd (upd (upd (upd (fun _ => 0) 0 6) 1 p0) 2 0) 3 0) 4 0) 5 p0)))] _ := hP
  have hD9 : va_D A [(h0, .inr (9, [.ref h1, .ref h3, .ref h4, .ref h5, .ref h6, .ref h7, .int 0])), (h1, .inr (8, [.int 1, .int 0, .int (-1), .int 0, .int p0, .int (-1), .int 0, .int 1, .int 0, .int 0, .int 0, .ref h8, .ref h9, .ref h10, .ref h11, .ref h12, .ref h13, .ref h14, .ref h15, .ref h16, .ref h17, .ref h18, .ref h19, .ref h20, .ref h21, .ref h22, .ref h23, .ref h24, .ref h25, .ref h26, .int 0, .ref h27, .ref h28, .ref h29, .ref h30, .int 0, .int 0, .ref h31, .ref h32, .int (-1), .ref h2, .ref h33])), (h2, .inl (K 0, 3600, .inl (upd (upd (upd (upd (upd (upd (fun _ => 0) 0 6) 1 p0) 2 0) 3 0) 4 0) 5 p0)))] := hD
  exact W.iret (v := p0) hx hb hr (fun t ht hW => ⟨⟨p0, _, rfl, ⟨rfl, rfl⟩, by rw [ht]; exact hP9, hD9⟩, hS.F ht⟩) hS.2.2 dX12_limit_13
