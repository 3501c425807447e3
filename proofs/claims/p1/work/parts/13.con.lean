def e_X0_enact_4 : List Cond := [.methodLink RX0 155 yX8_against, .static yX8_against, .initialized RX8, .fieldLink RX0 73 "MotionFloor$Assembly" "reason" "I", .methodLink RX0 161 yX1_perform, .static yX1_perform, .initialized RX1, .fieldLink RX0 41 "MotionFloor$Assembly" "minutes" "LMotionFloor$Ledger;", .methodLink RX0 166 yX3_open, .instanceMethod yX3_open, .selects RX3 yX3_open yX3_open, .initialized RX3, .methodLink RX0 169 yX3_write, .instanceMethod yX3_write, .selects RX3 yX3_write yX3_write, .fieldLink RX0 21 "MotionFloor$Assembly" "pending" "LMotionFloor$Pile;", .fieldLink RX0 96 "MotionFloor$Pile" "size" "I"]
def v_X0_enact_4 : List Cond := .code yX0_enact cX0_enact 7 (some .int) :: (e_X0_enact_4 ++ (wsX00 ++ (wsX50 ++ (v_X8_against_4 ++ (v_X1_perform_2 ++ (v_X3_open_0 ++ (v_X3_write_14 ++ (v_X3_write_15 ++ (v_X3_write_16 ++ (v_X3_write_17 ++ (v_X3_write_18 ++ (v_X3_write_19 ++ (v_X3_write_20 ++ [])))))))))))))
theorem te_X0_enact_4 : GoodIn lw_tbl e_X0_enact_4 := wGc z205 (wGc z204 (wGc z157 (wGc z135 (wGc z203 (wGc z202 (wGc z201 (wGc z86 (wGc z200 (wGc z199 (wGc z198 (wGc z89 (wGc z197 (wGc z196 (wGc z195 (wGc z98 (wGc z123 (wG0)))))))))))))))))
theorem t_X0_enact_4 : GoodIn lw_tbl v_X0_enact_4 := wGc z206 (wGa te_X0_enact_4 (wGa zcX0 (wGa zcX5 (wGa t_X8_against_4 (wGa t_X1_perform_2 (wGa t_X3_open_0 (wGa t_X3_write_14 (wGa t_X3_write_15 (wGa t_X3_write_16 (wGa t_X3_write_17 (wGa t_X3_write_18 (wGa t_X3_write_19 (wGa t_X3_write_20 (wG0))))))))))))))
set_option maxHeartbeats 4000000 in
set_option maxRecDepth 100000 in
theorem m_X0_enact_4 (l : Launch) (G : va_G) (K : Nat → ClassId) (h0 h1 h2 h3 h4 h5 h6 h7 h8 h9 h10 h11 : Nat) (p0 p1 : Int32) (sz : Nat) : Met l yX0_enact v_X0_enact_4 ({ frames := 3, cells := 0, slots := 0, locals := 70 }) (va_Pc [.ref h0, .int 5, .int p0, .int p1, .int 0, .int 0] (wS G K sz [(h0, .inr (0, [.ref h1, .ref h2, .ref h6, .ref h7, .ref h3, .ref h8, .ref h9, .int 0, .int 0, .int 0, .null])), (h1, .inr (1, [.int 1, .ref h10, .int 0, .int (-1), .int 0, .int 0, .int (-1), .ref h4])), (h2, .inr (4, [.ref h11, .int 0])), (h3, .inr (2, [.int 7, .int 600, .ref h5, .int 0])), (h4, .inl (K 0, 9, .inl (upd (fun _ => 1) 6 2))), (h5, .inl (K 0, 112, .inl (fun _ => 0)))])) (va_Qi (fun (r : Int32) (u : va_W) => ((((p0.toInt < 1 ∨ (p0.toInt ≥ 1 ∧ p0.toInt > 8) ∨ (p0.toInt ≥ 1 ∧ p0.toInt ≤ 8 ∧ p1.toInt < 1) ∨ (p0.toInt ≥ 1 ∧ p0.toInt ≤ 8 ∧ p1.toInt ≥ 1 ∧ p1.toInt > 3)))) ∧ r = (-9) ∧ u = [(h0, .inr (0, [.ref h1, .ref h2, .ref h6, .ref h7, .ref h3, .ref h8, .ref h9, .int 0, .int 0, .int 9, .null])), (h1, .inr (1, [.int 1, .ref h10, .int 0, .int (-1), .int 0, .int 0, .int (-1), .ref h4])), (h2, .inr (4, [.ref h11, .int 0])), (h3, .inr (2, [.int 7, .int 600, .ref h5, .int 0])), (h4, .inl (K 0, 9, .inl (upd (fun _ => 1) 6 2))), (h5, .inl (K 0, 112, .inl (fun _ => 0)))]) ∨ (∃ u0 : Nat → Int32, ((((p0.toInt ≥ 1 ∧ p0.toInt ≤ 8 ∧ p1.toInt ≥ 1 ∧ p1.toInt ≤ 3)))) ∧ r = ((upd (fun _ => 1) 6 2) p0.toNatClampNeg) ∧ u = [(h0, .inr (0, [.ref h1, .ref h2, .ref h6, .ref h7, .ref h3, .ref h8, .ref h9, .int 0, .int 0, .int 0, .null])), (h1, .inr (1, [.int 1, .ref h10, .int 0, .int (-1), .int 0, .int 0, .int (-1), .ref h4])), (h2, .inr (4, [.ref h11, .int 0])), (h3, .inr (2, [.int 7, .int 600, .ref h5, .int 1])), (h4, .inl (K 0, 9, .inl u0)), (h5, .inl (K 0, 112, .inl (upd (upd (upd (upd (upd (upd (upd (fun _ => 0) 0 5) 1 p0) 2 p1) 3 0) 4 0) 5 ((upd (fun _ => 1) 6 2) p0.toNatClampNeg)) 6 0)))])) (wB G (va_A [(h0, .inr (0, [.ref h1, .ref h2, .ref h6, .ref h7, .ref h3, .ref h8, .ref h9, .int 0, .int 0, .int 0, .null])), (h1, .inr (1, [.int 1, .ref h10, .int 0, .int (-1), .int 0, .int 0, .int (-1), .ref h4])), (h2, .inr (4, [.ref h11, .int 0])), (h3, .inr (2, [.int 7, .int 600, .ref h5, .int 0])), (h4, .inl (K 0, 9, .inl (upd (fun _ => 1) 6 2))), (h5, .inl (K 0, 112, .inl (fun _ => 0)))] sz)) (va_A [(h0, .inr (0, [.ref h1, .ref h2, .ref h6, .ref h7, .ref h3, .ref h8, .ref h9, .int 0, .int 0, .int 0, .null])), (h1, .inr (1, [.int 1, .ref h10, .int 0, .int (-1), .int 0, .int 0, .int (-1), .ref h4])), (h2, .inr (4, [.ref h11, .int 0])), (h3, .inr (2, [.int 7, .int 600, .ref h5, .int 0])), (h4, .inl (K 0, 9, .inl (upd (fun _ => 1) 6 2))), (h5, .inl (K 0, 112, .inl (fun _ => 0)))] sz)) 0 0 (va_A [(h0, .inr (0, [.ref h1, .ref h2, .ref h6, .ref h7, .ref h3, .ref h8, .ref h9, .int 0, .int 0, .int 0, .null])), (h1, .inr (1, [.int 1, .ref h10, .int 0, .int (-1), .int 0, .int 0, .int (-1), .ref h4])), (h2, .inr (4, [.ref h11, .int 0])), (h3, .inr (2, [.int 7, .int 600, .ref h5, .int 0])), (h4, .inl (K 0, 9, .inl (upd (fun _ => 1) 6 2))), (h5, .inl (K 0, 112, .inl (fun _ => 0)))] sz) := by
  refine Met.ofW (cc := cX0_enact) (maxL := 7) (ret := (some .int)) (by decide) rfl ?_
  intro p e s m args below meth c s₁ B hml hv
  obtain ⟨rfl, hsz, hP, hK, hD0, hE⟩ := hv
  have hx := B.exec
  have hb := B.bytes
  have hr := B.returns
  have hts := atoms_spec (ws := v_X0_enact_4) B.pre
  have t_ := t_X0_enact_4
  have mw : ∀ w ∈ e_X0_enact_4, w ∈ v_X0_enact_4 := fun w h => List.mem_cons_of_mem _ (List.mem_append_left _ h)
  have hw := fun w (h : w ∈ e_X0_enact_4) => hts w (mw w h)
  have iX0 : ∀ w ∈ wsX00, w ∈ v_X0_enact_4 := fun w h => List.mem_cons_of_mem _ (List.mem_append_right _ (List.mem_append_left _ h))
  have iX5 : ∀ w ∈ wsX50, w ∈ v_X0_enact_4 := fun w h => List.mem_cons_of_mem _ (List.mem_append_right _ (List.mem_append_right _ (List.mem_append_left _ h)))
  have j_X8_against_4 : ∀ w ∈ v_X8_against_4, w ∈ v_X0_enact_4 := fun w h => List.mem_cons_of_mem _ (List.mem_append_right _ (List.mem_append_right _ (List.mem_append_right _ (List.mem_append_left _ h))))
  have j_X1_perform_2 : ∀ w ∈ v_X1_perform_2, w ∈ v_X0_enact_4 := fun w h => List.mem_cons_of_mem _ (List.mem_append_right _ (List.mem_append_right _ (List.mem_append_right _ (List.mem_append_right _ (List.mem_append_left _ h)))))
  have j_X3_open_0 : ∀ w ∈ v_X3_open_0, w ∈ v_X0_enact_4 := fun w h => List.mem_cons_of_mem _ (List.mem_append_right _ (List.mem_append_right _ (List.mem_append_right _ (List.mem_append_right _ (List.mem_append_right _ (List.mem_append_left _ h))))))
  have j_X3_write_14 : ∀ w ∈ v_X3_write_14, w ∈ v_X0_enact_4 := fun w h => List.mem_cons_of_mem _ (List.mem_append_right _ (List.mem_append_right _ (List.mem_append_right _ (List.mem_append_right _ (List.mem_append_right _ (List.mem_append_right _ (List.mem_append_left _ h)))))))
  have j_X3_write_15 : ∀ w ∈ v_X3_write_15, w ∈ v_X0_enact_4 := fun w h => List.mem_cons_of_mem _ (List.mem_append_right _ (List.mem_append_right _ (List.mem_append_right _ (List.mem_append_right _ (List.mem_append_right _ (List.mem_append_right _ (List.mem_append_right _ (List.mem_append_left _ h))))))))
  have j_X3_write_16 : ∀ w ∈ v_X3_write_16, w ∈ v_X0_enact_4 := fun w h => List.mem_cons_of_mem _ (List.mem_append_right _ (List.mem_append_right _ (List.mem_append_right _ (List.mem_append_right _ (List.mem_append_right _ (List.mem_append_right _ (List.mem_append_right _ (List.mem_append_right _ (List.mem_append_left _ h)))))))))
  have j_X3_write_17 : ∀ w ∈ v_X3_write_17, w ∈ v_X0_enact_4 := fun w h => List.mem_cons_of_mem _ (List.mem_append_right _ (List.mem_append_right _ (List.mem_append_right _ (List.mem_append_right _ (List.mem_append_right _ (List.mem_append_right _ (List.mem_append_right _ (List.mem_append_right _ (List.mem_append_right _ (List.mem_append_left _ h))))))))))
  have j_X3_write_18 : ∀ w ∈ v_X3_write_18, w ∈ v_X0_enact_4 := fun w h => List.mem_cons_of_mem _ (List.mem_append_right _ (List.mem_append_right _ (List.mem_append_right _ (List.mem_append_right _ (List.mem_append_right _ (List.mem_append_right _ (List.mem_append_right _ (List.mem_append_right _ (List.mem_append_right _ (List.mem_append_right _ (List.mem_append_left _ h)))))))))))
  have j_X3_write_19 : ∀ w ∈ v_X3_write_19, w ∈ v_X0_enact_4 := fun w h => List.mem_cons_of_mem _ (List.mem_append_right _ (List.mem_append_right _ (List.mem_append_right _ (List.mem_append_right _ (List.mem_append_right _ (List.mem_append_right _ (List.mem_append_right _ (List.mem_append_right _ (List.mem_append_right _ (List.mem_append_right _ (List.mem_append_right _ (List.mem_append_left _ h))))))))))))
  have j_X3_write_20 : ∀ w ∈ v_X3_write_20, w ∈ v_X0_enact_4 := fun w h => List.mem_cons_of_mem _ (List.mem_append_right _ (List.mem_append_right _ (List.mem_append_right _ (List.mem_append_right _ (List.mem_append_right _ (List.mem_append_right _ (List.mem_append_right _ (List.mem_append_right _ (List.mem_append_right _ (List.mem_append_right _ (List.mem_append_right _ (List.mem_append_right _ (List.mem_append_left _ h)))))))))))))
  have hown : s.vm.findClass RX0 = some m.cls := findClass_of_methodNamed B.named
  have hlocks := B.notSynchronized
  subst hsz
  have hD := hD0.self (sz := s.heap.size)
  generalize hAe : va_A [(h0, .inr (0, [.ref h1, .ref h2, .ref h6, .ref h7, .ref h3, .ref h8, .ref h9, .int 0, .int 0, .int 0, .null])), (h1, .inr (1, [.int 1, .ref h10, .int 0, .int (-1), .int 0, .int 0, .int (-1), .ref h4])), (h2, .inr (4, [.ref h11, .int 0])), (h3, .inr (2, [.int 7, .int 600, .ref h5, .int 0])), (h4, .inl (K 0, 9, .inl (upd (fun _ => 1) 6 2))), (h5, .inl (K 0, 112, .inl (fun _ => 0)))] s.heap.size = A at hD ⊢
  have hA : ∀ q : Nat, s.heap.size ≤ q → A q := fun q h => by rw [← hAe]; exact Or.inr h
  have hS : va_S A s.heap s.heap [] := va_S.rf
  have hP : va_P G vwCl [(h0, .inr (0, [.ref h1, .ref h2, .ref h6, .ref h7, .ref h3, .ref h8, .ref h9, .int 0, .int 0, .int 0, .null])), (h1, .inr (1, [.int 1, .ref h10, .int 0, .int (-1), .int 0, .int 0, .int (-1), .ref h4])), (h2, .inr (4, [.ref h11, .int 0])), (h3, .inr (2, [.int 7, .int 600, .ref h5, .int 0])), (h4, .inl (K 0, 9, .inl (upd (fun _ => 1) 6 2))), (h5, .inl (K 0, 112, .inl (fun _ => 0)))] s.heap := hP
  have hl := lv_entry ([.ref h0, .int 5, .int p0, .int p1, .int 0, .int 0]) (n := 7) (Nat.le_of_ble_eq_true rfl)
  rw [lg_entry_eq]
  generalize (lg_sl ([.ref h0, .int 5, .int p0, .int p1, .int 0, .int 0]) ++ List.replicate (7 - (lg_sl ([.ref h0, .int 5, .int p0, .int p1, .int 0, .int 0])).length) Slot.unset).toArray = ls at hl ⊢
  have hl : lv_has ls 7 [(0, .ref h0), (1, .int 5), (2, .int p0), (3, .int p1), (4, .int 0), (5, .int 0)] := hl
  refine lv_aload_n hx hb dX0_enact_0 rfl (lv_at hl 0 rfl) ?_
  refine lv_aload_n hx hb dX0_enact_1 rfl (lv_at hl 0 rfl) ?_
  refine lv_iload_n hx hb dX0_enact_2 rfl (lv_at hl 1 rfl) ?_
  refine lv_iload_n hx hb dX0_enact_3 rfl (lv_at hl 2 rfl) ?_
  refine lv_iload_n hx hb dX0_enact_4 rfl (lv_at hl 3 rfl) ?_
  refine lv_iload hx hb dX0_enact_5 (lv_at hl 4 rfl) ?_
  refine lv_iload hx hb dX0_enact_7 (lv_at hl 5 rfl) ?_
  have hPc := hP.sub (ws' := [(h0, .inr (0, [.ref h1, .ref h2, .ref h6, .ref h7, .ref h3, .ref h8, .ref h9, .int 0, .int 0, .int 0, .null])), (h2, .inr (4, [.ref h11, .int 0])), (h3, .inr (2, [.int 7, .int 600, .ref h5, .int 0]))]) [0, 2, 3] rfl
  have hDc := hD.sub (ws' := [(h0, .inr (0, [.ref h1, .ref h2, .ref h6, .ref h7, .ref h3, .ref h8, .ref h9, .int 0, .int 0, .int 0, .null])), (h2, .inr (4, [.ref h11, .int 0])), (h3, .inr (2, [.int 7, .int 600, .ref h5, .int 0]))]) [0, 2, 3] (by decide) rfl
  refine wGoi (wc := [(h0, .inr (0, [.ref h1, .ref h2, .ref h6, .ref h7, .ref h3, .ref h8, .ref h9, .int 0, .int 0, .int 0, .null])), (h2, .inr (4, [.ref h11, .int 0])), (h3, .inr (2, [.int 7, .int 600, .ref h5, .int 0]))]) (wr := [(h1, .inr (1, [.int 1, .ref h10, .int 0, .int (-1), .int 0, .int 0, .int (-1), .ref h4])), (h4, .inl (K 0, 9, .inl (upd (fun _ => 1) 6 2))), (h5, .inl (K 0, 112, .inl (fun _ => 0)))]) (va_runS (As := [.ref h0, .int 5, .int p0, .int p1, .int 0, .int 0]) (rest := [.ref h0]) ⟨hx, hb, hml, hown, hts⟩ (m_X8_against_4 l G K h0 h2 h3 h1 h6 h7 h8 h9 h11 h5 p0 p1 _) (va_cwS 6 hts (wGS t_ (mw (.methodLink RX0 155 yX8_against) (List.mem_of_getElem? (i := 0) rfl)) (mw (.static yX8_against) (List.mem_of_getElem? (i := 1) rfl)) (mw (.initialized RX8) (List.mem_of_getElem? (i := 2) rfl)) j_X8_against_4) rfl rfl rfl (by decide +kernel) ⟨Nat.le_of_ble_eq_true rfl, Nat.le_of_ble_eq_true rfl⟩) (wPS hK hE hPc hDc) rfl rfl hl.1 rfl (lv_room (Nat.le_of_ble_eq_true rfl)) dX0_enact_9 ⟨Nat.le_of_ble_eq_true rfl, Nat.le_of_ble_eq_true rfl⟩) hP hD hS hA [0, 2, 3] [1, 4, 5] rfl rfl rfl (by decide) (fun r u H locs hw hP hD hS => ?_)
  rcases hw with ⟨c_w, rfl, rfl⟩ | ⟨c_w, rfl, rfl⟩
  · have c1 := c_w
    have hP : va_P G vwCl [(h1, .inr (1, [.int 1, .ref h10, .int 0, .int (-1), .int 0, .int 0, .int (-1), .ref h4])), (h4, .inl (K 0, 9, .inl (upd (fun _ => 1) 6 2))), (h5, .inl (K 0, 112, .inl (fun _ => 0))), (h0, .inr (0, [.ref h1, .ref h2, .ref h6, .ref h7, .ref h3, .ref h8, .ref h9, .int 0, .int 0, .int 0, .null])), (h2, .inr (4, [.ref h11, .int 0])), (h3, .inr (2, [.int 7, .int 600, .ref h5, .int 0]))] _ := hP
    have hD : va_D A [(h1, .inr (1, [.int 1, .ref h10, .int 0, .int (-1), .int 0, .int 0, .int (-1), .ref h4])), (h4, .inl (K 0, 9, .inl (upd (fun _ => 1) 6 2))), (h5, .inl (K 0, 112, .inl (fun _ => 0))), (h0, .inr (0, [.ref h1, .ref h2, .ref h6, .ref h7, .ref h3, .ref h8, .ref h9, .int 0, .int 0, .int 0, .null])), (h2, .inr (4, [.ref h11, .int 0])), (h3, .inr (2, [.int 7, .int 600, .ref h5, .int 0]))] := hD
    refine va_put (D := G) (ci := 0) (v := .int 9) (ty := .int) (C := RX0) (T := TX0) (N := 11) hx hb hts iX0 tyX0 tyX0_ok nmX0 hown hK hP hD hS 3 rfl rfl 9 (by decide) (hw (.fieldLink RX0 73 "MotionFloor$Assembly" "reason" "I") (List.mem_of_getElem? (i := 3) rfl)) (fun _ h9 => h9) rfl (by decide +kernel) rfl rfl (Nat.le_of_ble_eq_true rfl) dX0_enact_12 (fun H locs hP hD hS => ?_)
    have hP : va_P G vwCl [(h1, .inr (1, [.int 1, .ref h10, .int 0, .int (-1), .int 0, .int 0, .int (-1), .ref h4])), (h4, .inl (K 0, 9, .inl (upd (fun _ => 1) 6 2))), (h5, .inl (K 0, 112, .inl (fun _ => 0))), (h0, .inr (0, [.ref h1, .ref h2, .ref h6, .ref h7, .ref h3, .ref h8, .ref h9, .int 0, .int 0, .int 9, .null])), (h2, .inr (4, [.ref h11, .int 0])), (h3, .inr (2, [.int 7, .int 600, .ref h5, .int 0]))] _ := hP
    have hD : va_D A [(h1, .inr (1, [.int 1, .ref h10, .int 0, .int (-1), .int 0, .int 0, .int (-1), .ref h4])), (h4, .inl (K 0, 9, .inl (upd (fun _ => 1) 6 2))), (h5, .inl (K 0, 112, .inl (fun _ => 0))), (h0, .inr (0, [.ref h1, .ref h2, .ref h6, .ref h7, .ref h3, .ref h8, .ref h9, .int 0, .int 0, .int 9, .null])), (h2, .inr (4, [.ref h11, .int 0])), (h3, .inr (2, [.int 7, .int 600, .ref h5, .int 0]))] := hD
    refine lv_aload_n hx hb dX0_enact_15 rfl (lv_at hl 0 rfl) ?_
    refine va_get (D := G) (ci := 0) (v := .int 9) (C := RX0) (T := TX0) (N := 11) hx hb hts iX0 hown hK hP 3 rfl rfl 9 (by decide) (hw (.fieldLink RX0 73 "MotionFloor$Assembly" "reason" "I") (List.mem_of_getElem? (i := 3) rfl)) (fun _ h9 => h9) rfl dX0_enact_16 ?_
    refine lv_if_eq (tgt := 28) hx hb dX0_enact_19 (by decide) (fun c_ => absurd c_ (by decide)) (fun _ => ?_)
    refine lv_aload_n hx hb dX0_enact_22 rfl (lv_at hl 0 rfl) ?_
    refine va_get (D := G) (ci := 0) (v := .int 9) (C := RX0) (T := TX0) (N := 11) hx hb hts iX0 hown hK hP 3 rfl rfl 9 (by decide) (hw (.fieldLink RX0 73 "MotionFloor$Assembly" "reason" "I") (List.mem_of_getElem? (i := 3) rfl)) (fun _ h9 => h9) rfl dX0_enact_23 ?_
    refine lv_ineg hx hb dX0_enact_26 ?_
    refine wTop (v1 := .int (-9)) (congrArg Value.int (by decide)) ?_
    have hP9 := hP.sub (ws' := [(h0, .inr (0, [.ref h1, .ref h2, .ref h6, .ref h7, .ref h3, .ref h8, .ref h9, .int 0, .int 0, .int 9, .null])), (h1, .inr (1, [.int 1, .ref h10, .int 0, .int (-1), .int 0, .int 0, .int (-1), .ref h4])), (h2, .inr (4, [.ref h11, .int 0])), (h3, .inr (2, [.int 7, .int 600, .ref h5, .int 0])), (h4, .inl (K 0, 9, .inl (upd (fun _ => 1) 6 2))), (h5, .inl (K 0, 112, .inl (fun _ => 0)))]) [3, 0, 4, 5, 1, 2] rfl
    have hD9 := hD.sub (ws' := [(h0, .inr (0, [.ref h1, .ref h2, .ref h6, .ref h7, .ref h3, .ref h8, .ref h9, .int 0, .int 0, .int 9, .null])), (h1, .inr (1, [.int 1, .ref h10, .int 0, .int (-1), .int 0, .int 0, .int (-1), .ref h4])), (h2, .inr (4, [.ref h11, .int 0])), (h3, .inr (2, [.int 7, .int 600, .ref h5, .int 0])), (h4, .inl (K 0, 9, .inl (upd (fun _ => 1) 6 2))), (h5, .inl (K 0, 112, .inl (fun _ => 0)))]) [3, 0, 4, 5, 1, 2] (by decide) rfl
    exact W.iret (v := (-9)) hx hb hr (fun t ht hW => ⟨⟨(-9), _, rfl, Or.inl ⟨(by first | omega | decide | simp), rfl, rfl⟩, by rw [ht]; exact hP9, hD9⟩, hS.F ht⟩) hS.2.2 dX0_enact_27
  · have c2 := c_w
    have hP : va_P G vwCl [(h1, .inr (1, [.int 1, .ref h10, .int 0, .int (-1), .int 0, .int 0, .int (-1), .ref h4])), (h4, .inl (K 0, 9, .inl (upd (fun _ => 1) 6 2))), (h5, .inl (K 0, 112, .inl (fun _ => 0))), (h0, .inr (0, [.ref h1, .ref h2, .ref h6, .ref h7, .ref h3, .ref h8, .ref h9, .int 0, .int 0, .int 0, .null])), (h2, .inr (4, [.ref h11, .int 0])), (h3, .inr (2, [.int 7, .int 600, .ref h5, .int 0]))] _ := hP
    have hD : va_D A [(h1, .inr (1, [.int 1, .ref h10, .int 0, .int (-1), .int 0, .int 0, .int (-1), .ref h4])), (h4, .inl (K 0, 9, .inl (upd (fun _ => 1) 6 2))), (h5, .inl (K 0, 112, .inl (fun _ => 0))), (h0, .inr (0, [.ref h1, .ref h2, .ref h6, .ref h7, .ref h3, .ref h8, .ref h9, .int 0, .int 0, .int 0, .null])), (h2, .inr (4, [.ref h11, .int 0])), (h3, .inr (2, [.int 7, .int 600, .ref h5, .int 0]))] := hD
    refine va_put (D := G) (ci := 0) (v := .int 0) (ty := .int) (C := RX0) (T := TX0) (N := 11) hx hb hts iX0 tyX0 tyX0_ok nmX0 hown hK hP hD hS 3 rfl rfl 9 (by decide) (hw (.fieldLink RX0 73 "MotionFloor$Assembly" "reason" "I") (List.mem_of_getElem? (i := 3) rfl)) (fun _ h9 => h9) rfl (by decide +kernel) rfl rfl (Nat.le_of_ble_eq_true rfl) dX0_enact_12 (fun H locs hP hD hS => ?_)
    have hP : va_P G vwCl [(h1, .inr (1, [.int 1, .ref h10, .int 0, .int (-1), .int 0, .int 0, .int (-1), .ref h4])), (h4, .inl (K 0, 9, .inl (upd (fun _ => 1) 6 2))), (h5, .inl (K 0, 112, .inl (fun _ => 0))), (h0, .inr (0, [.ref h1, .ref h2, .ref h6, .ref h7, .ref h3, .ref h8, .ref h9, .int 0, .int 0, .int 0, .null])), (h2, .inr (4, [.ref h11, .int 0])), (h3, .inr (2, [.int 7, .int 600, .ref h5, .int 0]))] _ := hP
    have hD : va_D A [(h1, .inr (1, [.int 1, .ref h10, .int 0, .int (-1), .int 0, .int 0, .int (-1), .ref h4])), (h4, .inl (K 0, 9, .inl (upd (fun _ => 1) 6 2))), (h5, .inl (K 0, 112, .inl (fun _ => 0))), (h0, .inr (0, [.ref h1, .ref h2, .ref h6, .ref h7, .ref h3, .ref h8, .ref h9, .int 0, .int 0, .int 0, .null])), (h2, .inr (4, [.ref h11, .int 0])), (h3, .inr (2, [.int 7, .int 600, .ref h5, .int 0]))] := hD
    refine lv_aload_n hx hb dX0_enact_15 rfl (lv_at hl 0 rfl) ?_
    refine va_get (D := G) (ci := 0) (v := .int 0) (C := RX0) (T := TX0) (N := 11) hx hb hts iX0 hown hK hP 3 rfl rfl 9 (by decide) (hw (.fieldLink RX0 73 "MotionFloor$Assembly" "reason" "I") (List.mem_of_getElem? (i := 3) rfl)) (fun _ h9 => h9) rfl dX0_enact_16 ?_
    refine lv_if_eq (tgt := 28) hx hb dX0_enact_19 (by decide) (fun _ => ?_) (fun c_ => absurd c_ (by decide))
    refine lv_aload_n hx hb dX0_enact_28 rfl (lv_at hl 0 rfl) ?_
    refine lv_iload_n hx hb dX0_enact_29 rfl (lv_at hl 1 rfl) ?_
    refine lv_iload_n hx hb dX0_enact_30 rfl (lv_at hl 2 rfl) ?_
    refine lv_iload_n hx hb dX0_enact_31 rfl (lv_at hl 3 rfl) ?_
    refine lv_iload hx hb dX0_enact_32 (lv_at hl 4 rfl) ?_
    refine lv_iload hx hb dX0_enact_34 (lv_at hl 5 rfl) ?_
    have hPc := hP.sub (ws' := [(h0, .inr (0, [.ref h1, .ref h2, .ref h6, .ref h7, .ref h3, .ref h8, .ref h9, .int 0, .int 0, .int 0, .null])), (h1, .inr (1, [.int 1, .ref h10, .int 0, .int (-1), .int 0, .int 0, .int (-1), .ref h4])), (h2, .inr (4, [.ref h11, .int 0])), (h4, .inl (K 0, 9, .inl (upd (fun _ => 1) 6 2)))]) [3, 0, 4, 1] rfl
    have hDc := hD.sub (ws' := [(h0, .inr (0, [.ref h1, .ref h2, .ref h6, .ref h7, .ref h3, .ref h8, .ref h9, .int 0, .int 0, .int 0, .null])), (h1, .inr (1, [.int 1, .ref h10, .int 0, .int (-1), .int 0, .int 0, .int (-1), .ref h4])), (h2, .inr (4, [.ref h11, .int 0])), (h4, .inl (K 0, 9, .inl (upd (fun _ => 1) 6 2)))]) [3, 0, 4, 1] (by decide) rfl
    refine wGoi (wc := [(h0, .inr (0, [.ref h1, .ref h2, .ref h6, .ref h7, .ref h3, .ref h8, .ref h9, .int 0, .int 0, .int 0, .null])), (h1, .inr (1, [.int 1, .ref h10, .int 0, .int (-1), .int 0, .int 0, .int (-1), .ref h4])), (h2, .inr (4, [.ref h11, .int 0])), (h4, .inl (K 0, 9, .inl (upd (fun _ => 1) 6 2)))]) (wr := [(h5, .inl (K 0, 112, .inl (fun _ => 0))), (h3, .inr (2, [.int 7, .int 600, .ref h5, .int 0]))]) (va_runS (As := [.ref h0, .int 5, .int p0, .int p1, .int 0, .int 0]) (rest := []) ⟨hx, hb, hml, hown, hts⟩ (m_X1_perform_2 l G K h0 h1 h2 h4 h6 h7 h3 h8 h9 h10 h11 p0 p1 _ (by omega) (by omega)) (va_cwS 6 hts (wGS t_ (mw (.methodLink RX0 161 yX1_perform) (List.mem_of_getElem? (i := 4) rfl)) (mw (.static yX1_perform) (List.mem_of_getElem? (i := 5) rfl)) (mw (.initialized RX1) (List.mem_of_getElem? (i := 6) rfl)) j_X1_perform_2) rfl rfl rfl (by decide +kernel) ⟨Nat.le_of_ble_eq_true rfl, Nat.le_of_ble_eq_true rfl⟩) (wPS hK hE hPc hDc) rfl rfl hl.1 rfl (lv_room (Nat.le_of_ble_eq_true rfl)) dX0_enact_36 ⟨Nat.le_of_ble_eq_true rfl, Nat.le_of_ble_eq_true rfl⟩) hP hD hS hA [3, 0, 4, 1] [2, 5] rfl rfl rfl (by decide) (fun r u H locs hw hP hD hS => ?_)
    rcases hw with ⟨f3, rfl, rfl⟩
    have hP : va_P G vwCl [(h5, .inl (K 0, 112, .inl (fun _ => 0))), (h3, .inr (2, [.int 7, .int 600, .ref h5, .int 0])), (h0, .inr (0, [.ref h1, .ref h2, .ref h6, .ref h7, .ref h3, .ref h8, .ref h9, .int 0, .int 0, .int 0, .null])), (h1, .inr (1, [.int 1, .ref h10, .int 0, .int (-1), .int 0, .int 0, .int (-1), .ref h4])), (h2, .inr (4, [.ref h11, .int 0])), (h4, .inl (K 0, 9, .inl f3))] _ := hP
    have hD : va_D A [(h5, .inl (K 0, 112, .inl (fun _ => 0))), (h3, .inr (2, [.int 7, .int 600, .ref h5, .int 0])), (h0, .inr (0, [.ref h1, .ref h2, .ref h6, .ref h7, .ref h3, .ref h8, .ref h9, .int 0, .int 0, .int 0, .null])), (h1, .inr (1, [.int 1, .ref h10, .int 0, .int (-1), .int 0, .int 0, .int (-1), .ref h4])), (h2, .inr (4, [.ref h11, .int 0])), (h4, .inl (K 0, 9, .inl f3))] := hD
    refine lv_istore (lv' := [(6, .int ((upd (fun _ => 1) 6 2) p0.toNatClampNeg)), (0, .ref h0), (1, .int 5), (2, .int p0), (3, .int p1), (4, .int 0), (5, .int 0)]) hx hb dX0_enact_39 hl (by decide) rfl (fun ls hl => ?_)
    refine lv_aload_n hx hb dX0_enact_41 rfl (lv_at hl 1 rfl) ?_
    refine va_get (D := G) (ci := 0) (v := .ref h3) (C := RX0) (T := TX0) (N := 11) hx hb hts iX0 hown hK hP 2 rfl rfl 4 (by decide) (hw (.fieldLink RX0 41 "MotionFloor$Assembly" "minutes" "LMotionFloor$Ledger;") (List.mem_of_getElem? (i := 7) rfl)) (fun _ h9 => h9) rfl dX0_enact_42 ?_
    have hPc := hP.sub (ws' := [(h3, .inr (2, [.int 7, .int 600, .ref h5, .int 0])), (h5, .inl (K 0, 112, .inl (fun _ => 0)))]) [1, 0] rfl
    have hDc := hD.sub (ws' := [(h3, .inr (2, [.int 7, .int 600, .ref h5, .int 0])), (h5, .inl (K 0, 112, .inl (fun _ => 0)))]) [1, 0] (by decide) rfl
    refine wGov (wc := [(h3, .inr (2, [.int 7, .int 600, .ref h5, .int 0])), (h5, .inl (K 0, 112, .inl (fun _ => 0)))]) (wr := [(h0, .inr (0, [.ref h1, .ref h2, .ref h6, .ref h7, .ref h3, .ref h8, .ref h9, .int 0, .int 0, .int 0, .null])), (h1, .inr (1, [.int 1, .ref h10, .int 0, .int (-1), .int 0, .int 0, .int (-1), .ref h4])), (h2, .inr (4, [.ref h11, .int 0])), (h4, .inl (K 0, 9, .inl f3))]) (va_runV (As := []) (rest := []) ⟨hx, hb, hml, hown, hts⟩ (m_X3_open_0 l G K h3 h5 _) (cwV 0 hts (wGV t_ (mw (.methodLink RX0 166 yX3_open) (List.mem_of_getElem? (i := 8) rfl)) (mw (.instanceMethod yX3_open) (List.mem_of_getElem? (i := 9) rfl)) (mw (.selects RX3 yX3_open yX3_open) (List.mem_of_getElem? (i := 10) rfl)) (mw (.initialized RX3) (List.mem_of_getElem? (i := 11) rfl)) j_X3_open_0) rfl rfl rfl (by decide +kernel) ⟨Nat.le_of_ble_eq_true rfl, Nat.le_of_ble_eq_true rfl⟩) (wPV hK hE hPc hDc 2 0 rfl rfl) rfl rfl hl.1 rfl (lv_room (Nat.le_of_ble_eq_true rfl)) dX0_enact_45 ⟨Nat.le_of_ble_eq_true rfl, Nat.le_of_ble_eq_true rfl⟩) hP hD hS hA [1, 0] [2, 3, 4, 5] rfl rfl rfl (by decide) (fun u H locs hw hP hD hS => ?_)
    subst hw
    have hP : va_P G vwCl [(h0, .inr (0, [.ref h1, .ref h2, .ref h6, .ref h7, .ref h3, .ref h8, .ref h9, .int 0, .int 0, .int 0, .null])), (h1, .inr (1, [.int 1, .ref h10, .int 0, .int (-1), .int 0, .int 0, .int (-1), .ref h4])), (h2, .inr (4, [.ref h11, .int 0])), (h4, .inl (K 0, 9, .inl f3)), (h3, .inr (2, [.int 7, .int 600, .ref h5, .int 1])), (h5, .inl (K 0, 112, .inl (fun _ => 0)))] _ := hP
    have hD : va_D A [(h0, .inr (0, [.ref h1, .ref h2, .ref h6, .ref h7, .ref h3, .ref h8, .ref h9, .int 0, .int 0, .int 0, .null])), (h1, .inr (1, [.int 1, .ref h10, .int 0, .int (-1), .int 0, .int 0, .int (-1), .ref h4])), (h2, .inr (4, [.ref h11, .int 0])), (h4, .inl (K 0, 9, .inl f3)), (h3, .inr (2, [.int 7, .int 600, .ref h5, .int 1])), (h5, .inl (K 0, 112, .inl (fun _ => 0)))] := hD
    refine lv_aload_n hx hb dX0_enact_48 rfl (lv_at hl 1 rfl) ?_
    refine va_get (D := G) (ci := 0) (v := .ref h3) (C := RX0) (T := TX0) (N := 11) hx hb hts iX0 hown hK hP 0 rfl rfl 4 (by decide) (hw (.fieldLink RX0 41 "MotionFloor$Assembly" "minutes" "LMotionFloor$Ledger;") (List.mem_of_getElem? (i := 7) rfl)) (fun _ h9 => h9) rfl dX0_enact_49 ?_
    refine lv_iconst (v := 0) hx hb dX0_enact_52 (by decide) ?_
    refine lv_iload_n hx hb dX0_enact_53 rfl (lv_at hl 2 rfl) ?_
    have hPc := hP.sub (ws' := [(h3, .inr (2, [.int 7, .int 600, .ref h5, .int 1])), (h5, .inl (K 0, 112, .inl (fun _ => 0)))]) [4, 5] rfl
    have hDc := hD.sub (ws' := [(h3, .inr (2, [.int 7, .int 600, .ref h5, .int 1])), (h5, .inl (K 0, 112, .inl (fun _ => 0)))]) [4, 5] (by decide) rfl
    refine wGov (wc := [(h3, .inr (2, [.int 7, .int 600, .ref h5, .int 1])), (h5, .inl (K 0, 112, .inl (fun _ => 0)))]) (wr := [(h0, .inr (0, [.ref h1, .ref h2, .ref h6, .ref h7, .ref h3, .ref h8, .ref h9, .int 0, .int 0, .int 0, .null])), (h1, .inr (1, [.int 1, .ref h10, .int 0, .int (-1), .int 0, .int 0, .int (-1), .ref h4])), (h2, .inr (4, [.ref h11, .int 0])), (h4, .inl (K 0, 9, .inl f3))]) (va_runV (As := [.int 0, .int 5]) (rest := []) ⟨hx, hb, hml, hown, hts⟩ (m_X3_write_14 l G K h3 h5 _) (cwV 2 hts (wGV t_ (mw (.methodLink RX0 169 yX3_write) (List.mem_of_getElem? (i := 12) rfl)) (mw (.instanceMethod yX3_write) (List.mem_of_getElem? (i := 13) rfl)) (mw (.selects RX3 yX3_write yX3_write) (List.mem_of_getElem? (i := 14) rfl)) (mw (.initialized RX3) (List.mem_of_getElem? (i := 11) rfl)) j_X3_write_14) rfl rfl rfl (by decide +kernel) ⟨Nat.le_of_ble_eq_true rfl, Nat.le_of_ble_eq_true rfl⟩) (wPV hK hE hPc hDc 2 0 rfl rfl) rfl rfl hl.1 rfl (lv_room (Nat.le_of_ble_eq_true rfl)) dX0_enact_54 ⟨Nat.le_of_ble_eq_true rfl, Nat.le_of_ble_eq_true rfl⟩) hP hD hS hA [4, 5] [0, 1, 2, 3] rfl rfl rfl (by decide) (fun u H locs hw hP hD hS => ?_)
    subst hw
    have hP : va_P G vwCl [(h0, .inr (0, [.ref h1, .ref h2, .ref h6, .ref h7, .ref h3, .ref h8, .ref h9, .int 0, .int 0, .int 0, .null])), (h1, .inr (1, [.int 1, .ref h10, .int 0, .int (-1), .int 0, .int 0, .int (-1), .ref h4])), (h2, .inr (4, [.ref h11, .int 0])), (h4, .inl (K 0, 9, .inl f3)), (h3, .inr (2, [.int 7, .int 600, .ref h5, .int 1])), (h5, .inl (K 0, 112, .inl (upd (fun _ => 0) 0 5)))] _ := hP
    have hD : va_D A [(h0, .inr (0, [.ref h1, .ref h2, .ref h6, .ref h7, .ref h3, .ref h8, .ref h9, .int 0, .int 0, .int 0, .null])), (h1, .inr (1, [.int 1, .ref h10, .int 0, .int (-1), .int 0, .int 0, .int (-1), .ref h4])), (h2, .inr (4, [.ref h11, .int 0])), (h4, .inl (K 0, 9, .inl f3)), (h3, .inr (2, [.int 7, .int 600, .ref h5, .int 1])), (h5, .inl (K 0, 112, .inl (upd (fun _ => 0) 0 5)))] := hD
    refine lv_aload_n hx hb dX0_enact_57 rfl (lv_at hl 1 rfl) ?_
    refine va_get (D := G) (ci := 0) (v := .ref h3) (C := RX0) (T := TX0) (N := 11) hx hb hts iX0 hown hK hP 0 rfl rfl 4 (by decide) (hw (.fieldLink RX0 41 "MotionFloor$Assembly" "minutes" "LMotionFloor$Ledger;") (List.mem_of_getElem? (i := 7) rfl)) (fun _ h9 => h9) rfl dX0_enact_58 ?_
    refine lv_iconst (v := 1) hx hb dX0_enact_61 (by decide) ?_
    refine lv_iload_n hx hb dX0_enact_62 rfl (lv_at hl 3 rfl) ?_
    have hPc := hP.sub (ws' := [(h3, .inr (2, [.int 7, .int 600, .ref h5, .int 1])), (h5, .inl (K 0, 112, .inl (upd (fun _ => 0) 0 5)))]) [4, 5] rfl
    have hDc := hD.sub (ws' := [(h3, .inr (2, [.int 7, .int 600, .ref h5, .int 1])), (h5, .inl (K 0, 112, .inl (upd (fun _ => 0) 0 5)))]) [4, 5] (by decide) rfl
    refine wGov (wc := [(h3, .inr (2, [.int 7, .int 600, .ref h5, .int 1])), (h5, .inl (K 0, 112, .inl (upd (fun _ => 0) 0 5)))]) (wr := [(h0, .inr (0, [.ref h1, .ref h2, .ref h6, .ref h7, .ref h3, .ref h8, .ref h9, .int 0, .int 0, .int 0, .null])), (h1, .inr (1, [.int 1, .ref h10, .int 0, .int (-1), .int 0, .int 0, .int (-1), .ref h4])), (h2, .inr (4, [.ref h11, .int 0])), (h4, .inl (K 0, 9, .inl f3))]) (va_runV (As := [.int 1, .int p0]) (rest := []) ⟨hx, hb, hml, hown, hts⟩ (m_X3_write_15 l G K h3 h5 p0 _ (by omega)) (cwV 2 hts (wGV t_ (mw (.methodLink RX0 169 yX3_write) (List.mem_of_getElem? (i := 12) rfl)) (mw (.instanceMethod yX3_write) (List.mem_of_getElem? (i := 13) rfl)) (mw (.selects RX3 yX3_write yX3_write) (List.mem_of_getElem? (i := 14) rfl)) (mw (.initialized RX3) (List.mem_of_getElem? (i := 11) rfl)) j_X3_write_15) rfl rfl rfl (by decide +kernel) ⟨Nat.le_of_ble_eq_true rfl, Nat.le_of_ble_eq_true rfl⟩) (wPV hK hE hPc hDc 2 0 rfl rfl) rfl rfl hl.1 rfl (lv_room (Nat.le_of_ble_eq_true rfl)) dX0_enact_63 ⟨Nat.le_of_ble_eq_true rfl, Nat.le_of_ble_eq_true rfl⟩) hP hD hS hA [4, 5] [0, 1, 2, 3] rfl rfl rfl (by decide) (fun u H locs hw hP hD hS => ?_)
    subst hw
    have hP : va_P G vwCl [(h0, .inr (0, [.ref h1, .ref h2, .ref h6, .ref h7, .ref h3, .ref h8, .ref h9, .int 0, .int 0, .int 0, .null])), (h1, .inr (1, [.int 1, .ref h10, .int 0, .int (-1), .int 0, .int 0, .int (-1), .ref h4])), (h2, .inr (4, [.ref h11, .int 0])), (h4, .inl (K 0, 9, .inl f3)), (h3, .inr (2, [.int 7, .int 600, .ref h5, .int 1])), (h5, .inl (K 0, 112, .inl (upd (upd (fun _ => 0) 0 5) 1 p0)))] _ := hP
    have hD : va_D A [(h0, .inr (0, [.ref h1, .ref h2, .ref h6, .ref h7, .ref h3, .ref h8, .ref h9, .int 0, .int 0, .int 0, .null])), (h1, .inr (1, [.int 1, .ref h10, .int 0, .int (-1), .int 0, .int 0, .int (-1), .ref h4])), (h2, .inr (4, [.ref h11, .int 0])), (h4, .inl (K 0, 9, .inl f3)), (h3, .inr (2, [.int 7, .int 600, .ref h5, .int 1])), (h5, .inl (K 0, 112, .inl (upd (upd (fun _ => 0) 0 5) 1 p0)))] := hD
    refine lv_aload_n hx hb dX0_enact_66 rfl (lv_at hl 1 rfl) ?_
    refine va_get (D := G) (ci := 0) (v := .ref h3) (C := RX0) (T := TX0) (N := 11) hx hb hts iX0 hown hK hP 0 rfl rfl 4 (by decide) (hw (.fieldLink RX0 41 "MotionFloor$Assembly" "minutes" "LMotionFloor$Ledger;") (List.mem_of_getElem? (i := 7) rfl)) (fun _ h9 => h9) rfl dX0_enact_67 ?_
    refine lv_iconst (v := 2) hx hb dX0_enact_70 (by decide) ?_
    refine lv_iload_n hx hb dX0_enact_71 rfl (lv_at hl 4 rfl) ?_
    have hPc := hP.sub (ws' := [(h3, .inr (2, [.int 7, .int 600, .ref h5, .int 1])), (h5, .inl (K 0, 112, .inl (upd (upd (fun _ => 0) 0 5) 1 p0)))]) [4, 5] rfl
    have hDc := hD.sub (ws' := [(h3, .inr (2, [.int 7, .int 600, .ref h5, .int 1])), (h5, .inl (K 0, 112, .inl (upd (upd (fun _ => 0) 0 5) 1 p0)))]) [4, 5] (by decide) rfl
    refine wGov (wc := [(h3, .inr (2, [.int 7, .int 600, .ref h5, .int 1])), (h5, .inl (K 0, 112, .inl (upd (upd (fun _ => 0) 0 5) 1 p0)))]) (wr := [(h0, .inr (0, [.ref h1, .ref h2, .ref h6, .ref h7, .ref h3, .ref h8, .ref h9, .int 0, .int 0, .int 0, .null])), (h1, .inr (1, [.int 1, .ref h10, .int 0, .int (-1), .int 0, .int 0, .int (-1), .ref h4])), (h2, .inr (4, [.ref h11, .int 0])), (h4, .inl (K 0, 9, .inl f3))]) (va_runV (As := [.int 2, .int p1]) (rest := []) ⟨hx, hb, hml, hown, hts⟩ (m_X3_write_16 l G K h3 h5 p1 p0 _ (by omega) (by omega)) (cwV 2 hts (wGV t_ (mw (.methodLink RX0 169 yX3_write) (List.mem_of_getElem? (i := 12) rfl)) (mw (.instanceMethod yX3_write) (List.mem_of_getElem? (i := 13) rfl)) (mw (.selects RX3 yX3_write yX3_write) (List.mem_of_getElem? (i := 14) rfl)) (mw (.initialized RX3) (List.mem_of_getElem? (i := 11) rfl)) j_X3_write_16) rfl rfl rfl (by decide +kernel) ⟨Nat.le_of_ble_eq_true rfl, Nat.le_of_ble_eq_true rfl⟩) (wPV hK hE hPc hDc 2 0 rfl rfl) rfl rfl hl.1 rfl (lv_room (Nat.le_of_ble_eq_true rfl)) dX0_enact_72 ⟨Nat.le_of_ble_eq_true rfl, Nat.le_of_ble_eq_true rfl⟩) hP hD hS hA [4, 5] [0, 1, 2, 3] rfl rfl rfl (by decide) (fun u H locs hw hP hD hS => ?_)
    subst hw
    have hP : va_P G vwCl [(h0, .inr (0, [.ref h1, .ref h2, .ref h6, .ref h7, .ref h3, .ref h8, .ref h9, .int 0, .int 0, .int 0, .null])), (h1, .inr (1, [.int 1, .ref h10, .int 0, .int (-1), .int 0, .int 0, .int (-1), .ref h4])), (h2, .inr (4, [.ref h11, .int 0])), (h4, .inl (K 0, 9, .inl f3)), (h3, .inr (2, [.int 7, .int 600, .ref h5, .int 1])), (h5, .inl (K 0, 112, .inl (upd (upd (upd (fun _ => 0) 0 5) 1 p0) 2 p1)))] _ := hP
    have hD : va_D A [(h0, .inr (0, [.ref h1, .ref h2, .ref h6, .ref h7, .ref h3, .ref h8, .ref h9, .int 0, .int 0, .int 0, .null])), (h1, .inr (1, [.int 1, .ref h10, .int 0, .int (-1), .int 0, .int 0, .int (-1), .ref h4])), (h2, .inr (4, [.ref h11, .int 0])), (h4, .inl (K 0, 9, .inl f3)), (h3, .inr (2, [.int 7, .int 600, .ref h5, .int 1])), (h5, .inl (K 0, 112, .inl (upd (upd (upd (fun _ => 0) 0 5) 1 p0) 2 p1)))] := hD
    refine lv_aload_n hx hb dX0_enact_75 rfl (lv_at hl 1 rfl) ?_
    refine va_get (D := G) (ci := 0) (v := .ref h3) (C := RX0) (T := TX0) (N := 11) hx hb hts iX0 hown hK hP 0 rfl rfl 4 (by decide) (hw (.fieldLink RX0 41 "MotionFloor$Assembly" "minutes" "LMotionFloor$Ledger;") (List.mem_of_getElem? (i := 7) rfl)) (fun _ h9 => h9) rfl dX0_enact_76 ?_
    refine lv_iconst (v := 3) hx hb dX0_enact_79 (by decide) ?_
    refine lv_iload hx hb dX0_enact_80 (lv_at hl 5 rfl) ?_
    have hPc := hP.sub (ws' := [(h3, .inr (2, [.int 7, .int 600, .ref h5, .int 1])), (h5, .inl (K 0, 112, .inl (upd (upd (upd (fun _ => 0) 0 5) 1 p0) 2 p1)))]) [4, 5] rfl
    have hDc := hD.sub (ws' := [(h3, .inr (2, [.int 7, .int 600, .ref h5, .int 1])), (h5, .inl (K 0, 112, .inl (upd (upd (upd (fun _ => 0) 0 5) 1 p0) 2 p1)))]) [4, 5] (by decide) rfl
    refine wGov (wc := [(h3, .inr (2, [.int 7, .int 600, .ref h5, .int 1])), (h5, .inl (K 0, 112, .inl (upd (upd (upd (fun _ => 0) 0 5) 1 p0) 2 p1)))]) (wr := [(h0, .inr (0, [.ref h1, .ref h2, .ref h6, .ref h7, .ref h3, .ref h8, .ref h9, .int 0, .int 0, .int 0, .null])), (h1, .inr (1, [.int 1, .ref h10, .int 0, .int (-1), .int 0, .int 0, .int (-1), .ref h4])), (h2, .inr (4, [.ref h11, .int 0])), (h4, .inl (K 0, 9, .inl f3))]) (va_runV (As := [.int 3, .int 0]) (rest := []) ⟨hx, hb, hml, hown, hts⟩ (m_X3_write_17 l G K h3 h5 p0 p1 _ (by omega) (by omega)) (cwV 2 hts (wGV t_ (mw (.methodLink RX0 169 yX3_write) (List.mem_of_getElem? (i := 12) rfl)) (mw (.instanceMethod yX3_write) (List.mem_of_getElem? (i := 13) rfl)) (mw (.selects RX3 yX3_write yX3_write) (List.mem_of_getElem? (i := 14) rfl)) (mw (.initialized RX3) (List.mem_of_getElem? (i := 11) rfl)) j_X3_write_17) rfl rfl rfl (by decide +kernel) ⟨Nat.le_of_ble_eq_true rfl, Nat.le_of_ble_eq_true rfl⟩) (wPV hK hE hPc hDc 2 0 rfl rfl) rfl rfl hl.1 rfl (lv_room (Nat.le_of_ble_eq_true rfl)) dX0_enact_82 ⟨Nat.le_of_ble_eq_true rfl, Nat.le_of_ble_eq_true rfl⟩) hP hD hS hA [4, 5] [0, 1, 2, 3] rfl rfl rfl (by decide) (fun u H locs hw hP hD hS => ?_)
    subst hw
    have hP : va_P G vwCl [(h0, .inr (0, [.ref h1, .ref h2, .ref h6, .ref h7, .ref h3, .ref h8, .ref h9, .int 0, .int 0, .int 0, .null])), (h1, .inr (1, [.int 1, .ref h10, .int 0, .int (-1), .int 0, .int 0, .int (-1), .ref h4])), (h2, .inr (4, [.ref h11, .int 0])), (h4, .inl (K 0, 9, .inl f3)), (h3, .inr (2, [.int 7, .int 600, .ref h5, .int 1])), (h5, .inl (K 0, 112, .inl (upd (upd (upd (upd (fun _ => 0) 0 5) 1 p0) 2 p1) 3 0)))] _ := hP
    have hD : va_D A [(h0, .inr (0, [.ref h1, .ref h2, .ref h6, .ref h7, .ref h3, .ref h8, .ref h9, .int 0, .int 0, .int 0, .null])), (h1, .inr (1, [.int 1, .ref h10, .int 0, .int (-1), .int 0, .int 0, .int (-1), .ref h4])), (h2, .inr (4, [.ref h11, .int 0])), (h4, .inl (K 0, 9, .inl f3)), (h3, .inr (2, [.int 7, .int 600, .ref h5, .int 1])), (h5, .inl (K 0, 112, .inl (upd (upd (upd (upd (fun _ => 0) 0 5) 1 p0) 2 p1) 3 0)))] := hD
    refine lv_aload_n hx hb dX0_enact_85 rfl (lv_at hl 1 rfl) ?_
    refine va_get (D := G) (ci := 0) (v := .ref h3) (C := RX0) (T := TX0) (N := 11) hx hb hts iX0 hown hK hP 0 rfl rfl 4 (by decide) (hw (.fieldLink RX0 41 "MotionFloor$Assembly" "minutes" "LMotionFloor$Ledger;") (List.mem_of_getElem? (i := 7) rfl)) (fun _ h9 => h9) rfl dX0_enact_86 ?_
    refine lv_iconst (v := 4) hx hb dX0_enact_89 (by decide) ?_
    refine lv_iload hx hb dX0_enact_90 (lv_at hl 6 rfl) ?_
    have hPc := hP.sub (ws' := [(h3, .inr (2, [.int 7, .int 600, .ref h5, .int 1])), (h5, .inl (K 0, 112, .inl (upd (upd (upd (upd (fun _ => 0) 0 5) 1 p0) 2 p1) 3 0)))]) [4, 5] rfl
    have hDc := hD.sub (ws' := [(h3, .inr (2, [.int 7, .int 600, .ref h5, .int 1])), (h5, .inl (K 0, 112, .inl (upd (upd (upd (upd (fun _ => 0) 0 5) 1 p0) 2 p1) 3 0)))]) [4, 5] (by decide) rfl
    refine wGov (wc := [(h3, .inr (2, [.int 7, .int 600, .ref h5, .int 1])), (h5, .inl (K 0, 112, .inl (upd (upd (upd (upd (fun _ => 0) 0 5) 1 p0) 2 p1) 3 0)))]) (wr := [(h0, .inr (0, [.ref h1, .ref h2, .ref h6, .ref h7, .ref h3, .ref h8, .ref h9, .int 0, .int 0, .int 0, .null])), (h1, .inr (1, [.int 1, .ref h10, .int 0, .int (-1), .int 0, .int 0, .int (-1), .ref h4])), (h2, .inr (4, [.ref h11, .int 0])), (h4, .inl (K 0, 9, .inl f3))]) (va_runV (As := [.int 4, .int 0]) (rest := []) ⟨hx, hb, hml, hown, hts⟩ (m_X3_write_18 l G K h3 h5 p0 p1 _ (by omega) (by omega)) (cwV 2 hts (wGV t_ (mw (.methodLink RX0 169 yX3_write) (List.mem_of_getElem? (i := 12) rfl)) (mw (.instanceMethod yX3_write) (List.mem_of_getElem? (i := 13) rfl)) (mw (.selects RX3 yX3_write yX3_write) (List.mem_of_getElem? (i := 14) rfl)) (mw (.initialized RX3) (List.mem_of_getElem? (i := 11) rfl)) j_X3_write_18) rfl rfl rfl (by decide +kernel) ⟨Nat.le_of_ble_eq_true rfl, Nat.le_of_ble_eq_true rfl⟩) (wPV hK hE hPc hDc 2 0 rfl rfl) rfl rfl hl.1 rfl (lv_room (Nat.le_of_ble_eq_true rfl)) dX0_enact_92 ⟨Nat.le_of_ble_eq_true rfl, Nat.le_of_ble_eq_true rfl⟩) hP hD hS hA [4, 5] [0, 1, 2, 3] rfl rfl rfl (by decide) (fun u H locs hw hP hD hS => ?_)
    subst hw
    have hP : va_P G vwCl [(h0, .inr (0, [.ref h1, .ref h2, .ref h6, .ref h7, .ref h3, .ref h8, .ref h9, .int 0, .int 0, .int 0, .null])), (h1, .inr (1, [.int 1, .ref h10, .int 0, .int (-1), .int 0, .int 0, .int (-1), .ref h4])), (h2, .inr (4, [.ref h11, .int 0])), (h4, .inl (K 0, 9, .inl f3)), (h3, .inr (2, [.int 7, .int 600, .ref h5, .int 1])), (h5, .inl (K 0, 112, .inl (upd (upd (upd (upd (upd (fun _ => 0) 0 5) 1 p0) 2 p1) 3 0) 4 0)))] _ := hP
    have hD : va_D A [(h0, .inr (0, [.ref h1, .ref h2, .ref h6, .ref h7, .ref h3, .ref h8, .ref h9, .int 0, .int 0, .int 0, .null])), (h1, .inr (1, [.int 1, .ref h10, .int 0, .int (-1), .int 0, .int 0, .int (-1), .ref h4])), (h2, .inr (4, [.ref h11, .int 0])), (h4, .inl (K 0, 9, .inl f3)), (h3, .inr (2, [.int 7, .int 600, .ref h5, .int 1])), (h5, .inl (K 0, 112, .inl (upd (upd (upd (upd (upd (fun _ => 0) 0 5) 1 p0) 2 p1) 3 0) 4 0)))] := hD
    refine lv_aload_n hx hb dX0_enact_95 rfl (lv_at hl 1 rfl) ?_
    refine va_get (D := G) (ci := 0) (v := .ref h3) (C := RX0) (T := TX0) (N := 11) hx hb hts iX0 hown hK hP 0 rfl rfl 4 (by decide) (hw (.fieldLink RX0 41 "MotionFloor$Assembly" "minutes" "LMotionFloor$Ledger;") (List.mem_of_getElem? (i := 7) rfl)) (fun _ h9 => h9) rfl dX0_enact_96 ?_
    refine lv_iconst (v := 5) hx hb dX0_enact_99 (by decide) ?_
    refine lv_iload hx hb dX0_enact_100 (lv_at hl 0 rfl) ?_
    have hPc := hP.sub (ws' := [(h3, .inr (2, [.int 7, .int 600, .ref h5, .int 1])), (h5, .inl (K 0, 112, .inl (upd (upd (upd (upd (upd (fun _ => 0) 0 5) 1 p0) 2 p1) 3 0) 4 0)))]) [4, 5] rfl
    have hDc := hD.sub (ws' := [(h3, .inr (2, [.int 7, .int 600, .ref h5, .int 1])), (h5, .inl (K 0, 112, .inl (upd (upd (upd (upd (upd (fun _ => 0) 0 5) 1 p0) 2 p1) 3 0) 4 0)))]) [4, 5] (by decide) rfl
    refine wGov (wc := [(h3, .inr (2, [.int 7, .int 600, .ref h5, .int 1])), (h5, .inl (K 0, 112, .inl (upd (upd (upd (upd (upd (fun _ => 0) 0 5) 1 p0) 2 p1) 3 0) 4 0)))]) (wr := [(h0, .inr (0, [.ref h1, .ref h2, .ref h6, .ref h7, .ref h3, .ref h8, .ref h9, .int 0, .int 0, .int 0, .null])), (h1, .inr (1, [.int 1, .ref h10, .int 0, .int (-1), .int 0, .int 0, .int (-1), .ref h4])), (h2, .inr (4, [.ref h11, .int 0])), (h4, .inl (K 0, 9, .inl f3))]) (va_runV (As := [.int 5, .int ((upd (fun _ => 1) 6 2) p0.toNatClampNeg)]) (rest := []) ⟨hx, hb, hml, hown, hts⟩ (m_X3_write_19 l G K h3 h5 ((upd (fun _ => 1) 6 2) p0.toNatClampNeg) p0 p1 _ (by omega) (by omega)) (cwV 2 hts (wGV t_ (mw (.methodLink RX0 169 yX3_write) (List.mem_of_getElem? (i := 12) rfl)) (mw (.instanceMethod yX3_write) (List.mem_of_getElem? (i := 13) rfl)) (mw (.selects RX3 yX3_write yX3_write) (List.mem_of_getElem? (i := 14) rfl)) (mw (.initialized RX3) (List.mem_of_getElem? (i := 11) rfl)) j_X3_write_19) rfl rfl rfl (by decide +kernel) ⟨Nat.le_of_ble_eq_true rfl, Nat.le_of_ble_eq_true rfl⟩) (wPV hK hE hPc hDc 2 0 rfl rfl) rfl rfl hl.1 rfl (lv_room (Nat.le_of_ble_eq_true rfl)) dX0_enact_102 ⟨Nat.le_of_ble_eq_true rfl, Nat.le_of_ble_eq_true rfl⟩) hP hD hS hA [4, 5] [0, 1, 2, 3] rfl rfl rfl (by decide) (fun u H locs hw hP hD hS => ?_)
    subst hw
    have hP : va_P G vwCl [(h0, .inr (0, [.ref h1, .ref h2, .ref h6, .ref h7, .ref h3, .ref h8, .ref h9, .int 0, .int 0, .int 0, .null])), (h1, .inr (1, [.int 1, .ref h10, .int 0, .int (-1), .int 0, .int 0, .int (-1), .ref h4])), (h2, .inr (4, [.ref h11, .int 0])), (h4, .inl (K 0, 9, .inl f3)), (h3, .inr (2, [.int 7, .int 600, .ref h5, .int 1])), (h5, .inl (K 0, 112, .inl (upd (upd (upd (upd (upd (upd (fun _ => 0) 0 5) 1 p0) 2 p1) 3 0) 4 0) 5 ((upd (fun _ => 1) 6 2) p0.toNatClampNeg))))] _ := hP
    have hD : va_D A [(h0, .inr (0, [.ref h1, .ref h2, .ref h6, .ref h7, .ref h3, .ref h8, .ref h9, .int 0, .int 0, .int 0, .null])), (h1, .inr (1, [.int 1, .ref h10, .int 0, .int (-1), .int 0, .int 0, .int (-1), .ref h4])), (h2, .inr (4, [.ref h11, .int 0])), (h4, .inl (K 0, 9, .inl f3)), (h3, .inr (2, [.int 7, .int 600, .ref h5, .int 1])), (h5, .inl (K 0, 112, .inl (upd (upd (upd (upd (upd (upd (fun _ => 0) 0 5) 1 p0) 2 p1) 3 0) 4 0) 5 ((upd (fun _ => 1) 6 2) p0.toNatClampNeg))))] := hD
    refine lv_aload_n hx hb dX0_enact_105 rfl (lv_at hl 1 rfl) ?_
    refine va_get (D := G) (ci := 0) (v := .ref h3) (C := RX0) (T := TX0) (N := 11) hx hb hts iX0 hown hK hP 0 rfl rfl 4 (by decide) (hw (.fieldLink RX0 41 "MotionFloor$Assembly" "minutes" "LMotionFloor$Ledger;") (List.mem_of_getElem? (i := 7) rfl)) (fun _ h9 => h9) rfl dX0_enact_106 ?_
    refine lv_bipush (v := 6) hx hb dX0_enact_109 (by decide) ?_
    refine lv_aload_n hx hb dX0_enact_111 rfl (lv_at hl 1 rfl) ?_
    refine va_get (D := G) (ci := 0) (v := .ref h2) (C := RX0) (T := TX0) (N := 11) hx hb hts iX0 hown hK hP 0 rfl rfl 1 (by decide) (hw (.fieldLink RX0 21 "MotionFloor$Assembly" "pending" "LMotionFloor$Pile;") (List.mem_of_getElem? (i := 15) rfl)) (fun _ h9 => h9) rfl dX0_enact_112 ?_
    refine va_get (D := G) (ci := 4) (v := .int 0) (C := RX5) (T := TX5) (N := 2) hx hb hts iX5 hown hK hP 2 rfl rfl 1 (by decide) (hw (.fieldLink RX0 96 "MotionFloor$Pile" "size" "I") (List.mem_of_getElem? (i := 16) rfl)) (fun _ h9 => h9) rfl dX0_enact_115 ?_
    have hPc := hP.sub (ws' := [(h3, .inr (2, [.int 7, .int 600, .ref h5, .int 1])), (h5, .inl (K 0, 112, .inl (upd (upd (upd (upd (upd (upd (fun _ => 0) 0 5) 1 p0) 2 p1) 3 0) 4 0) 5 ((upd (fun _ => 1) 6 2) p0.toNatClampNeg))))]) [4, 5] rfl
    have hDc := hD.sub (ws' := [(h3, .inr (2, [.int 7, .int 600, .ref h5, .int 1])), (h5, .inl (K 0, 112, .inl (upd (upd (upd (upd (upd (upd (fun _ => 0) 0 5) 1 p0) 2 p1) 3 0) 4 0) 5 ((upd (fun _ => 1) 6 2) p0.toNatClampNeg))))]) [4, 5] (by decide) rfl
    refine wGov (wc := [(h3, .inr (2, [.int 7, .int 600, .ref h5, .int 1])), (h5, .inl (K 0, 112, .inl (upd (upd (upd (upd (upd (upd (fun _ => 0) 0 5) 1 p0) 2 p1) 3 0) 4 0) 5 ((upd (fun _ => 1) 6 2) p0.toNatClampNeg))))]) (wr := [(h0, .inr (0, [.ref h1, .ref h2, .ref h6, .ref h7, .ref h3, .ref h8, .ref h9, .int 0, .int 0, .int 0, .null])), (h1, .inr (1, [.int 1, .ref h10, .int 0, .int (-1), .int 0, .int 0, .int (-1), .ref h4])), (h2, .inr (4, [.ref h11, .int 0])), (h4, .inl (K 0, 9, .inl f3))]) (va_runV (As := [.int 6, .int 0]) (rest := []) ⟨hx, hb, hml, hown, hts⟩ (m_X3_write_20 l G K h3 h5 p0 p1 ((upd (fun _ => 1) 6 2) p0.toNatClampNeg) _ (by omega) (by omega)) (cwV 2 hts (wGV t_ (mw (.methodLink RX0 169 yX3_write) (List.mem_of_getElem? (i := 12) rfl)) (mw (.instanceMethod yX3_write) (List.mem_of_getElem? (i := 13) rfl)) (mw (.selects RX3 yX3_write yX3_write) (List.mem_of_getElem? (i := 14) rfl)) (mw (.initialized RX3) (List.mem_of_getElem? (i := 11) rfl)) j_X3_write_20) rfl rfl rfl (by decide +kernel) ⟨Nat.le_of_ble_eq_true rfl, Nat.le_of_ble_eq_true rfl⟩) (wPV hK hE hPc hDc 2 0 rfl rfl) rfl rfl hl.1 rfl (lv_room (Nat.le_of_ble_eq_true rfl)) dX0_enact_118 ⟨Nat.le_of_ble_eq_true rfl, Nat.le_of_ble_eq_true rfl⟩) hP hD hS hA [4, 5] [0, 1, 2, 3] rfl rfl rfl (by decide) (fun u H locs hw hP hD hS => ?_)
    subst hw
    have hP : va_P G vwCl [(h0, .inr (0, [.ref h1, .ref h2, .ref h6, .ref h7, .ref h3, .ref h8, .ref h9, .int 0, .int 0, .int 0, .null])), (h1, .inr (1, [.int 1, .ref h10, .int 0, .int (-1), .int 0, .int 0, .int (-1), .ref h4])), (h2, .inr (4, [.ref h11, .int 0])), (h4, .inl (K 0, 9, .inl f3)), (h3, .inr (2, [.int 7, .int 600, .ref h5, .int 1])), (h5, .inl (K 0, 112, .inl (upd (upd (upd (upd (upd (upd (upd (fun _ => 0) 0 5) 1 p0) 2 p1) 3 0) 4 0) 5 ((upd (fun _ => 1) 6 2) p0.toNatClampNeg)) 6 0)))] _ := hP
    have hD : va_D A [(h0, .inr (0, [.ref h1, .ref h2, .ref h6, .ref h7, .ref h3, .ref h8, .ref h9, .int 0, .int 0, .int 0, .null])), (h1, .inr (1, [.int 1, .ref h10, .int 0, .int (-1), .int 0, .int 0, .int (-1), .ref h4])), (h2, .inr (4, [.ref h11, .int 0])), (h4, .inl (K 0, 9, .inl f3)), (h3, .inr (2, [.int 7, .int 600, .ref h5, .int 1])), (h5, .inl (K 0, 112, .inl (upd (upd (upd (upd (upd (upd (upd (fun _ => 0) 0 5) 1 p0) 2 p1) 3 0) 4 0) 5 ((upd (fun _ => 1) 6 2) p0.toNatClampNeg)) 6 0)))] := hD
    refine lv_iload hx hb dX0_enact_121 (lv_at hl 0 rfl) ?_
    have hP9 := hP.sub (ws' := [(h0, .inr (0, [.ref h1, .ref h2, .ref h6, .ref h7, .ref h3, .ref h8, .ref h9, .int 0, .int 0, .int 0, .null])), (h1, .inr (1, [.int 1, .ref h10, .int 0, .int (-1), .int 0, .int 0, .int (-1), .ref h4])), (h2, .inr (4, [.ref h11, .int 0])), (h3, .inr (2, [.int 7, .int 600, .ref h5, .int 1])), (h4, .inl (K 0, 9, .inl f3)), (h5, .inl (K 0, 112, .inl (upd (upd (upd (upd (upd (upd (upd (fun _ => 0) 0 5) 1 p0) 2 p1) 3 0) 4 0) 5 ((upd (fun _ => 1) 6 2) p0.toNatClampNeg)) 6 0)))]) [0, 1, 2, 4, 3, 5] rfl
    have hD9 := hD.sub (ws' := [(h0, .inr (0, [.ref h1, .ref h2, .ref h6, .ref h7, .ref h3, .ref h8, .ref h9, .int 0, .int 0, .int 0, .null])), (h1, .inr (1, [.int 1, .ref h10, .int 0, .int (-1), .int 0, .int 0, .int (-1), .ref h4])), (h2, .inr (4, [.ref h11, .int 0])), (h3, .inr (2, [.int 7, .int 600, .ref h5, .int 1])), (h4, .inl (K 0, 9, .inl f3)), (h5, .inl (K 0, 112, .inl (upd (upd (upd (upd (upd (upd (upd (fun _ => 0) 0 5) 1 p0) 2 p1) 3 0) 4 0) 5 ((upd (fun _ => 1) 6 2) p0.toNatClampNeg)) 6 0)))]) [0, 1, 2, 4, 3, 5] (by decide) rfl
    exact W.iret (v := ((upd (fun _ => 1) 6 2) p0.toNatClampNeg)) hx hb hr (fun t ht hW => ⟨⟨((upd (fun _ => 1) 6 2) p0.toNatClampNeg), _, rfl, Or.inr (⟨f3, (by first | omega | decide | simp), rfl, rfl⟩), by rw [ht]; exact hP9, hD9⟩, hS.F ht⟩) hS.2.2 dX0_enact_123
def e_X10_majority_0 : List Cond := [.fieldLink RX10 10 "MotionFloor" "now" "LMotionFloor$Assembly;", .methodLink RX10 32 yX0_enact, .instanceMethod yX0_enact, .selects RX0 yX0_enact yX0_enact, .initialized RX0]
def v_X10_majority_0 : List Cond := .code yX10_majority cX10_majority 3 (some .int) :: (e_X10_majority_0 ++ (wsX100 ++ (v_X0_enact_4 ++ [])))
theorem te_X10_majority_0 : GoodIn lw_tbl e_X10_majority_0 := wGc z115 (wGc z209 (wGc z208 (wGc z207 (wGc z118 (wG0)))))
theorem t_X10_majority_0 : GoodIn lw_tbl v_X10_majority_0 := wGc z227 (wGa te_X10_majority_0 (wGa zcX10 (wGa t_X0_enact_4 (wG0))))
set_option maxHeartbeats 4000000 in
set_option maxRecDepth 100000 in
theorem m_X10_majority_0 (l : Launch) (G : va_G) (K : Nat → ClassId) (h0 h1 h2 h3 h4 h5 h6 h7 h8 h9 h10 h11 h12 h13 h14 : Nat) (p0 p1 : Int32) (sz : Nat) : Met l yX10_majority v_X10_majority_0 ({ frames := 4, cells := 0, slots := 0, locals := 96 }) (va_Pc [.ref h0, .int p0, .int p1] (wS G K sz [(h0, .inr (7, [.ref h1, .ref h7, .null, .null, .ref h8])), (h1, .inr (0, [.ref h2, .ref h3, .ref h9, .ref h10, .ref h4, .ref h11, .ref h12, .int 0, .int 0, .int 0, .null])), (h2, .inr (1, [.int 1, .ref h13, .int 0, .int (-1), .int 0, .int 0, .int (-1), .ref h5])), (h3, .inr (4, [.ref h14, .int 0])), (h4, .inr (2, [.int 7, .int 600, .ref h6, .int 0])), (h5, .inl (K 0, 9, .inl (upd (fun _ => 1) 6 2))), (h6, .inl (K 0, 112, .inl (fun _ => 0)))])) (va_Qi (fun (r : Int32) (u : va_W) => (((((p0.toInt < 1 ∨ (p0.toInt ≥ 1 ∧ p0.toInt > 8) ∨ (p0.toInt ≥ 1 ∧ p0.toInt ≤ 8 ∧ p1.toInt < 1) ∨ (p0.toInt ≥ 1 ∧ p0.toInt ≤ 8 ∧ p1.toInt ≥ 1 ∧ p1.toInt > 3))))) ∧ r = (-9) ∧ u = [(h0, .inr (7, [.ref h1, .ref h7, .null, .null, .ref h8])), (h1, .inr (0, [.ref h2, .ref h3, .ref h9, .ref h10, .ref h4, .ref h11, .ref h12, .int 0, .int 0, .int 9, .null])), (h2, .inr (1, [.int 1, .ref h13, .int 0, .int (-1), .int 0, .int 0, .int (-1), .ref h5])), (h3, .inr (4, [.ref h14, .int 0])), (h4, .inr (2, [.int 7, .int 600, .ref h6, .int 0])), (h5, .inl (K 0, 9, .inl (upd (fun _ => 1) 6 2))), (h6, .inl (K 0, 112, .inl (fun _ => 0)))]) ∨ (∃ u0 : Nat → Int32, (((((p0.toInt ≥ 1 ∧ p0.toInt ≤ 8 ∧ p1.toInt ≥ 1 ∧ p1.toInt ≤ 3))))) ∧ r = ((upd (fun _ => 1) 6 2) p0.toNatClampNeg) ∧ u = [(h0, .inr (7, [.ref h1, .ref h7, .null, .null, .ref h8])), (h1, .inr (0, [.ref h2, .ref h3, .ref h9, .ref h10, .ref h4, .ref h11, .ref h12, .int 0, .int 0, .int 0, .null])), (h2, .inr (1, [.int 1, .ref h13, .int 0, .int (-1), .int 0, .int 0, .int (-1), .ref h5])), (h3, .inr (4, [.ref h14, .int 0])), (h4, .inr (2, [.int 7, .int 600, .ref h6, .int 1])), (h5, .inl (K 0, 9, .inl u0)), (h6, .inl (K 0, 112, .inl (upd (upd (upd (upd (upd (upd (upd (fun _ => 0) 0 5) 1 p0) 2 p1) 3 0) 4 0) 5 ((upd (fun _ => 1) 6 2) p0.toNatClampNeg)) 6 0)))])) (wB G (va_A [(h0, .inr (7, [.ref h1, .ref h7, .null, .null, .ref h8])), (h1, .inr (0, [.ref h2, .ref h3, .ref h9, .ref h10, .ref h4, .ref h11, .ref h12, .int 0, .int 0, .int 0, .null])), (h2, .inr (1, [.int 1, .ref h13, .int 0, .int (-1), .int 0, .int 0, .int (-1), .ref h5])), (h3, .inr (4, [.ref h14, .int 0])), (h4, .inr (2, [.int 7, .int 600, .ref h6, .int 0])), (h5, .inl (K 0, 9, .inl (upd (fun _ => 1) 6 2))), (h6, .inl (K 0, 112, .inl (fun _ => 0)))] sz)) (va_A [(h0, .inr (7, [.ref h1, .ref h7, .null, .null, .ref h8])), (h1, .inr (0, [.ref h2, .ref h3, .ref h9, .ref h10, .ref h4, .ref h11, .ref h12, .int 0, .int 0, .int 0, .null])), (h2, .inr (1, [.int 1, .ref h13, .int 0, .int (-1), .int 0, .int 0, .int (-1), .ref h5])), (h3, .inr (4, [.ref h14, .int 0])), (h4, .inr (2, [.int 7, .int 600, .ref h6, .int 0])), (h5, .inl (K 0, 9, .inl (upd (fun _ => 1) 6 2))), (h6, .inl (K 0, 112, .inl (fun _ => 0)))] sz)) 0 0 (va_A [(h0, .inr (7, [.ref h1, .ref h7, .null, .null, .ref h8])), (h1, .inr (0, [.ref h2, .ref h3, .ref h9, .ref h10, .ref h4, .ref h11, .ref h12, .int 0, .int 0, .int 0, .null])), (h2, .inr (1, [.int 1, .ref h13, .int 0, .int (-1), .int 0, .int 0, .int (-1), .ref h5])), (h3, .inr (4, [.ref h14, .int 0])), (h4, .inr (2, [.int 7, .int 600, .ref h6, .int 0])), (h5, .inl (K 0, 9, .inl (upd (fun _ => 1) 6 2))), (h6, .inl (K 0, 112, .inl (fun _ => 0)))] sz) := by
  refine Met.ofW (cc := cX10_majority) (maxL := 3) (ret := (some .int)) (by decide) rfl ?_
  intro p e s m args below meth c s₁ B hml hv
  obtain ⟨rfl, hsz, hP, hK, hD0, hE⟩ := hv
  have hx := B.exec
  have hb := B.bytes
  have hr := B.returns
  have hts := atoms_spec (ws := v_X10_majority_0) B.pre
  have t_ := t_X10_majority_0
  have mw : ∀ w ∈ e_X10_majority_0, w ∈ v_X10_majority_0 := fun w h => List.mem_cons_of_mem _ (List.mem_append_left _ h)
  have hw := fun w (h : w ∈ e_X10_majority_0) => hts w (mw w h)
  have iX10 : ∀ w ∈ wsX100, w ∈ v_X10_majority_0 := fun w h => List.mem_cons_of_mem _ (List.mem_append_right _ (List.mem_append_left _ h))
  have j_X0_enact_4 : ∀ w ∈ v_X0_enact_4, w ∈ v_X10_majority_0 := fun w h => List.mem_cons_of_mem _ (List.mem_append_right _ (List.mem_append_right _ (List.mem_append_left _ h)))
  have hown : s.vm.findClass RX10 = some m.cls := findClass_of_methodNamed B.named
  have hlocks := B.notSynchronized
  subst hsz
  have hD := hD0.self (sz := s.heap.size)
  generalize hAe : va_A [(h0, .inr (7, [.ref h1, .ref h7, .null, .null, .ref h8])), (h1, .inr (0, [.ref h2, .ref h3, .ref h9, .ref h10, .ref h4, .ref h11, .ref h12, .int 0, .int 0, .int 0, .null])), (h2, .inr (1, [.int 1, .ref h13, .int 0, .int (-1), .int 0, .int 0, .int (-1), .ref h5])), (h3, .inr (4, [.ref h14, .int 0])), (h4, .inr (2, [.int 7, .int 600, .ref h6, .int 0])), (h5, .inl (K 0, 9, .inl (upd (fun _ => 1) 6 2))), (h6, .inl (K 0, 112, .inl (fun _ => 0)))] s.heap.size = A at hD ⊢
  have hA : ∀ q : Nat, s.heap.size ≤ q → A q := fun q h => by rw [← hAe]; exact Or.inr h
  have hS : va_S A s.heap s.heap [] := va_S.rf
  have hP : va_P G vwCl [(h0, .inr (7, [.ref h1, .ref h7, .null, .null, .ref h8])), (h1, .inr (0, [.ref h2, .ref h3, .ref h9, .ref h10, .ref h4, .ref h11, .ref h12, .int 0, .int 0, .int 0, .null])), (h2, .inr (1, [.int 1, .ref h13, .int 0, .int (-1), .int 0, .int 0, .int (-1), .ref h5])), (h3, .inr (4, [.ref h14, .int 0])), (h4, .inr (2, [.int 7, .int 600, .ref h6, .int 0])), (h5, .inl (K 0, 9, .inl (upd (fun _ => 1) 6 2))), (h6, .inl (K 0, 112, .inl (fun _ => 0)))] s.heap := hP
  have hl := lv_entry ([.ref h0, .int p0, .int p1]) (n := 3) (Nat.le_of_ble_eq_true rfl)
  rw [lg_entry_eq]
  generalize (lg_sl ([.ref h0, .int p0, .int p1]) ++ List.replicate (3 - (lg_sl ([.ref h0, .int p0, .int p1])).length) Slot.unset).toArray = ls at hl ⊢
  have hl : lv_has ls 3 [(0, .ref h0), (1, .int p0), (2, .int p1)] := hl
  refine lv_aload_n hx hb dX10_majority_0 rfl (lv_at hl 0 rfl) ?_
  refine va_get (D := G) (ci := 7) (v := .ref h1) (C := RX10) (T := TX10) (N := 5) hx hb hts iX10 hown hK hP 0 rfl rfl 0 (by decide) (hw (.fieldLink RX10 10 "MotionFloor" "now" "LMotionFloor$Assembly;") (List.mem_of_getElem? (i := 0) rfl)) (fun _ h9 => h9) rfl dX10_majority_1 ?_
  refine lv_iconst (v := 5) hx hb dX10_majority_4 (by decide) ?_
  refine lv_iload_n hx hb dX10_majority_5 rfl (lv_at hl 1 rfl) ?_
  refine lv_iload_n hx hb dX10_majority_6 rfl (lv_at hl 2 rfl) ?_
  refine lv_iconst (v := 0) hx hb dX10_majority_7 (by decide) ?_
  refine lv_iconst (v := 0) hx hb dX10_majority_8 (by decide) ?_
  have hPc := hP.sub (ws' := [(h1, .inr (0, [.ref h2, .ref h3, .ref h9, .ref h10, .ref h4, .ref h11, .ref h12, .int 0, .int 0, .int 0, .null])), (h2, .inr (1, [.int 1, .ref h13, .int 0, .int (-1), .int 0, .int 0, .int (-1), .ref h5])), (h3, .inr (4, [.ref h14, .int 0])), (h4, .inr (2, [.int 7, .int 600, .ref h6, .int 0])), (h5, .inl (K 0, 9, .inl (upd (fun _ => 1) 6 2))), (h6, .inl (K 0, 112, .inl (fun _ => 0)))]) [1, 2, 3, 4, 5, 6] rfl
  have hDc := hD.sub (ws' := [(h1, .inr (0, [.ref h2, .ref h3, .ref h9, .ref h10, .ref h4, .ref h11, .ref h12, .int 0, .int 0, .int 0, .null])), (h2, .inr (1, [.int 1, .ref h13, .int 0, .int (-1), .int 0, .int 0, .int (-1), .ref h5])), (h3, .inr (4, [.ref h14, .int 0])), (h4, .inr (2, [.int 7, .int 600, .ref h6, .int 0])), (h5, .inl (K 0, 9, .inl (upd (fun _ => 1) 6 2))), (h6, .inl (K 0, 112, .inl (fun _ => 0)))]) [1, 2, 3, 4, 5, 6] (by decide) rfl
  refine wGoi (wc := [(h1, .inr (0, [.ref h2, .ref h3, .ref h9, .ref h10, .ref h4, .ref h11, .ref h12, .int 0, .int 0, .int 0, .null])), (h2, .inr (1, [.int 1, .ref h13, .int 0, .int (-1), .int 0, .int 0, .int (-1), .ref h5])), (h3, .inr (4, [.ref h14, .int 0])), (h4, .inr (2, [.int 7, .int 600, .ref h6, .int 0])), (h5, .inl (K 0, 9, .inl (upd (fun _ => 1) 6 2))), (h6, .inl (K 0, 112, .inl (fun _ => 0)))]) (wr := [(h0, .inr (7, [.ref h1, .ref h7, .null, .null, .ref h8]))]) (va_runV (As := [.int 5, .int p0, .int p1, .int 0, .int 0]) (rest := []) ⟨hx, hb, hml, hown, hts⟩ (m_X0_enact_4 l G K h1 h2 h3 h4 h5 h6 h9 h10 h11 h12 h13 h14 p0 p1 _) (cwV 5 hts (wGV t_ (mw (.methodLink RX10 32 yX0_enact) (List.mem_of_getElem? (i := 1) rfl)) (mw (.instanceMethod yX0_enact) (List.mem_of_getElem? (i := 2) rfl)) (mw (.selects RX0 yX0_enact yX0_enact) (List.mem_of_getElem? (i := 3) rfl)) (mw (.initialized RX0) (List.mem_of_getElem? (i := 4) rfl)) j_X0_enact_4) rfl rfl rfl (by decide +kernel) ⟨Nat.le_of_ble_eq_true rfl, Nat.le_of_ble_eq_true rfl⟩) (wPV hK hE hPc hDc 0 0 rfl rfl) rfl rfl hl.1 rfl (lv_room (Nat.le_of_ble_eq_true rfl)) dX10_majority_9 ⟨Nat.le_of_ble_eq_true rfl, Nat.le_of_ble_eq_true rfl⟩) hP hD hS hA [1, 2, 3, 4, 5, 6] [0] rfl rfl rfl (by decide) (fun r u H locs hw hP hD hS => ?_)
  rcases hw with ⟨c_w, rfl, rfl⟩ | ⟨f1, c_w, rfl, rfl⟩
  · have c2 := c_w
    have hP : va_P G vwCl [(h0, .inr (7, [.ref h1, .ref h7, .null, .null, .ref h8])), (h1, .inr (0, [.ref h2, .ref h3, .ref h9, .ref h10, .ref h4, .ref h11, .ref h12, .int 0, .int 0, .int 9, .null])), (h2, .inr (1, [.int 1, .ref h13, .int 0, .int (-1), .int 0, .int 0, .int (-1), .ref h5])), (h3, .inr (4, [.ref h14, .int 0])), (h4, .inr (2, [.int 7, .int 600, .ref h6, .int 0])), (h5, .inl (K 0, 9, .inl (upd (fun _ => 1) 6 2))), (h6, .inl (K 0, 112, .inl (fun _ => 0)))] _ := hP
    have hD : va_D A [(h0, .inr (7, [.ref h1, .ref h7, .null, .null, .ref h8])), (h1, .inr (0, [.ref h2, .ref h3, .ref h9, .ref h10, .ref h4, .ref h11, .ref h12, .int 0, .int 0, .int 9, .null])), (h2, .inr (1, [.int 1, .ref h13, .int 0, .int (-1), .int 0, .int 0, .int (-1), .ref h5])), (h3, .inr (4, [.ref h14, .int 0])), (h4, .inr (2, [.int 7, .int 600, .ref h6, .int 0])), (h5, .inl (K 0, 9, .inl (upd (fun _ => 1) 6 2))), (h6, .inl (K 0, 112, .inl (fun _ => 0)))] := hD
    have hP9 : va_P G vwCl [(h0, .inr (7, [.ref h1, .ref h7, .null, .null, .ref h8])), (h1, .inr (0, [.ref h2, .ref h3, .ref h9, .ref h10, .ref h4, .ref h11, .ref h12, .int 0, .int 0, .int 9, .null])), (h2, .inr (1, [.int 1, .ref h13, .int 0, .int (-1), .int 0, .int 0, .int (-1), .ref h5])), (h3, .inr (4, [.ref h14, .int 0])), (h4, .inr (2, [.int 7, .int 600, .ref h6, .int 0])), (h5, .inl (K 0, 9, .inl (upd (fun _ => 1) 6 2))), (h6, .inl (K 0, 112, .inl (fun _ => 0)))] _ := hP
    have hD9 : va_D A [(h0, .inr (7, [.ref h1, .ref h7, .null, .null, .ref h8])), (h1, .inr (0, [.ref h2, .ref h3, .ref h9, .ref h10, .ref h4, .ref h11, .ref h12, .int 0, .int 0, .int 9, .null])), (h2, .inr (1, [.int 1, .ref h13, .int 0, .int (-1), .int 0, .int 0, .int (-1), .ref h5])), (h3, .inr (4, [.ref h14, .int 0])), (h4, .inr (2, [.int 7, .int 600, .ref h6, .int 0])), (h5, .inl (K 0, 9, .inl (upd (fun _ => 1) 6 2))), (h6, .inl (K 0, 112, .inl (fun _ => 0)))] := hD
    exact W.iret (v := (-9)) hx hb hr (fun t ht hW => ⟨⟨(-9), _, rfl, Or.inl ⟨(by first | omega | decide | simp), rfl, rfl⟩, by rw [ht]; exact hP9, hD9⟩, hS.F ht⟩) hS.2.2 dX10_majority_12
  · have c3 := c_w
    have hP : va_P G vwCl [(h0, .inr (7, [.ref h1, .ref h7, .null, .null, .ref h8])), (h1, .inr (0, [.ref h2, .ref h3, .ref h9, .ref h10, .ref h4, .ref h11, .ref h12, .int 0, .int 0, .int 0, .null])), (h2, .inr (1, [.int 1, .ref h13, .int 0, .int (-1), .int 0, .int 0, .int (-1), .ref h5])), (h3, .inr (4, [.ref h14, .int 0])), (h4, .inr (2, [.int 7, .int 600, .ref h6, .int 1])), (h5, .inl (K 0, 9, .inl f1)), (h6, .inl (K 0, 112, .inl (upd (upd (upd (upd (upd (upd (upd (fun _ => 0) 0 5) 1 p0) 2 p1) 3 0) 4 0) 5 ((upd (fun _ => 1) 6 2) p0.toNatClampNeg)) 6 0)))] _ := hP
    have hD : va_D A [(h0, .inr (7, [.ref h1, .ref h7, .null, .null, .ref h8])), (h1, .inr (0, [.ref h2, .ref h3, .ref h9, .ref h10, .ref h4, .ref h11, .ref h12, .int 0, .int 0, .int 0, .null])), (h2, .inr (1, [.int 1, .ref h13, .int 0, .int (-1), .int 0, .int 0, .int (-1), .ref h5])), (h3, .inr (4, [.ref h14, .int 0])), (h4, .inr (2, [.int 7, .int 600, .ref h6, .int 1])), (h5, .inl (K 0, 9, .inl f1)), (h6, .inl (K 0, 112, .inl (upd (upd (upd (upd (upd (upd (upd (fun _ => 0) 0 5) 1 p0) 2 p1) 3 0) 4 0) 5 ((upd (fun _ => 1) 6 2) p0.toNatClampNeg)) 6 0)))] := hD
    have hP9 : va_P G vwCl [(h0, .inr (7, [.ref h1, .ref h7, .null, .null, .ref h8])), (h1, .inr (0, [.ref h2, .ref h3, .ref h9, .ref h10, .ref h4, .ref h11, .ref h12, .int 0, .int 0, .int 0, .null])), (h2, .inr (1, [.int 1, .ref h13, .int 0, .int (-1), .int 0, .int 0, .int (-1), .ref h5])), (h3, .inr (4, [.ref h14, .int 0])), (h4, .inr (2, [.int 7, .int 600, .ref h6, .int 1])), (h5, .inl (K 0, 9, .inl f1)), (h6, .inl (K 0, 112, .inl (upd (upd (upd (upd (upd (upd (upd (fun _ => 0) 0 5) 1 p0) 2 p1) 3 0) 4 0) 5 ((upd (fun _ => 1) 6 2) p0.toNatClampNeg)) 6 0)))] _ := hP
    have hD9 : va_D A [(h0, .inr (7, [.ref h1, .ref h7, .null, .null, .ref h8])), (h1, .inr (0, [.ref h2, .ref h3, .ref h9, .ref h10, .ref h4, .ref h11, .ref h12, .int 0, .int 0, .int 0, .null])), (h2, .inr (1, [.int 1, .ref h13, .int 0, .int (-1), .int 0, .int 0, .int (-1), .ref h5])), (h3, .inr (4, [.ref h14, .int 0])), (h4, .inr (2, [.int 7, .int 600, .ref h6, .int 1])), (h5, .inl (K 0, 9, .inl f1)), (h6, .inl (K 0, 112, .inl (upd (upd (upd (upd (upd (upd (upd (fun _ => 0) 0 5) 1 p0) 2 p1) 3 0) 4 0) 5 ((upd (fun _ => 1) 6 2) p0.toNatClampNeg)) 6 0)))] := hD
    exact W.iret (v := ((upd (fun _ => 1) 6 2) p0.toNatClampNeg)) hx hb hr (fun t ht hW => ⟨⟨((upd (fun _ => 1) 6 2) p0.toNatClampNeg), _, rfl, Or.inr (⟨f1, (by first | omega | decide | simp), rfl, rfl⟩), by rw [ht]; exact hP9, hD9⟩, hS.F ht⟩) hS.2.2 dX10_majority_12
def e_X8_againstOnFloor_5 : List Cond := [.methodLink RX8 45 yX8_againstSetting, .static yX8_againstSetting, .initialized RX8]
def v_X8_againstOnFloor_5 : List Cond := .code yX8_againstOnFloor cX8_againstOnFloor 4 (some .int) :: (e_X8_againstOnFloor_5 ++ (v_X8_againstSetting_0 ++ (v_X8_againstSetting_1 ++ [])))
theorem te_X8_againstOnFloor_5 : GoodIn lw_tbl e_X8_againstOnFloor_5 := wGc z219 (wGc z218 (wGc z157 (wG0)))
theorem t_X8_againstOnFloor_5 : GoodIn lw_tbl v_X8_againstOnFloor_5 := wGc z161 (wGa te_X8_againstOnFloor_5 (wGa t_X8_againstSetting_0 (wGa t_X8_againstSetting_1 (wG0))))
set_option maxHeartbeats 4000000 in
set_option maxRecDepth 100000 in
theorem m_X8_againstOnFloor_5 (l : Launch) (G : va_G) (K : Nat → ClassId) (h0 h1 h2 h3 h4 h5 h6 h7 h8 : Nat) (p0 : Int32) (sz : Nat) : Met l yX8_againstOnFloor v_X8_againstOnFloor_5 ({ frames := 1, cells := 0, slots := 0, locals := 21 }) (va_Pc [.ref h0, .int 6, .int p0, .int 0] (wS G K sz [(h0, .inr (0, [.ref h2, .ref h1, .ref h3, .ref h4, .ref h5, .ref h6, .ref h7, .int 0, .int 0, .int 0, .null])), (h1, .inr (4, [.ref h8, .int 0]))])) (va_Qi (fun (r : Int32) (u : va_W) => ((p0.toInt < 0 ∨ (p0.toInt ≥ 0 ∧ p0.toInt > 99)) ∧ r = 9 ∧ u = [(h0, .inr (0, [.ref h2, .ref h1, .ref h3, .ref h4, .ref h5, .ref h6, .ref h7, .int 0, .int 0, .int 0, .null])), (h1, .inr (4, [.ref h8, .int 0]))]) ∨ (((p0.toInt ≥ 0 ∧ p0.toInt ≤ 99)) ∧ r = 0 ∧ u = [(h0, .inr (0, [.ref h2, .ref h1, .ref h3, .ref h4, .ref h5, .ref h6, .ref h7, .int 0, .int 0, .int 0, .null])), (h1, .inr (4, [.ref h8, .int 0]))])) (wB G (va_A [(h0, .inr (0, [.ref h2, .ref h1, .ref h3, .ref h4, .ref h5, .ref h6, .ref h7, .int 0, .int 0, .int 0, .null])), (h1, .inr (4, [.ref h8, .int 0]))] sz)) (va_A [(h0, .inr (0, [.ref h2, .ref h1, .ref h3, .ref h4, .ref h5, .ref h6, .ref h7, .int 0, .int 0, .int 0, .null])), (h1, .inr (4, [.ref h8, .int 0]))] sz)) 0 0 (va_A [(h0, .inr (0, [.ref h2, .ref h1, .ref h3, .ref h4, .ref h5, .ref h6, .ref h7, .int 0, .int 0, .int 0, .null])), (h1, .inr (4, [.ref h8, .int 0]))] sz) := by
  refine Met.ofW (cc := cX8_againstOnFloor) (maxL := 4) (ret := (some .int)) (by decide) rfl ?_
  intro p e s m args below meth c s₁ B hml hv
  obtain ⟨rfl, hsz, hP, hK, hD0, hE⟩ := hv
  have hx := B.exec
  have hb := B.bytes
  have hr := B.returns
  have hts := atoms_spec (ws := v_X8_againstOnFloor_5) B.pre
  have t_ := t_X8_againstOnFloor_5
  have mw : ∀ w ∈ e_X8_againstOnFloor_5, w ∈ v_X8_againstOnFloor_5 := fun w h => List.mem_cons_of_mem _ (List.mem_append_left _ h)
  have hw := fun w (h : w ∈ e_X8_againstOnFloor_5) => hts w (mw w h)
  have j_X8_againstSetting_0 : ∀ w ∈ v_X8_againstSetting_0, w ∈ v_X8_againstOnFloor_5 := fun w h => List.mem_cons_of_mem _ (List.mem_append_right _ (List.mem_append_left _ h))
  have j_X8_againstSetting_1 : ∀ w ∈ v_X8_againstSetting_1, w ∈ v_X8_againstOnFloor_5 := fun w h => List.mem_cons_of_mem _ (List.mem_append_right _ (List.mem_append_right _ (List.mem_append_left _ h)))
  have hown : s.vm.findClass RX8 = some m.cls := findClass_of_methodNamed B.named
  have hlocks := B.notSynchronized
  subst hsz
  have hD := hD0.self (sz := s.heap.size)
  generalize hAe : va_A [(h0, .inr (0, [.ref h2, .ref h1, .ref h3, .ref h4, .ref h5, .ref h6, .ref h7, .int 0, .int 0, .int 0, .null])), (h1, .inr (4, [.ref h8, .int 0]))] s.heap.size = A at hD ⊢
  have hA : ∀ q : Nat, s.heap.size ≤ q → A q := fun q h => by rw [← hAe]; exact Or.inr h
  have hS : va_S A s.heap s.heap [] := va_S.rf
  have hP : va_P G vwCl [(h0, .inr (0, [.ref h2, .ref h1, .ref h3, .ref h4, .ref h5, .ref h6, .ref h7, .int 0, .int 0, .int 0, .null])), (h1, .inr (4, [.ref h8, .int 0]))] s.heap := hP
  have hl := lv_entry ([.ref h0, .int 6, .int p0, .int 0]) (n := 4) (Nat.le_of_ble_eq_true rfl)
  rw [lg_entry_eq]
  generalize (lg_sl ([.ref h0, .int 6, .int p0, .int 0]) ++ List.replicate (4 - (lg_sl ([.ref h0, .int 6, .int p0, .int 0])).length) Slot.unset).toArray = ls at hl ⊢
  have hl : lv_has ls 4 [(0, .ref h0), (1, .int 6), (2, .int p0), (3, .int 0)] := hl
  refine lv_iload_n hx hb dX8_againstOnFloor_0 rfl (lv_at hl 1 rfl) ?_
  refine lv_tableIn (tgt := 131) hx hb dX8_againstOnFloor_1 (by decide) (by decide) (by decide) (by decide) ?_
  refine lv_aload_n hx hb dX8_againstOnFloor_131 rfl (lv_at hl 0 rfl) ?_
  refine lv_iload_n hx hb dX8_againstOnFloor_132 rfl (lv_at hl 2 rfl) ?_
  refine lv_if_lt (tgt := 146) hx hb dX8_againstOnFloor_133 (by decide) (fun c1 => ?_) (fun c1 => ?_)
  · have c1 : p0.toInt < 0 := wLt rfl (by decide) c1
    refine lv_iconst (v := 0) hx hb dX8_againstOnFloor_146 (by decide) ?_
    have hPc := hP.sub (ws' := []) [] rfl
    have hDc := hD.sub (ws' := []) [] (by decide) rfl
    refine wGoi (wc := []) (wr := [(h0, .inr (0, [.ref h2, .ref h1, .ref h3, .ref h4, .ref h5, .ref h6, .ref h7, .int 0, .int 0, .int 0, .null])), (h1, .inr (4, [.ref h8, .int 0]))]) (va_runS (As := [.ref h0, .int 0]) (rest := []) ⟨hx, hb, hml, hown, hts⟩ (m_X8_againstSetting_0 l G K h0 _) (va_cwS 2 hts (wGS t_ (mw (.methodLink RX8 45 yX8_againstSetting) (List.mem_of_getElem? (i := 0) rfl)) (mw (.static yX8_againstSetting) (List.mem_of_getElem? (i := 1) rfl)) (mw (.initialized RX8) (List.mem_of_getElem? (i := 2) rfl)) j_X8_againstSetting_0) rfl rfl rfl (by decide +kernel) ⟨Nat.le_of_ble_eq_true rfl, Nat.le_of_ble_eq_true rfl⟩) (wPS hK hE hPc hDc) rfl rfl hl.1 rfl (lv_room (Nat.le_of_ble_eq_true rfl)) dX8_againstOnFloor_147 ⟨Nat.le_of_ble_eq_true rfl, Nat.le_of_ble_eq_true rfl⟩) hP hD hS hA [] [0, 1] rfl rfl rfl (by decide) (fun r u H locs hw hP hD hS => ?_)
    rcases hw with ⟨rfl, rfl⟩
    have hP : va_P G vwCl [(h0, .inr (0, [.ref h2, .ref h1, .ref h3, .ref h4, .ref h5, .ref h6, .ref h7, .int 0, .int 0, .int 0, .null])), (h1, .inr (4, [.ref h8, .int 0]))] _ := hP
    have hD : va_D A [(h0, .inr (0, [.ref h2, .ref h1, .ref h3, .ref h4, .ref h5, .ref h6, .ref h7, .int 0, .int 0, .int 0, .null])), (h1, .inr (4, [.ref h8, .int 0]))] := hD
    have hP9 : va_P G vwCl [(h0, .inr (0, [.ref h2, .ref h1, .ref h3, .ref h4, .ref h5, .ref h6, .ref h7, .int 0, .int 0, .int 0, .null])), (h1, .inr (4, [.ref h8, .int 0]))] _ := hP
    have hD9 : va_D A [(h0, .inr (0, [.ref h2, .ref h1, .ref h3, .ref h4, .ref h5, .ref h6, .ref h7, .int 0, .int 0, .int 0, .null])), (h1, .inr (4, [.ref h8, .int 0]))] := hD
    exact W.iret (v := 9) hx hb hr (fun t ht hW => ⟨⟨9, _, rfl, Or.inl ⟨(by first | omega | decide | simp), rfl, rfl⟩, by rw [ht]; exact hP9, hD9⟩, hS.F ht⟩) hS.2.2 dX8_againstOnFloor_150
  · have c1 : p0.toInt ≥ 0 := wNlt rfl (by decide) c1
    refine lv_iload_n hx hb dX8_againstOnFloor_136 rfl (lv_at hl 2 rfl) ?_
    refine lv_bipush (v := 99) hx hb dX8_againstOnFloor_137 (by decide) ?_
    refine lv_icmp_gt (tgt := 146) hx hb dX8_againstOnFloor_139 (by decide) (fun c2 => ?_) (fun c2 => ?_)
    · have c2 : 99 < p0.toInt := wLt (by decide) rfl c2
      refine lv_iconst (v := 0) hx hb dX8_againstOnFloor_146 (by decide) ?_
      have hPc := hP.sub (ws' := []) [] rfl
      have hDc := hD.sub (ws' := []) [] (by decide) rfl
      refine wGoi (wc := []) (wr := [(h0, .inr (0, [.ref h2, .ref h1, .ref h3, .ref h4, .ref h5, .ref h6, .ref h7, .int 0, .int 0, .int 0, .null])), (h1, .inr (4, [.ref h8, .int 0]))]) (va_runS (As := [.ref h0, .int 0]) (rest := []) ⟨hx, hb, hml, hown, hts⟩ (m_X8_againstSetting_0 l G K h0 _) (va_cwS 2 hts (wGS t_ (mw (.methodLink RX8 45 yX8_againstSetting) (List.mem_of_getElem? (i := 0) rfl)) (mw (.static yX8_againstSetting) (List.mem_of_getElem? (i := 1) rfl)) (mw (.initialized RX8) (List.mem_of_getElem? (i := 2) rfl)) j_X8_againstSetting_0) rfl rfl rfl (by decide +kernel) ⟨Nat.le_of_ble_eq_true rfl, Nat.le_of_ble_eq_true rfl⟩) (wPS hK hE hPc hDc) rfl rfl hl.1 rfl (lv_room (Nat.le_of_ble_eq_true rfl)) dX8_againstOnFloor_147 ⟨Nat.le_of_ble_eq_true rfl, Nat.le_of_ble_eq_true rfl⟩) hP hD hS hA [] [0, 1] rfl rfl rfl (by decide) (fun r u H locs hw hP hD hS => ?_)
      rcases hw with ⟨rfl, rfl⟩
      have hP : va_P G vwCl [(h0, .inr (0, [.ref h2, .ref h1, .ref h3, .ref h4, .ref h5, .ref h6, .ref h7, .int 0, .int 0, .int 0, .null])), (h1, .inr (4, [.ref h8, .int 0]))] _ := hP
      have hD : va_D A [(h0, .inr (0, [.ref h2, .ref h1, .ref h3, .ref h4, .ref h5, .ref h6, .ref h7, .int 0, .int 0, .int 0, .null])), (h1, .inr (4, [.ref h8, .int 0]))] := hD
      have hP9 : va_P G vwCl [(h0, .inr (0, [.ref h2, .ref h1, .ref h3, .ref h4, .ref h5, .ref h6, .ref h7, .int 0, .int 0, .int 0, .null])), (h1, .inr (4, [.ref h8, .int 0]))] _ := hP
      have hD9 : va_D A [(h0, .inr (0, [.ref h2, .ref h1, .ref h3, .ref h4, .ref h5, .ref h6, .ref h7, .int 0, .int 0, .int 0, .null])), (h1, .inr (4, [.ref h8, .int 0]))] := hD
      exact W.iret (v := 9) hx hb hr (fun t ht hW => ⟨⟨9, _, rfl, Or.inl ⟨(by first | omega | decide | simp), rfl, rfl⟩, by rw [ht]; exact hP9, hD9⟩, hS.F ht⟩) hS.2.2 dX8_againstOnFloor_150
    · have c2 : 99 ≥ p0.toInt := wNlt (by decide) rfl c2
      refine lv_iconst (v := 1) hx hb dX8_againstOnFloor_142 (by decide) ?_
      refine lv_goto (tgt := 147) hx hb dX8_againstOnFloor_143 (by decide) ?_
      have hPc := hP.sub (ws' := [(h0, .inr (0, [.ref h2, .ref h1, .ref h3, .ref h4, .ref h5, .ref h6, .ref h7, .int 0, .int 0, .int 0, .null])), (h1, .inr (4, [.ref h8, .int 0]))]) [0, 1] rfl
      have hDc := hD.sub (ws' := [(h0, .inr (0, [.ref h2, .ref h1, .ref h3, .ref h4, .ref h5, .ref h6, .ref h7, .int 0, .int 0, .int 0, .null])), (h1, .inr (4, [.ref h8, .int 0]))]) [0, 1] (by decide) rfl
      refine wGoi (wc := [(h0, .inr (0, [.ref h2, .ref h1, .ref h3, .ref h4, .ref h5, .ref h6, .ref h7, .int 0, .int 0, .int 0, .null])), (h1, .inr (4, [.ref h8, .int 0]))]) (wr := []) (va_runS (As := [.ref h0, .int 1]) (rest := []) ⟨hx, hb, hml, hown, hts⟩ (m_X8_againstSetting_1 l G K h0 h1 h2 h3 h4 h5 h6 h7 h8 _) (va_cwS 2 hts (wGS t_ (mw (.methodLink RX8 45 yX8_againstSetting) (List.mem_of_getElem? (i := 0) rfl)) (mw (.static yX8_againstSetting) (List.mem_of_getElem? (i := 1) rfl)) (mw (.initialized RX8) (List.mem_of_getElem? (i := 2) rfl)) j_X8_againstSetting_1) rfl rfl rfl (by decide +kernel) ⟨Nat.le_of_ble_eq_true rfl, Nat.le_of_ble_eq_true rfl⟩) (wPS hK hE hPc hDc) rfl rfl hl.1 rfl (lv_room (Nat.le_of_ble_eq_true rfl)) dX8_againstOnFloor_147 ⟨Nat.le_of_ble_eq_true rfl, Nat.le_of_ble_eq_true rfl⟩) hP hD hS hA [0, 1] [] rfl rfl rfl (by decide) (fun r u H locs hw hP hD hS => ?_)
      rcases hw with ⟨rfl, rfl⟩
      have hP : va_P G vwCl [(h0, .inr (0, [.ref h2, .ref h1, .ref h3, .ref h4, .ref h5, .ref h6, .ref h7, .int 0, .int 0, .int 0, .null])), (h1, .inr (4, [.ref h8, .int 0]))] _ := hP
      have hD : va_D A [(h0, .inr (0, [.ref h2, .ref h1, .ref h3, .ref h4, .ref h5, .ref h6, .ref h7, .int 0, .int 0, .int 0, .null])), (h1, .inr (4, [.ref h8, .int 0]))] := hD
      have hP9 : va_P G vwCl [(h0, .inr (0, [.ref h2, .ref h1, .ref h3, .ref h4, .ref h5, .ref h6, .ref h7, .int 0, .int 0, .int 0, .null])), (h1, .inr (4, [.ref h8, .int 0]))] _ := hP
      have hD9 : va_D A [(h0, .inr (0, [.ref h2, .ref h1, .ref h3, .ref h4, .ref h5, .ref h6, .ref h7, .int 0, .int 0, .int 0, .null])), (h1, .inr (4, [.ref h8, .int 0]))] := hD
      exact W.iret (v := 0) hx hb hr (fun t ht hW => ⟨⟨0, _, rfl, Or.inr (⟨(by first | omega | decide | simp), rfl, rfl⟩), by rw [ht]; exact hP9, hD9⟩, hS.F ht⟩) hS.2.2 dX8_againstOnFloor_150
def e_X8_against_5 : List Cond := [.methodLink RX8 9 yX8_againstOnFloor, .static yX8_againstOnFloor, .initialized RX8, .fieldLink RX8 22 "MotionFloor$Assembly" "minutes" "LMotionFloor$Ledger;", .methodLink RX8 28 yX3_isFull, .instanceMethod yX3_isFull, .selects RX3 yX3_isFull yX3_isFull, .initialized RX3]
def v_X8_against_5 : List Cond := .code yX8_against cX8_against 7 (some .int) :: (e_X8_against_5 ++ (wsX00 ++ (v_X8_againstOnFloor_5 ++ (v_X3_isFull_0 ++ []))))
theorem te_X8_against_5 : GoodIn lw_tbl e_X8_against_5 := wGc z169 (wGc z168 (wGc z157 (wGc z167 (wGc z166 (wGc z165 (wGc z164 (wGc z89 (wG0))))))))
theorem t_X8_against_5 : GoodIn lw_tbl v_X8_against_5 := wGc z170 (wGa te_X8_against_5 (wGa zcX0 (wGa t_X8_againstOnFloor_5 (wGa t_X3_isFull_0 (wG0)))))
set_option maxHeartbeats 4000000 in
set_option maxRecDepth 100000 in
theorem m_X8_against_5 (l : Launch) (G : va_G) (K : Nat → ClassId) (h0 h1 h2 h3 h4 h5 h6 h7 h8 h9 : Nat) (p0 : Int32) (sz : Nat) : Met l yX8_against v_X8_against_5 ({ frames := 2, cells := 0, slots := 0, locals := 44 }) (va_Pc [.ref h0, .int 6, .int p0, .int 0, .int 0, .int 0] (wS G K sz [(h0, .inr (0, [.ref h3, .ref h1, .ref h4, .ref h5, .ref h2, .ref h6, .ref h7, .int 0, .int 0, .int 0, .null])), (h1, .inr (4, [.ref h8, .int 0])), (h2, .inr (2, [.int 7, .int 600, .ref h9, .int 0]))])) (va_Qi (fun (r : Int32) (u : va_W) => (((p0.toInt < 0 ∨ (p0.toInt ≥ 0 ∧ p0.toInt > 99))) ∧ r = 9 ∧ u = [(h0, .inr (0, [.ref h3, .ref h1, .ref h4, .ref h5, .ref h2, .ref h6, .ref h7, .int 0, .int 0, .int 0, .null])), (h1, .inr (4, [.ref h8, .int 0])), (h2, .inr (2, [.int 7, .int 600, .ref h9, .int 0]))]) ∨ ((((p0.toInt ≥ 0 ∧ p0.toInt ≤ 99))) ∧ r = 0 ∧ u = [(h0, .inr (0, [.ref h3, .ref h1, .ref h4, .ref h5, .ref h2, .ref h6, .ref h7, .int 0, .int 0, .int 0, .null])), (h1, .inr (4, [.ref h8, .int 0])), (h2, .inr (2, [.int 7, .int 600, .ref h9, .int 0]))])) (wB G (va_A [(h0, .inr (0, [.ref h3, .ref h1, .ref h4, .ref h5, .ref h2, .ref h6, .ref h7, .int 0, .int 0, .int 0, .null])), (h1, .inr (4, [.ref h8, .int 0])), (h2, .inr (2, [.int 7, .int 600, .ref h9, .int 0]))] sz)) (va_A [(h0, .inr (0, [.ref h3, .ref h1, .ref h4, .ref h5, .ref h2, .ref h6, .ref h7, .int 0, .int 0, .int 0, .null])), (h1, .inr (4, [.ref h8, .int 0])), (h2, .inr (2, [.int 7, .int 600, .ref h9, .int 0]))] sz)) 0 0 (va_A [(h0, .inr (0, [.ref h3, .ref h1, .ref h4, .ref h5, .ref h2, .ref h6, .ref h7, .int 0, .int 0, .int 0, .null])), (h1, .inr (4, [.ref h8, .int 0])), (h2, .inr (2, [.int 7, .int 600, .ref h9, .int 0]))] sz) := by
  refine Met.ofW (cc := cX8_against) (maxL := 7) (ret := (some .int)) (by decide) rfl ?_
  intro p e s m args below meth c s₁ B hml hv
  obtain ⟨rfl, hsz, hP, hK, hD0, hE⟩ := hv
  have hx := B.exec
  have hb := B.bytes
  have hr := B.returns
  have hts := atoms_spec (ws := v_X8_against_5) B.pre
  have t_ := t_X8_against_5
  have mw : ∀ w ∈ e_X8_against_5, w ∈ v_X8_against_5 := fun w h => List.mem_cons_of_mem _ (List.mem_append_left _ h)
  have hw := fun w (h : w ∈ e_X8_against_5) => hts w (mw w h)
  have iX0 : ∀ w ∈ wsX00, w ∈ v_X8_against_5 := fun w h => List.mem_cons_of_mem _ (List.mem_append_right _ (List.mem_append_left _ h))
  have j_X8_againstOnFloor_5 : ∀ w ∈ v_X8_againstOnFloor_5, w ∈ v_X8_against_5 := fun w h => List.mem_cons_of_mem _ (List.mem_append_right _ (List.mem_append_right _ (List.mem_append_left _ h)))
  have j_X3_isFull_0 : ∀ w ∈ v_X3_isFull_0, w ∈ v_X8_against_5 := fun w h => List.mem_cons_of_mem _ (List.mem_append_right _ (List.mem_append_right _ (List.mem_append_right _ (List.mem_append_left _ h))))
  have hown : s.vm.findClass RX8 = some m.cls := findClass_of_methodNamed B.named
  have hlocks := B.notSynchronized
  subst hsz
  have hD := hD0.self (sz := s.heap.size)
  generalize hAe : va_A [(h0, .inr (0, [.ref h3, .ref h1, .ref h4, .ref h5, .ref h2, .ref h6, .ref h7, .int 0, .int 0, .int 0, .null])), (h1, .inr (4, [.ref h8, .int 0])), (h2, .inr (2, [.int 7, .int 600, .ref h9, .int 0]))] s.heap.size = A at hD ⊢
  have hA : ∀ q : Nat, s.heap.size ≤ q → A q := fun q h => by rw [← hAe]; exact Or.inr h
  have hS : va_S A s.heap s.heap [] := va_S.rf
  have hP : va_P G vwCl [(h0, .inr (0, [.ref h3, .ref h1, .ref h4, .ref h5, .ref h2, .ref h6, .ref h7, .int 0, .int 0, .int 0, .null])), (h1, .inr (4, [.ref h8, .int 0])), (h2, .inr (2, [.int 7, .int 600, .ref h9, .int 0]))] s.heap := hP
  have hl := lv_entry ([.ref h0, .int 6, .int p0, .int 0, .int 0, .int 0]) (n := 7) (Nat.le_of_ble_eq_true rfl)
  rw [lg_entry_eq]
  generalize (lg_sl ([.ref h0, .int 6, .int p0, .int 0, .int 0, .int 0]) ++ List.replicate (7 - (lg_sl ([.ref h0, .int 6, .int p0, .int 0, .int 0, .int 0])).length) Slot.unset).toArray = ls at hl ⊢
  have hl : lv_has ls 7 [(0, .ref h0), (1, .int 6), (2, .int p0), (3, .int 0), (4, .int 0), (5, .int 0)] := hl
  refine lv_iload_n hx hb dX8_against_0 rfl (lv_at hl 1 rfl) ?_
  refine lv_bipush (v := 9) hx hb dX8_against_1 (by decide) ?_
  refine lv_icmp_gt (tgt := 18) hx hb dX8_against_3 (by decide) (fun c_ => absurd c_ (by decide)) (fun _ => ?_)
  refine lv_aload_n hx hb dX8_against_6 rfl (lv_at hl 0 rfl) ?_
  refine lv_iload_n hx hb dX8_against_7 rfl (lv_at hl 1 rfl) ?_
  refine lv_iload_n hx hb dX8_against_8 rfl (lv_at hl 2 rfl) ?_
  refine lv_iload_n hx hb dX8_against_9 rfl (lv_at hl 3 rfl) ?_
  have hPc := hP.sub (ws' := [(h0, .inr (0, [.ref h3, .ref h1, .ref h4, .ref h5, .ref h2, .ref h6, .ref h7, .int 0, .int 0, .int 0, .null])), (h1, .inr (4, [.ref h8, .int 0]))]) [0, 1] rfl
  have hDc := hD.sub (ws' := [(h0, .inr (0, [.ref h3, .ref h1, .ref h4, .ref h5, .ref h2, .ref h6, .ref h7, .int 0, .int 0, .int 0, .null])), (h1, .inr (4, [.ref h8, .int 0]))]) [0, 1] (by decide) rfl
  refine wGoi (wc := [(h0, .inr (0, [.ref h3, .ref h1, .ref h4, .ref h5, .ref h2, .ref h6, .ref h7, .int 0, .int 0, .int 0, .null])), (h1, .inr (4, [.ref h8, .int 0]))]) (wr := [(h2, .inr (2, [.int 7, .int 600, .ref h9, .int 0]))]) (va_runS (As := [.ref h0, .int 6, .int p0, .int 0]) (rest := []) ⟨hx, hb, hml, hown, hts⟩ (m_X8_againstOnFloor_5 l G K h0 h1 h3 h4 h5 h2 h6 h7 h8 p0 _) (va_cwS 4 hts (wGS t_ (mw (.methodLink RX8 9 yX8_againstOnFloor) (List.mem_of_getElem? (i := 0) rfl)) (mw (.static yX8_againstOnFloor) (List.mem_of_getElem? (i := 1) rfl)) (mw (.initialized RX8) (List.mem_of_getElem? (i := 2) rfl)) j_X8_againstOnFloor_5) rfl rfl rfl (by decide +kernel) ⟨Nat.le_of_ble_eq_true rfl, Nat.le_of_ble_eq_true rfl⟩) (wPS hK hE hPc hDc) rfl rfl hl.1 rfl (lv_room (Nat.le_of_ble_eq_true rfl)) dX8_against_10 ⟨Nat.le_of_ble_eq_true rfl, Nat.le_of_ble_eq_true rfl⟩) hP hD hS hA [0, 1] [2] rfl rfl rfl (by decide) (fun r u H locs hw hP hD hS => ?_)
  rcases hw with ⟨c_w, rfl, rfl⟩ | ⟨c_w, rfl, rfl⟩
  · have c1 := c_w
    have hP : va_P G vwCl [(h2, .inr (2, [.int 7, .int 600, .ref h9, .int 0])), (h0, .inr (0, [.ref h3, .ref h1, .ref h4, .ref h5, .ref h2, .ref h6, .ref h7, .int 0, .int 0, .int 0, .null])), (h1, .inr (4, [.ref h8, .int 0]))] _ := hP
    have hD : va_D A [(h2, .inr (2, [.int 7, .int 600, .ref h9, .int 0])), (h0, .inr (0, [.ref h3, .ref h1, .ref h4, .ref h5, .ref h2, .ref h6, .ref h7, .int 0, .int 0, .int 0, .null])), (h1, .inr (4, [.ref h8, .int 0]))] := hD
    refine lv_istore (lv' := [(6, .int 9), (0, .ref h0), (1, .int 6), (2, .int p0), (3, .int 0), (4, .int 0), (5, .int 0)]) hx hb dX8_against_13 hl (by decide) rfl (fun ls hl => ?_)
    refine lv_goto (tgt := 49) hx hb dX8_against_15 (by decide) ?_
    refine lv_iload hx hb dX8_against_49 (lv_at hl 0 rfl) ?_
    refine lv_if_ne (tgt := 69) hx hb dX8_against_51 (by decide) (fun _ => ?_) (fun c_ => absurd c_ (by decide))
    refine lv_iload hx hb dX8_against_69 (lv_at hl 0 rfl) ?_
    have hP9 := hP.sub (ws' := [(h0, .inr (0, [.ref h3, .ref h1, .ref h4, .ref h5, .ref h2, .ref h6, .ref h7, .int 0, .int 0, .int 0, .null])), (h1, .inr (4, [.ref h8, .int 0])), (h2, .inr (2, [.int 7, .int 600, .ref h9, .int 0]))]) [1, 2, 0] rfl
    have hD9 := hD.sub (ws' := [(h0, .inr (0, [.ref h3, .ref h1, .ref h4, .ref h5, .ref h2, .ref h6, .ref h7, .int 0, .int 0, .int 0, .null])), (h1, .inr (4, [.ref h8, .int 0])), (h2, .inr (2, [.int 7, .int 600, .ref h9, .int 0]))]) [1, 2, 0] (by decide) rfl
    exact W.iret (v := 9) hx hb hr (fun t ht hW => ⟨⟨9, _, rfl, Or.inl ⟨(by first | omega | decide | simp), rfl, rfl⟩, by rw [ht]; exact hP9, hD9⟩, hS.F ht⟩) hS.2.2 dX8_against_71
  · have c2 := c_w
    have hP : va_P G vwCl [(h2, .inr (2, [.int 7, .int 600, .ref h9, .int 0])), (h0, .inr (0, [.ref h3, .ref h1, .ref h4, .ref h5, .ref h2, .ref h6, .ref h7, .int 0, .int 0, .int 0, .null])), (h1, .inr (4, [.ref h8, .int 0]))] _ := hP
    have hD : va_D A [(h2, .inr (2, [.int 7, .int 600, .ref h9, .int 0])), (h0, .inr (0, [.ref h3, .ref h1, .ref h4, .ref h5, .ref h2, .ref h6, .ref h7, .int 0, .int 0, .int 0, .null])), (h1, .inr (4, [.ref h8, .int 0]))] := hD
    refine lv_istore (lv' := [(6, .int 0), (0, .ref h0), (1, .int 6), (2, .int p0), (3, .int 0), (4, .int 0), (5, .int 0)]) hx hb dX8_against_13 hl (by decide) rfl (fun ls hl => ?_)
    refine lv_goto (tgt := 49) hx hb dX8_against_15 (by decide) ?_
    refine lv_iload hx hb dX8_against_49 (lv_at hl 0 rfl) ?_
    refine lv_if_ne (tgt := 69) hx hb dX8_against_51 (by decide) (fun c_ => absurd c_ (by decide)) (fun _ => ?_)
    refine lv_aload_n hx hb dX8_against_54 rfl (lv_at hl 1 rfl) ?_
    refine va_get (D := G) (ci := 0) (v := .ref h2) (C := RX0) (T := TX0) (N := 11) hx hb hts iX0 hown hK hP 1 rfl rfl 4 (by decide) (hw (.fieldLink RX8 22 "MotionFloor$Assembly" "minutes" "LMotionFloor$Ledger;") (List.mem_of_getElem? (i := 3) rfl)) (fun _ h9 => h9) rfl dX8_against_55 ?_
    have hPc := hP.sub (ws' := [(h2, .inr (2, [.int 7, .int 600, .ref h9, .int 0]))]) [0] rfl
    have hDc := hD.sub (ws' := [(h2, .inr (2, [.int 7, .int 600, .ref h9, .int 0]))]) [0] (by decide) rfl
    refine wGoi (wc := [(h2, .inr (2, [.int 7, .int 600, .ref h9, .int 0]))]) (wr := [(h0, .inr (0, [.ref h3, .ref h1, .ref h4, .ref h5, .ref h2, .ref h6, .ref h7, .int 0, .int 0, .int 0, .null])), (h1, .inr (4, [.ref h8, .int 0]))]) (va_runV (As := []) (rest := []) ⟨hx, hb, hml, hown, hts⟩ (m_X3_isFull_0 l G K h2 h9 _) (cwV 0 hts (wGV t_ (mw (.methodLink RX8 28 yX3_isFull) (List.mem_of_getElem? (i := 4) rfl)) (mw (.instanceMethod yX3_isFull) (List.mem_of_getElem? (i := 5) rfl)) (mw (.selects RX3 yX3_isFull yX3_isFull) (List.mem_of_getElem? (i := 6) rfl)) (mw (.initialized RX3) (List.mem_of_getElem? (i := 7) rfl)) j_X3_isFull_0) rfl rfl rfl (by decide +kernel) ⟨Nat.le_of_ble_eq_true rfl, Nat.le_of_ble_eq_true rfl⟩) (wPV hK hE hPc hDc 2 0 rfl rfl) rfl rfl hl.1 rfl (lv_room (Nat.le_of_ble_eq_true rfl)) dX8_against_58 ⟨Nat.le_of_ble_eq_true rfl, Nat.le_of_ble_eq_true rfl⟩) hP hD hS hA [0] [1, 2] rfl rfl rfl (by decide) (fun r u H locs hw hP hD hS => ?_)
    rcases hw with ⟨rfl, rfl⟩
    have hP : va_P G vwCl [(h0, .inr (0, [.ref h3, .ref h1, .ref h4, .ref h5, .ref h2, .ref h6, .ref h7, .int 0, .int 0, .int 0, .null])), (h1, .inr (4, [.ref h8, .int 0])), (h2, .inr (2, [.int 7, .int 600, .ref h9, .int 0]))] _ := hP
    have hD : va_D A [(h0, .inr (0, [.ref h3, .ref h1, .ref h4, .ref h5, .ref h2, .ref h6, .ref h7, .int 0, .int 0, .int 0, .null])), (h1, .inr (4, [.ref h8, .int 0])), (h2, .inr (2, [.int 7, .int 600, .ref h9, .int 0]))] := hD
    refine lv_if_eq (tgt := 69) hx hb dX8_against_61 (by decide) (fun _ => ?_) (fun c_ => absurd c_ (by decide))
    refine lv_iload hx hb dX8_against_69 (lv_at hl 0 rfl) ?_
    have hP9 : va_P G vwCl [(h0, .inr (0, [.ref h3, .ref h1, .ref h4, .ref h5, .ref h2, .ref h6, .ref h7, .int 0, .int 0, .int 0, .null])), (h1, .inr (4, [.ref h8, .int 0])), (h2, .inr (2, [.int 7, .int 600, .ref h9, .int 0]))] _ := hP
    have hD9 : va_D A [(h0, .inr (0, [.ref h3, .ref h1, .ref h4, .ref h5, .ref h2, .ref h6, .ref h7, .int 0, .int 0, .int 0, .null])), (h1, .inr (4, [.ref h8, .int 0])), (h2, .inr (2, [.int 7, .int 600, .ref h9, .int 0]))] := hD
    exact W.iret (v := 0) hx hb hr (fun t ht hW => ⟨⟨0, _, rfl, Or.inr (⟨(by first | omega | decide | simp), rfl, rfl⟩), by rw [ht]; exact hP9, hD9⟩, hS.F ht⟩) hS.2.2 dX8_against_71
def e_X1_perform_3 : List Cond := [.fieldLink RX1 9 "MotionFloor$Assembly" "pending" "LMotionFloor$Pile;", .methodLink RX1 15 yX5_top, .instanceMethod yX5_top, .selects RX5 yX5_top yX5_top, .initialized RX5, .fieldLink RX1 21 "MotionFloor$Assembly" "house" "LMotionFloor$House;", .fieldLink RX1 45 "MotionFloor$House" "limit" "I"]
def v_X1_perform_3 : List Cond := .code yX1_perform cX1_perform 7 (some .int) :: (e_X1_perform_3 ++ (wsX00 ++ (wsX20 ++ (v_X5_top_0 ++ []))))
theorem te_X1_perform_3 : GoodIn lw_tbl e_X1_perform_3 := wGc z186 (wGc z185 (wGc z184 (wGc z183 (wGc z26 (wGc z182 (wGc z228 (wG0)))))))
theorem t_X1_perform_3 : GoodIn lw_tbl v_X1_perform_3 := wGc z187 (wGa te_X1_perform_3 (wGa zcX0 (wGa zcX2 (wGa t_X5_top_0 (wG0)))))
set_option maxHeartbeats 4000000 in
set_option maxRecDepth 100000 in
theorem m_X1_perform_3 (l : Launch) (G : va_G) (K : Nat → ClassId) (h0 h1 h2 h3 h4 h5 h6 h7 h8 h9 h10 : Nat) (p0 : Int32) (sz : Nat) (bp0 : 0 ≤ p0.toInt ∧ p0.toInt ≤ 99) : Met l yX1_perform v_X1_perform_3 ({ frames := 2, cells := 0, slots := 0, locals := 41 }) (va_Pc [.ref h0, .int 6, .int p0, .int 0, .int 0, .int 0] (wS G K sz [(h0, .inr (0, [.ref h1, .ref h2, .ref h3, .ref h4, .ref h5, .ref h6, .ref h7, .int 0, .int 0, .int 0, .null])), (h1, .inr (1, [.int 1, .ref h8, .int 0, .int (-1), .int 0, .int 0, .int (-1), .ref h9])), (h2, .inr (4, [.ref h10, .int 0]))])) (va_Qi (fun (r : Int32) (u : va_W) => (r = p0 ∧ u = [(h0, .inr (0, [.ref h1, .ref h2, .ref h3, .ref h4, .ref h5, .ref h6, .ref h7, .int 0, .int 0, .int 0, .null])), (h1, .inr (1, [.int 1, .ref h8, .int 0, .int (-1), .int 0, .int p0, .int (-1), .ref h9])), (h2, .inr (4, [.ref h10, .int 0]))])) (wB G (va_A [(h0, .inr (0, [.ref h1, .ref h2, .ref h3, .ref h4, .ref h5, .ref h6, .ref h7, .int 0, .int 0, .int 0, .null])), (h1, .inr (1, [.int 1, .ref h8, .int 0, .int (-1), .int 0, .int 0, .int (-1), .ref h9])), (h2, .inr (4, [.ref h10, .int 0]))] sz)) (va_A [(h0, .inr (0, [.ref h1, .ref h2, .ref h3, .ref h4, .ref h5, .ref h6, .ref h7, .int 0, .int 0, .int 0, .null])), (h1, .inr (1, [.int 1, .ref h8, .int 0, .int (-1), .int 0, .int 0, .int (-1), .ref h9])), (h2, .inr (4, [.ref h10, .int 0]))] sz)) 0 0 (va_A [(h0, .inr (0, [.ref h1, .ref h2, .ref h3, .ref h4, .ref h5, .ref h6, .ref h7, .int 0, .int 0, .int 0, .null])), (h1, .inr (1, [.int 1, .ref h8, .int 0, .int (-1), .int 0, .int 0, .int (-1), .ref h9])), (h2, .inr (4, [.ref h10, .int 0]))] sz) := by
  refine Met.ofW (cc := cX1_perform) (maxL := 7) (ret := (some .int)) (by decide) rfl ?_
  intro p e s m args below meth c s₁ B hml hv
  obtain ⟨rfl, hsz, hP, hK, hD0, hE⟩ := hv
  have hx := B.exec
  have hb := B.bytes
  have hr := B.returns
  have hts := atoms_spec (ws := v_X1_perform_3) B.pre
  have t_ := t_X1_perform_3
  have mw : ∀ w ∈ e_X1_perform_3, w ∈ v_X1_perform_3 := fun w h => List.mem_cons_of_mem _ (List.mem_append_left _ h)
  have hw := fun w (h : w ∈ e_X1_perform_3) => hts w (mw w h)
  have iX0 : ∀ w ∈ wsX00, w ∈ v_X1_perform_3 := fun w h => List.mem_cons_of_mem _ (List.mem_append_right _ (List.mem_append_left _ h))
  have iX2 : ∀ w ∈ wsX20, w ∈ v_X1_perform_3 := fun w h => List.mem_cons_of_mem _ (List.mem_append_right _ (List.mem_append_right _ (List.mem_append_left _ h)))
  have j_X5_top_0 : ∀ w ∈ v_X5_top_0, w ∈ v_X1_perform_3 := fun w h => List.mem_cons_of_mem _ (List.mem_append_right _ (List.mem_append_right _ (List.mem_append_right _ (List.mem_append_left _ h))))
  have hown : s.vm.findClass RX1 = some m.cls := findClass_of_methodNamed B.named
  have hlocks := B.notSynchronized
  subst hsz
  have hD := hD0.self (sz := s.heap.size)
  generalize hAe : va_A [(h0, .inr (0, [.ref h1, .ref h2, .ref h3, .ref h4, .ref h5, .ref h6, .ref h7, .int 0, .int 0, .int 0, .null])), (h1, .inr (1, [.int 1, .ref h8, .int 0, .int (-1), .int 0, .int 0, .int (-1), .ref h9])), (h2, .inr (4, [.ref h10, .int 0]))] s.heap.size = A at hD ⊢
  have hA : ∀ q : Nat, s.heap.size ≤ q → A q := fun q h => by rw [← hAe]; exact Or.inr h
  have hS : va_S A s.heap s.heap [] := va_S.rf
  have hP : va_P G vwCl [(h0, .inr (0, [.ref h1, .ref h2, .ref h3, .ref h4, .ref h5, .ref h6, .ref h7, .int 0, .int 0, .int 0, .null])), (h1, .inr (1, [.int 1, .ref h8, .int 0, .int (-1), .int 0, .int 0, .int (-1), .ref h9])), (h2, .inr (4, [.ref h10, .int 0]))] s.heap := hP
  have hl := lv_entry ([.ref h0, .int 6, .int p0, .int 0, .int 0, .int 0]) (n := 7) (Nat.le_of_ble_eq_true rfl)
  rw [lg_entry_eq]
  generalize (lg_sl ([.ref h0, .int 6, .int p0, .int 0, .int 0, .int 0]) ++ List.replicate (7 - (lg_sl ([.ref h0, .int 6, .int p0, .int 0, .int 0, .int 0])).length) Slot.unset).toArray = ls at hl ⊢
  have hl : lv_has ls 7 [(0, .ref h0), (1, .int 6), (2, .int p0), (3, .int 0), (4, .int 0), (5, .int 0)] := hl
  refine lv_aload_n hx hb dX1_perform_0 rfl (lv_at hl 0 rfl) ?_
  refine va_get (D := G) (ci := 0) (v := .ref h2) (C := RX0) (T := TX0) (N := 11) hx hb hts iX0 hown hK hP 0 rfl rfl 1 (by decide) (hw (.fieldLink RX1 9 "MotionFloor$Assembly" "pending" "LMotionFloor$Pile;") (List.mem_of_getElem? (i := 0) rfl)) (fun _ h9 => h9) rfl dX1_perform_1 ?_
  have hPc := hP.sub (ws' := [(h2, .inr (4, [.ref h10, .int 0]))]) [2] rfl
  have hDc := hD.sub (ws' := [(h2, .inr (4, [.ref h10, .int 0]))]) [2] (by decide) rfl
  refine wGoq (wc := [(h2, .inr (4, [.ref h10, .int 0]))]) (wr := [(h0, .inr (0, [.ref h1, .ref h2, .ref h3, .ref h4, .ref h5, .ref h6, .ref h7, .int 0, .int 0, .int 0, .null])), (h1, .inr (1, [.int 1, .ref h8, .int 0, .int (-1), .int 0, .int 0, .int (-1), .ref h9]))]) (va_runV (As := []) (rest := []) ⟨hx, hb, hml, hown, hts⟩ (m_X5_top_0 l G K h2 h10 _) (cwV 0 hts (wGV t_ (mw (.methodLink RX1 15 yX5_top) (List.mem_of_getElem? (i := 1) rfl)) (mw (.instanceMethod yX5_top) (List.mem_of_getElem? (i := 2) rfl)) (mw (.selects RX5 yX5_top yX5_top) (List.mem_of_getElem? (i := 3) rfl)) (mw (.initialized RX5) (List.mem_of_getElem? (i := 4) rfl)) j_X5_top_0) rfl rfl rfl (by decide +kernel) ⟨Nat.le_of_ble_eq_true rfl, Nat.le_of_ble_eq_true rfl⟩) (wPV hK hE hPc hDc 4 0 rfl rfl) rfl rfl hl.1 rfl (lv_room (Nat.le_of_ble_eq_true rfl)) dX1_perform_4 ⟨Nat.le_of_ble_eq_true rfl, Nat.le_of_ble_eq_true rfl⟩) hP hD hS hA [2] [0, 1] rfl rfl rfl (by decide) (fun r u H locs hw hP hD hS => ?_)
  rcases hw with ⟨rfl, rfl⟩
  have hP : va_P G vwCl [(h0, .inr (0, [.ref h1, .ref h2, .ref h3, .ref h4, .ref h5, .ref h6, .ref h7, .int 0, .int 0, .int 0, .null])), (h1, .inr (1, [.int 1, .ref h8, .int 0, .int (-1), .int 0, .int 0, .int (-1), .ref h9])), (h2, .inr (4, [.ref h10, .int 0]))] _ := hP
  have hD : va_D A [(h0, .inr (0, [.ref h1, .ref h2, .ref h3, .ref h4, .ref h5, .ref h6, .ref h7, .int 0, .int 0, .int 0, .null])), (h1, .inr (1, [.int 1, .ref h8, .int 0, .int (-1), .int 0, .int 0, .int (-1), .ref h9])), (h2, .inr (4, [.ref h10, .int 0]))] := hD
  refine wTop (v1 := .null) rfl ?_
  refine lv_astoreN (lv' := [(6, .null), (0, .ref h0), (1, .int 6), (2, .int p0), (3, .int 0), (4, .int 0), (5, .int 0)]) hx hb dX1_perform_7 hl (by decide) rfl (fun ls hl => ?_)
  refine lv_iload_n hx hb dX1_perform_9 rfl (lv_at hl 2 rfl) ?_
  refine lv_tableIn (tgt := 159) hx hb dX1_perform_10 (by decide) (by decide) (by decide) (by decide) ?_
  refine lv_aload_n hx hb dX1_perform_159 rfl (lv_at hl 1 rfl) ?_
  refine va_get (D := G) (ci := 0) (v := .ref h1) (C := RX0) (T := TX0) (N := 11) hx hb hts iX0 hown hK hP 0 rfl rfl 0 (by decide) (hw (.fieldLink RX1 21 "MotionFloor$Assembly" "house" "LMotionFloor$House;") (List.mem_of_getElem? (i := 5) rfl)) (fun _ h9 => h9) rfl dX1_perform_160 ?_
  refine lv_iload_n hx hb dX1_perform_163 rfl (lv_at hl 3 rfl) ?_
  refine va_put (D := G) (ci := 1) (v := .int p0) (ty := .int) (C := RX2) (T := TX2) (N := 8) hx hb hts iX2 tyX2 tyX2_ok nmX2 hown hK hP hD hS 1 rfl rfl 5 (by decide) (hw (.fieldLink RX1 45 "MotionFloor$House" "limit" "I") (List.mem_of_getElem? (i := 6) rfl)) (fun _ h9 => h9) rfl (by decide +kernel) rfl rfl (Nat.le_of_ble_eq_true rfl) dX1_perform_164 (fun H locs hP hD hS => ?_)
  have hP : va_P G vwCl [(h0, .inr (0, [.ref h1, .ref h2, .ref h3, .ref h4, .ref h5, .ref h6, .ref h7, .int 0, .int 0, .int 0, .null])), (h1, .inr (1, [.int 1, .ref h8, .int 0, .int (-1), .int 0, .int p0, .int (-1), .ref h9])), (h2, .inr (4, [.ref h10, .int 0]))] _ := hP
  have hD : va_D A [(h0, .inr (0, [.ref h1, .ref h2, .ref h3, .ref h4, .ref h5, .ref h6, .ref h7, .int 0, .int 0, .int 0, .null])), (h1, .inr (1, [.int 1, .ref h8, .int 0, .int (-1), .int 0, .int p0, .int (-1), .ref h9])), (h2, .inr (4, [.ref h10, .int 0]))] := hD
  refine lv_iload_n hx hb dX1_perform_167 rfl (lv_at hl 3 rfl) ?_
  have hP9 : va_P G vwCl [(h0, .inr (0, [.ref h1, .ref h2, .ref h3, .ref h4, .ref h5, .ref h6, .ref h7, .int 0, .int 0, .int 0, .null])), (h1, .inr (1, [.int 1, .ref h8, .int 0, .int (-1), .int 0, .int p0, .int (-1), .ref h9])), (h2, .inr (4, [.ref h10, .int 0]))] _ := hP
  have hD9 : va_D A [(h0, .inr (0, [.ref h1, .ref h2, .ref h3, .ref h4, .ref h5, .ref h6, .ref h7, .int 0, .int 0, .int 0, .null])), (h1, .inr (1, [.int 1, .ref h8, .int 0, .int (-1), .int 0, .int p0, .int (-1), .ref h9])), (h2, .inr (4, [.ref h10, .int 0]))] := hD
  exact W.iret (v := p0) hx hb hr (fun t ht hW => ⟨⟨p0, _, rfl, ⟨rfl, rfl⟩, by rw [ht]; exact hP9, hD9⟩, hS.F ht⟩) hS.2.2 dX1_perform_168
def e_X3_write_21 : List Cond := [.fieldLink RX3 28 "MotionFloor$Ledger" "size" "I", .fieldLink RX3 15 "MotionFloor$Ledger" "columns" "I", .fieldLink RX3 24 "MotionFloor$Ledger" "cells" "[I"]
def v_X3_write_21 : List Cond := .code yX3_write cX3_write 4 none :: (e_X3_write_21 ++ (wsX30 ++ []))
theorem te_X3_write_21 : GoodIn lw_tbl e_X3_write_21 := wGc z162 (wGc z38 (wGc z36 (wG0)))
theorem t_X3_write_21 : GoodIn lw_tbl v_X3_write_21 := wGc z194 (wGa te_X3_write_21 (wGa zcX3 (wG0)))
set_option maxHeartbeats 4000000 in
set_option maxRecDepth 100000 in
theorem m_X3_write_21 (l : Launch) (G : va_G) (K : Nat → ClassId) (h0 h1 : Nat) (sz : Nat) : Met l yX3_write v_X3_write_21 ({ frames := 0, cells := 0, slots := 0, locals := 0 }) (va_Pc [.ref h0, .int 0, .int 6] (wS G K sz [(h0, .inr (2, [.int 7, .int 600, .ref h1, .int 1])), (h1, .inl (K 0, 112, .inl (fun _ => 0)))])) (va_Qv (fun u : va_W => (u = [(h0, .inr (2, [.int 7, .int 600, .ref h1, .int 1])), (h1, .inl (K 0, 112, .inl (upd (fun _ => 0) 0 6)))])) (wB G (va_A [(h0, .inr (2, [.int 7, .int 600, .ref h1, .int 1])), (h1, .inl (K 0, 112, .inl (fun _ => 0)))] sz)) (va_A [(h0, .inr (2, [.int 7, .int 600, .ref h1, .int 1])), (h1, .inl (K 0, 112, .inl (fun _ => 0)))] sz)) 0 0 (va_A [(h0, .inr (2, [.int 7, .int 600, .ref h1, .int 1])), (h1, .inl (K 0, 112, .inl (fun _ => 0)))] sz) := by
  refine Met.ofW (cc := cX3_write) (maxL := 4) (ret := none) (by decide) rfl ?_
  intro p e s m args below meth c s₁ B hml hv
  obtain ⟨rfl, hsz, hP, hK, hD0, hE⟩ := hv
  have hx := B.exec
  have hb := B.bytes
  have hr := B.returns
  have hts := atoms_spec (ws := v_X3_write_21) B.pre
  have t_ := t_X3_write_21
  have mw : ∀ w ∈ e_X3_write_21, w ∈ v_X3_write_21 := fun w h => List.mem_cons_of_mem _ (List.mem_append_left _ h)
  have hw := fun w (h : w ∈ e_X3_write_21) => hts w (mw w h)
  have iX3 : ∀ w ∈ wsX30, w ∈ v_X3_write_21 := fun w h => List.mem_cons_of_mem _ (List.mem_append_right _ (List.mem_append_left _ h))
  have hown : s.vm.findClass RX3 = some m.cls := findClass_of_methodNamed B.named
  have hlocks := B.notSynchronized
  subst hsz
  have hD := hD0.self (sz := s.heap.size)
  generalize hAe : va_A [(h0, .inr (2, [.int 7, .int 600, .ref h1, .int 1])), (h1, .inl (K 0, 112, .inl (fun _ => 0)))] s.heap.size = A at hD ⊢
  have hA : ∀ q : Nat, s.heap.size ≤ q → A q := fun q h => by rw [← hAe]; exact Or.inr h
  have hS : va_S A s.heap s.heap [] := va_S.rf
  have hP : va_P G vwCl [(h0, .inr (2, [.int 7, .int 600, .ref h1, .int 1])), (h1, .inl (K 0, 112, .inl (fun _ => 0)))] s.heap := hP
  have hl := lv_entry ([.ref h0, .int 0, .int 6]) (n := 4) (Nat.le_of_ble_eq_true rfl)
  rw [lg_entry_eq]
  generalize (lg_sl ([.ref h0, .int 0, .int 6]) ++ List.replicate (4 - (lg_sl ([.ref h0, .int 0, .int 6])).length) Slot.unset).toArray = ls at hl ⊢
  have hl : lv_has ls 4 [(0, .ref h0), (1, .int 0), (2, .int 6)] := hl
  refine lv_aload_n hx hb dX3_write_0 rfl (lv_at hl 0 rfl) ?_
  refine va_get (D := G) (ci := 2) (v := .int 1) (C := RX3) (T := TX3) (N := 4) hx hb hts iX3 hown hK hP 0 rfl rfl 3 (by decide) (hw (.fieldLink RX3 28 "MotionFloor$Ledger" "size" "I") (List.mem_of_getElem? (i := 0) rfl)) (fun _ h9 => h9) rfl dX3_write_1 ?_
  refine lv_iconst (v := 1) hx hb dX3_write_4 (by decide) ?_
  refine lv_isub hx hb dX3_write_5 ?_
  refine wTop (v1 := .int 0) (congrArg Value.int (by decide)) ?_
  refine lv_aload_n hx hb dX3_write_6 rfl (lv_at hl 0 rfl) ?_
  refine va_get (D := G) (ci := 2) (v := .int 7) (C := RX3) (T := TX3) (N := 4) hx hb hts iX3 hown hK hP 0 rfl rfl 0 (by decide) (hw (.fieldLink RX3 15 "MotionFloor$Ledger" "columns" "I") (List.mem_of_getElem? (i := 1) rfl)) (fun _ h9 => h9) rfl dX3_write_7 ?_
  refine lv_imul hx hb dX3_write_10 ?_
  refine wTop (v1 := .int 0) (congrArg Value.int (by decide)) ?_
  refine lv_iload_n hx hb dX3_write_11 rfl (lv_at hl 1 rfl) ?_
  refine lv_iadd hx hb dX3_write_12 ?_
  refine wTop (v1 := .int 0) (congrArg Value.int (by decide)) ?_
  refine lv_istore_n (lv' := [(3, .int 0), (0, .ref h0), (1, .int 0), (2, .int 6)]) hx hb dX3_write_13 rfl hl (by decide) rfl (fun ls hl => ?_)
  refine lv_iload_n hx hb dX3_write_14 rfl (lv_at hl 2 rfl) ?_
  refine lv_if_lt (tgt := 46) hx hb dX3_write_15 (by decide) (fun c_ => absurd c_ (by decide)) (fun _ => ?_)
  refine lv_iload_n hx hb dX3_write_18 rfl (lv_at hl 2 rfl) ?_
  refine lv_aload_n hx hb dX3_write_19 rfl (lv_at hl 1 rfl) ?_
  refine va_get (D := G) (ci := 2) (v := .int 7) (C := RX3) (T := TX3) (N := 4) hx hb hts iX3 hown hK hP 0 rfl rfl 0 (by decide) (hw (.fieldLink RX3 15 "MotionFloor$Ledger" "columns" "I") (List.mem_of_getElem? (i := 1) rfl)) (fun _ h9 => h9) rfl dX3_write_20 ?_
  refine lv_icmp_ge (tgt := 46) hx hb dX3_write_23 (by decide) (fun c_ => absurd c_ (by decide)) (fun _ => ?_)
  refine lv_iload_n hx hb dX3_write_26 rfl (lv_at hl 0 rfl) ?_
  refine lv_if_lt (tgt := 46) hx hb dX3_write_27 (by decide) (fun c_ => absurd c_ (by decide)) (fun _ => ?_)
  refine lv_iload_n hx hb dX3_write_30 rfl (lv_at hl 0 rfl) ?_
  refine lv_aload_n hx hb dX3_write_31 rfl (lv_at hl 1 rfl) ?_
  refine va_get (D := G) (ci := 2) (v := .ref h1) (C := RX3) (T := TX3) (N := 4) hx hb hts iX3 hown hK hP 0 rfl rfl 2 (by decide) (hw (.fieldLink RX3 24 "MotionFloor$Ledger" "cells" "[I") (List.mem_of_getElem? (i := 2) rfl)) (fun _ h9 => h9) rfl dX3_write_32 ?_
  refine va_alen (v := 112) hx hb hK hP 1 0 rfl rfl (by decide) dX3_write_35 ?_
  refine lv_icmp_ge (tgt := 46) hx hb dX3_write_36 (by decide) (fun c_ => absurd c_ (by decide)) (fun _ => ?_)
  refine lv_aload_n hx hb dX3_write_39 rfl (lv_at hl 1 rfl) ?_
  refine va_get (D := G) (ci := 2) (v := .ref h1) (C := RX3) (T := TX3) (N := 4) hx hb hts iX3 hown hK hP 0 rfl rfl 2 (by decide) (hw (.fieldLink RX3 24 "MotionFloor$Ledger" "cells" "[I") (List.mem_of_getElem? (i := 2) rfl)) (fun _ h9 => h9) rfl dX3_write_40 ?_
  refine lv_iload_n hx hb dX3_write_43 rfl (lv_at hl 0 rfl) ?_
  refine lv_iload_n hx hb dX3_write_44 rfl (lv_at hl 3 rfl) ?_
  refine va_iast hx hb hK hP hD hS 1 0 rfl rfl (vp_in_iff.mpr (by decide)) dX3_write_45 (fun H locs hP hD hS => ?_)
  have hP : va_P G vwCl [(h0, .inr (2, [.int 7, .int 600, .ref h1, .int 1])), (h1, .inl (K 0, 112, .inl (upd (fun _ => 0) 0 6)))] _ := hP
  have hD : va_D A [(h0, .inr (2, [.int 7, .int 600, .ref h1, .int 1])), (h1, .inl (K 0, 112, .inl (upd (fun _ => 0) 0 6)))] := hD
  have hP9 : va_P G vwCl [(h0, .inr (2, [.int 7, .int 600, .ref h1, .int 1])), (h1, .inl (K 0, 112, .inl (upd (fun _ => 0) 0 6)))] _ := hP
  have hD9 : va_D A [(h0, .inr (2, [.int 7, .int 600, .ref h1, .int 1])), (h1, .inl (K 0, 112, .inl (upd (fun _ => 0) 0 6)))] := hD
  exact W.vret hx hb hr (fun t ht hW => ⟨⟨_, rfl, rfl, by rw [ht]; exact hP9, hD9⟩, hS.F ht⟩) hS.2.2 dX3_write_46
def e_X3_write_22 : List Cond := [.fieldLink RX3 28 "MotionFloor$Ledger" "size" "I", .fieldLink RX3 15 "MotionFloor$Ledger" "columns" "I", .fieldLink RX3 24 "MotionFloor$Ledger" "cells" "[I"]
def v_X3_write_22 : List Cond := .code yX3_write cX3_write 4 none :: (e_X3_write_22 ++ (wsX30 ++ []))
theorem te_X3_write_22 : GoodIn lw_tbl e_X3_write_22 := wGc z162 (wGc z38 (wGc z36 (wG0)))
theorem t_X3_write_22 : GoodIn lw_tbl v_X3_write_22 := wGc z194 (wGa te_X3_write_22 (wGa zcX3 (wG0)))
set_option maxHeartbeats 4000000 in
set_option maxRecDepth 100000 in
theorem m_X3_write_22 (l : Launch) (G : va_G) (K : Nat → ClassId) (h0 h1 : Nat) (p0 : Int32) (sz : Nat) (bp0 : 0 ≤ p0.toInt ∧ p0.toInt ≤ 99) : Met l yX3_write v_X3_write_22 ({ frames := 0, cells := 0, slots := 0, locals := 0 }) (va_Pc [.ref h0, .int 1, .int p0] (wS G K sz [(h0, .inr (2, [.int 7, .int 600, .ref h1, .int 1])), (h1, .inl (K 0, 112, .inl (upd (fun _ => 0) 0 6)))])) (va_Qv (fun u : va_W => (u = [(h0, .inr (2, [.int 7, .int 600, .ref h1, .int 1])), (h1, .inl (K 0, 112, .inl (upd (upd (fun _ => 0) 0 6) 1 p0)))])) (wB G (va_A [(h0, .inr (2, [.int 7, .int 600, .ref h1, .int 1])), (h1, .inl (K 0, 112, .inl (upd (fun _ => 0) 0 6)))] sz)) (va_A [(h0, .inr (2, [.int 7, .int 600, .ref h1, .int 1])), (h1, .inl (K 0, 112, .inl (upd (fun _ => 0) 0 6)))] sz)) 0 0 (va_A [(h0, .inr (2, [.int 7, .int 600, .ref h1, .int 1])), (h1, .inl (K 0, 112, .inl (upd (fun _ => 0) 0 6)))] sz) := by
  refine Met.ofW (cc := cX3_write) (maxL := 4) (ret := none) (by decide) rfl ?_
  intro p e s m args below meth c s₁ B hml hv
  obtain ⟨rfl, hsz, hP, hK, hD0, hE⟩ := hv
  have hx := B.exec
  have hb := B.bytes
  have hr := B.returns
  have hts := atoms_spec (ws := v_X3_write_22) B.pre
  have t_ := t_X3_write_22
  have mw : ∀ w ∈ e_X3_write_22, w ∈ v_X3_write_22 := fun w h => List.mem_cons_of_mem _ (List.mem_append_left _ h)
  have hw := fun w (h : w ∈ e_X3_write_22) => hts w (mw w h)
  have iX3 : ∀ w ∈ wsX30, w ∈ v_X3_write_22 := fun w h => List.mem_cons_of_mem _ (List.mem_append_right _ (List.mem_append_left _ h))
  have hown : s.vm.findClass RX3 = some m.cls := findClass_of_methodNamed B.named
  have hlocks := B.notSynchronized
  subst hsz
  have hD := hD0.self (sz := s.heap.size)
  generalize hAe : va_A [(h0, .inr (2, [.int 7, .int 600, .ref h1, .int 1])), (h1, .inl (K 0, 112, .inl (upd (fun _ => 0) 0 6)))] s.heap.size = A at hD ⊢
  have hA : ∀ q : Nat, s.heap.size ≤ q → A q := fun q h => by rw [← hAe]; exact Or.inr h
  have hS : va_S A s.heap s.heap [] := va_S.rf
  have hP : va_P G vwCl [(h0, .inr (2, [.int 7, .int 600, .ref h1, .int 1])), (h1, .inl (K 0, 112, .inl (upd (fun _ => 0) 0 6)))] s.heap := hP
  have hl := lv_entry ([.ref h0, .int 1, .int p0]) (n := 4) (Nat.le_of_ble_eq_true rfl)
  rw [lg_entry_eq]
  generalize (lg_sl ([.ref h0, .int 1, .int p0]) ++ List.replicate (4 - (lg_sl ([.ref h0, .int 1, .int p0])).length) Slot.unset).toArray = ls at hl ⊢
  have hl : lv_has ls 4 [(0, .ref h0), (1, .int 1), (2, .int p0)] := hl
  refine lv_aload_n hx hb dX3_write_0 rfl (lv_at hl 0 rfl) ?_
  refine va_get (D := G) (ci := 2) (v := .int 1) (C := RX3) (T := TX3) (N := 4) hx hb hts iX3 hown hK hP 0 rfl rfl 3 (by decide) (hw (.fieldLink RX3 28 "MotionFloor$Ledger" "size" "I") (List.mem_of_getElem? (i := 0) rfl)) (fun _ h9 => h9) rfl dX3_write_1 ?_
  refine lv_iconst (v := 1) hx hb dX3_write_4 (by decide) ?_
  refine lv_isub hx hb dX3_write_5 ?_
  refine wTop (v1 := .int 0) (congrArg Value.int (by decide)) ?_
  refine lv_aload_n hx hb dX3_write_6 rfl (lv_at hl 0 rfl) ?_
  refine va_get (D := G) (ci := 2) (v := .int 7) (C := RX3) (T := TX3) (N := 4) hx hb hts iX3 hown hK hP 0 rfl rfl 0 (by decide) (hw (.fieldLink RX3 15 "MotionFloor$Ledger" "columns" "I") (List.mem_of_getElem? (i := 1) rfl)) (fun _ h9 => h9) rfl dX3_write_7 ?_
  refine lv_imul hx hb dX3_write_10 ?_
  refine wTop (v1 := .int 0) (congrArg Value.int (by decide)) ?_
  refine lv_iload_n hx hb dX3_write_11 rfl (lv_at hl 1 rfl) ?_
  refine lv_iadd hx hb dX3_write_12 ?_
  refine wTop (v1 := .int 1) (congrArg Value.int (by decide)) ?_
  refine lv_istore_n (lv' := [(3, .int 1), (0, .ref h0), (1, .int 1), (2, .int p0)]) hx hb dX3_write_13 rfl hl (by decide) rfl (fun ls hl => ?_)
  refine lv_iload_n hx hb dX3_write_14 rfl (lv_at hl 2 rfl) ?_
  refine lv_if_lt (tgt := 46) hx hb dX3_write_15 (by decide) (fun c_ => absurd c_ (by decide)) (fun _ => ?_)
  refine lv_iload_n hx hb dX3_write_18 rfl (lv_at hl 2 rfl) ?_
  refine lv_aload_n hx hb dX3_write_19 rfl (lv_at hl 1 rfl) ?_
  refine va_get (D := G) (ci := 2) (v := .int 7) (C := RX3) (T := TX3) (N := 4) hx hb hts iX3 hown hK hP 0 rfl rfl 0 (by decide) (hw (.fieldLink RX3 15 "MotionFloor$Ledger" "columns" "I") (List.mem_of_getElem? (i := 1) rfl)) (fun _ h9 => h9) rfl dX3_write_20 ?_
  refine lv_icmp_ge (tgt := 46) hx hb dX3_write_23 (by decide) (fun c_ => absurd c_ (by decide)) (fun _ => ?_)
  refine lv_iload_n hx hb dX3_write_26 rfl (lv_at hl 0 rfl) ?_
  refine lv_if_lt (tgt := 46) hx hb dX3_write_27 (by decide) (fun c_ => absurd c_ (by decide)) (fun _ => ?_)
  refine lv_iload_n hx hb dX3_write_30 rfl (lv_at hl 0 rfl) ?_
  refine lv_aload_n hx hb dX3_write_31 rfl (lv_at hl 1 rfl) ?_
  refine va_get (D := G) (ci := 2) (v := .ref h1) (C := RX3) (T := TX3) (N := 4) hx hb hts iX3 hown hK hP 0 rfl rfl 2 (by decide) (hw (.fieldLink RX3 24 "MotionFloor$Ledger" "cells" "[I") (List.mem_of_getElem? (i := 2) rfl)) (fun _ h9 => h9) rfl dX3_write_32 ?_
  refine va_alen (v := 112) hx hb hK hP 1 0 rfl rfl (by decide) dX3_write_35 ?_
  refine lv_icmp_ge (tgt := 46) hx hb dX3_write_36 (by decide) (fun c_ => absurd c_ (by decide)) (fun _ => ?_)
  refine lv_aload_n hx hb dX3_write_39 rfl (lv_at hl 1 rfl) ?_
  refine va_get (D := G) (ci := 2) (v := .ref h1) (C := RX3) (T := TX3) (N := 4) hx hb hts iX3 hown hK hP 0 rfl rfl 2 (by decide) (hw (.fieldLink RX3 24 "MotionFloor$Ledger" "cells" "[I") (List.mem_of_getElem? (i := 2) rfl)) (fun _ h9 => h9) rfl dX3_write_40 ?_
  refine lv_iload_n hx hb dX3_write_43 rfl (lv_at hl 0 rfl) ?_
  refine lv_iload_n hx hb dX3_write_44 rfl (lv_at hl 3 rfl) ?_
  refine va_iast hx hb hK hP hD hS 1 0 rfl rfl (vp_in_iff.mpr (by decide)) dX3_write_45 (fun H locs hP hD hS => ?_)
  have hP : va_P G vwCl [(h0, .inr (2, [.int 7, .int 600, .ref h1, .int 1])), (h1, .inl (K 0, 112, .inl (upd (upd (fun _ => 0) 0 6) 1 p0)))] _ := hP
  have hD : va_D A [(h0, .inr (2, [.int 7, .int 600, .ref h1, .int 1])), (h1, .inl (K 0, 112, .inl (upd (upd (fun _ => 0) 0 6) 1 p0)))] := hD
  have hP9 : va_P G vwCl [(h0, .inr (2, [.int 7, .int 600, .ref h1, .int 1])), (h1, .inl (K 0, 112, .inl (upd (upd (fun _ => 0) 0 6) 1 p0)))] _ := hP
  have hD9 : va_D A [(h0, .inr (2, [.int 7, .int 600, .ref h1, .int 1])), (h1, .inl (K 0, 112, .inl (upd (upd (fun _ => 0) 0 6) 1 p0)))] := hD
  exact W.vret hx hb hr (fun t ht hW => ⟨⟨_, rfl, rfl, by rw [ht]; exact hP9, hD9⟩, hS.F ht⟩) hS.2.2 dX3_write_46
def e_X3_write_23 : List Cond := [.fieldLink RX3 28 "MotionFloor$Ledger" "size" "I", .fieldLink RX3 15 "MotionFloor$Ledger" "columns" "I", .fieldLink RX3 24 "MotionFloor$Ledger" "cells" "[I"]
def v_X3_write_23 : List Cond := .code yX3_write cX3_write 4 none :: (e_X3_write_23 ++ (wsX30 ++ []))
theorem te_X3_write_23 : GoodIn lw_tbl e_X3_write_23 := wGc z162 (wGc z38 (wGc z36 (wG0)))
theorem t_X3_write_23 : GoodIn lw_tbl v_X3_write_23 := wGc z194 (wGa te_X3_write_23 (wGa zcX3 (wG0)))
set_option maxHeartbeats 4000000 in
set_option maxRecDepth 100000 in
theorem m_X3_write_23 (l : Launch) (G : va_G) (K : Nat → ClassId) (h0 h1 : Nat) (p0 : Int32) (sz : Nat) (bp0 : 0 ≤ p0.toInt ∧ p0.toInt ≤ 99) : Met l yX3_write v_X3_write_23 ({ frames := 0, cells := 0, slots := 0, locals := 0 }) (va_Pc [.ref h0, .int 2, .int 0] (wS G K sz [(h0, .inr (2, [.int 7, .int 600, .ref h1, .int 1])), (h1, .inl (K 0, 112, .inl (upd (upd (fun _ => 0) 0 6) 1 p0)))])) (va_Qv (fun u : va_W => (u = [(h0, .inr (2, [.int 7, .int 600, .ref h1, .int 1])), (h1, .inl (K 0, 112, .inl (upd (upd (upd (fun _ => 0) 0 6) 1 p0) 2 0)))])) (wB G (va_A [(h0, .inr (2, [.int 7, .int 600, .ref h1, .int 1])), (h1, .inl (K 0, 112, .inl (upd (upd (fun _ => 0) 0 6) 1 p0)))] sz)) (va_A [(h0, .inr (2, [.int 7, .int 600, .ref h1, .int 1])), (h1, .inl (K 0, 112, .inl (upd (upd (fun _ => 0) 0 6) 1 p0)))] sz)) 0 0 (va_A [(h0, .inr (2, [.int 7, .int 600, .ref h1, .int 1])), (h1, .inl (K 0, 112, .inl (upd (upd (fun _ => 0) 0 6) 1 p0)))] sz) := by
  refine Met.ofW (cc := cX3_write) (maxL := 4) (ret := none) (by decide) rfl ?_
  intro p e s m args below meth c s₁ B hml hv
  obtain ⟨rfl, hsz, hP, hK, hD0, hE⟩ := hv
  have hx := B.exec
  have hb := B.bytes
  have hr := B.returns
  have hts := atoms_spec (ws := v_X3_write_23) B.pre
  have t_ := t_X3_write_23
  have mw : ∀ w ∈ e_X3_write_23, w ∈ v_X3_write_23 := fun w h => List.mem_cons_of_mem _ (List.mem_append_left _ h)
  have hw := fun w (h : w ∈ e_X3_write_23) => hts w (mw w h)
  have iX3 : ∀ w ∈ wsX30, w ∈ v_X3_write_23 := fun w h => List.mem_cons_of_mem _ (List.mem_append_right _ (List.mem_append_left _ h))
  have hown : s.vm.findClass RX3 = some m.cls := findClass_of_methodNamed B.named
  have hlocks := B.notSynchronized
  subst hsz
  have hD := hD0.self (sz := s.heap.size)
  generalize hAe : va_A [(h0, .inr (2, [.int 7, .int 600, .ref h1, .int 1])), (h1, .inl (K 0, 112, .inl (upd (upd (fun _ => 0) 0 6) 1 p0)))] s.heap.size = A at hD ⊢
  have hA : ∀ q : Nat, s.heap.size ≤ q → A q := fun q h => by rw [← hAe]; exact Or.inr h
  have hS : va_S A s.heap s.heap [] := va_S.rf
  have hP : va_P G vwCl [(h0, .inr (2, [.int 7, .int 600, .ref h1, .int 1])), (h1, .inl (K 0, 112, .inl (upd (upd (fun _ => 0) 0 6) 1 p0)))] s.heap := hP
  have hl := lv_entry ([.ref h0, .int 2, .int 0]) (n := 4) (Nat.le_of_ble_eq_true rfl)
  rw [lg_entry_eq]
  generalize (lg_sl ([.ref h0, .int 2, .int 0]) ++ List.replicate (4 - (lg_sl ([.ref h0, .int 2, .int 0])).length) Slot.unset).toArray = ls at hl ⊢
  have hl : lv_has ls 4 [(0, .ref h0), (1, .int 2), (2, .int 0)] := hl
  refine lv_aload_n hx hb dX3_write_0 rfl (lv_at hl 0 rfl) ?_
  refine va_get (D := G) (ci := 2) (v := .int 1) (C := RX3) (T := TX3) (N := 4) hx hb hts iX3 hown hK hP 0 rfl rfl 3 (by decide) (hw (.fieldLink RX3 28 "MotionFloor$Ledger" "size" "I") (List.mem_of_getElem? (i := 0) rfl)) (fun _ h9 => h9) rfl dX3_write_1 ?_
  refine lv_iconst (v := 1) hx hb dX3_write_4 (by decide) ?_
  refine lv_isub hx hb dX3_write_5 ?_
  refine wTop (v1 := .int 0) (congrArg Value.int (by decide)) ?_
  refine lv_aload_n hx hb dX3_write_6 rfl (lv_at hl 0 rfl) ?_
  refine va_get (D := G) (ci := 2) (v := .int 7) (C := RX3) (T := TX3) (N := 4) hx hb hts iX3 hown hK hP 0 rfl rfl 0 (by decide) (hw (.fieldLink RX3 15 "MotionFloor$Ledger" "columns" "I") (List.mem_of_getElem? (i := 1) rfl)) (fun _ h9 => h9) rfl dX3_write_7 ?_
  refine lv_imul hx hb dX3_write_10 ?_
  refine wTop (v1 := .int 0) (congrArg Value.int (by decide)) ?_
  refine lv_iload_n hx hb dX3_write_11 rfl (lv_at hl 1 rfl) ?_
  refine lv_iadd hx hb dX3_write_12 ?_
  refine wTop (v1 := .int 2) (congrArg Value.int (by decide)) ?_
  refine lv_istore_n (lv' := [(3, .int 2), (0, .ref h0), (1, .int 2), (2, .int 0)]) hx hb dX3_write_13 rfl hl (by decide) rfl (fun ls hl => ?_)
  refine lv_iload_n hx hb dX3_write_14 rfl (lv_at hl 2 rfl) ?_
  refine lv_if_lt (tgt := 46) hx hb dX3_write_15 (by decide) (fun c_ => absurd c_ (by decide)) (fun _ => ?_)
  refine lv_iload_n hx hb dX3_write_18 rfl (lv_at hl 2 rfl) ?_
  refine lv_aload_n hx hb dX3_write_19 rfl (lv_at hl 1 rfl) ?_
  refine va_get (D := G) (ci := 2) (v := .int 7) (C := RX3) (T := TX3) (N := 4) hx hb hts iX3 hown hK hP 0 rfl rfl 0 (by decide) (hw (.fieldLink RX3 15 "MotionFloor$Ledger" "columns" "I") (List.mem_of_getElem? (i := 1) rfl)) (fun _ h9 => h9) rfl dX3_write_20 ?_
  refine lv_icmp_ge (tgt := 46) hx hb dX3_write_23 (by decide) (fun c_ => absurd c_ (by decide)) (fun _ => ?_)
  refine lv_iload_n hx hb dX3_write_26 rfl (lv_at hl 0 rfl) ?_
  refine lv_if_lt (tgt := 46) hx hb dX3_write_27 (by decide) (fun c_ => absurd c_ (by decide)) (fun _ => ?_)
  refine lv_iload_n hx hb dX3_write_30 rfl (lv_at hl 0 rfl) ?_
  refine lv_aload_n hx hb dX3_write_31 rfl (lv_at hl 1 rfl) ?_
  refine va_get (D := G) (ci := 2) (v := .ref h1) (C := RX3) (T := TX3) (N := 4) hx hb hts iX3 hown hK hP 0 rfl rfl 2 (by decide) (hw (.fieldLink RX3 24 "MotionFloor$Ledger" "cells" "[I") (List.mem_of_getElem? (i := 2) rfl)) (fun _ h9 => h9) rfl dX3_write_32 ?_
  refine va_alen (v := 112) hx hb hK hP 1 0 rfl rfl (by decide) dX3_write_35 ?_
  refine lv_icmp_ge (tgt := 46) hx hb dX3_write_36 (by decide) (fun c_ => absurd c_ (by decide)) (fun _ => ?_)
  refine lv_aload_n hx hb dX3_write_39 rfl (lv_at hl 1 rfl) ?_
  refine va_get (D := G) (ci := 2) (v := .ref h1) (C := RX3) (T := TX3) (N := 4) hx hb hts iX3 hown hK hP 0 rfl rfl 2 (by decide) (hw (.fieldLink RX3 24 "MotionFloor$Ledger" "cells" "[I") (List.mem_of_getElem? (i := 2) rfl)) (fun _ h9 => h9) rfl dX3_write_40 ?_
  refine lv_iload_n hx hb dX3_write_43 rfl (lv_at hl 0 rfl) ?_
  refine lv_iload_n hx hb dX3_write_44 rfl (lv_at hl 3 rfl) ?_
  refine va_iast hx hb hK hP hD hS 1 0 rfl rfl (vp_in_iff.mpr (by decide)) dX3_write_45 (fun H locs hP hD hS => ?_)
  have hP : va_P G vwCl [(h0, .inr (2, [.int 7, .int 600, .ref h1, .int 1])), (h1, .inl (K 0, 112, .inl (upd (upd (upd (fun _ => 0) 0 6) 1 p0) 2 0)))] _ := hP
  have hD : va_D A [(h0, .inr (2, [.int 7, .int 600, .ref h1, .int 1])), (h1, .inl (K 0, 112, .inl (upd (upd (upd (fun _ => 0) 0 6) 1 p0) 2 0)))] := hD
  have hP9 : va_P G vwCl [(h0, .inr (2, [.int 7, .int 600, .ref h1, .int 1])), (h1, .inl (K 0, 112, .inl (upd (upd (upd (fun _ => 0) 0 6) 1 p0) 2 0)))] _ := hP
  have hD9 : va_D A [(h0, .inr (2, [.int 7, .int 600, .ref h1, .int 1])), (h1, .inl (K 0, 112, .inl (upd (upd (upd (fun _ => 0) 0 6) 1 p0) 2 0)))] := hD
  exact W.vret hx hb hr (fun t ht hW => ⟨⟨_, rfl, rfl, by rw [ht]; exact hP9, hD9⟩, hS.F ht⟩) hS.2.2 dX3_write_46
def e_X3_write_24 : List Cond := [.fieldLink RX3 28 "MotionFloor$Ledger" "size" "I", .fieldLink RX3 15 "MotionFloor$Ledger" "columns" "I", .fieldLink RX3 24 "MotionFloor$Ledger" "cells" "[I"]
def v_X3_write_24 : List Cond := .code yX3_write cX3_write 4 none :: (e_X3_write_24 ++ (wsX30 ++ []))
theorem te_X3_write_24 : GoodIn lw_tbl e_X3_write_24 := wGc z162 (wGc z38 (wGc z36 (wG0)))
theorem t_X3_write_24 : GoodIn lw_tbl v_X3_write_24 := wGc z194 (wGa te_X3_write_24 (wGa zcX3 (wG0)))
set_option maxHeartbeats 4000000 in
set_option maxRecDepth 100000 in
theorem m_X3_write_24 (l : Launch) (G : va_G) (K : Nat → ClassId) (h0 h1 : Nat) (p0 : Int32) (sz : Nat) (bp0 : 0 ≤ p0.toInt ∧ p0.toInt ≤ 99) : Met l yX3_write v_X3_write_24 ({ frames := 0, cells := 0, slots := 0, locals := 0 }) (va_Pc [.ref h0, .int 3, .int 0] (wS G K sz [(h0, .inr (2, [.int 7, .int 600, .ref h1, .int 1])), (h1, .inl (K 0, 112, .inl (upd (upd (upd (fun _ => 0) 0 6) 1 p0) 2 0)))])) (va_Qv (fun u : va_W => (u = [(h0, .inr (2, [.int 7, .int 600, .ref h1, .int 1])), (h1, .inl (K 0, 112, .inl (upd (upd (upd (upd (fun _ => 0) 0 6) 1 p0) 2 0) 3 0)))])) (wB G (va_A [(h0, .inr (2, [.int 7, .int 600, .ref h1, .int 1])), (h1, .inl (K 0, 112, .inl (upd (upd (upd (fun _ => 0) 0 6) 1 p0) 2 0)))] sz)) (va_A [(h0, .inr (2, [.int 7, .int 600, .ref h1, .int 1])), (h1, .inl (K 0, 112, .inl (upd (upd (upd (fun _ => 0) 0 6) 1 p0) 2 0)))] sz)) 0 0 (va_A [(h0, .inr (2, [.int 7, .int 600, .ref h1, .int 1])), (h1, .inl (K 0, 112, .inl (upd (upd (upd (fun _ => 0) 0 6) 1 p0) 2 0)))] sz) := by
  refine Met.ofW (cc := cX3_write) (maxL := 4) (ret := none) (by decide) rfl ?_
  intro p e s m args below meth c s₁ B hml hv
  obtain ⟨rfl, hsz, hP, hK, hD0, hE⟩ := hv
  have hx := B.exec
  have hb := B.bytes
  have hr := B.returns
  have hts := atoms_spec (ws := v_X3_write_24) B.pre
  have t_ := t_X3_write_24
  have mw : ∀ w ∈ e_X3_write_24, w ∈ v_X3_write_24 := fun w h => List.mem_cons_of_mem _ (List.mem_append_left _ h)
  have hw := fun w (h : w ∈ e_X3_write_24) => hts w (mw w h)
  have iX3 : ∀ w ∈ wsX30, w ∈ v_X3_write_24 := fun w h => List.mem_cons_of_mem _ (List.mem_append_right _ (List.mem_append_left _ h))
  have hown : s.vm.findClass RX3 = some m.cls := findClass_of_methodNamed B.named
  have hlocks := B.notSynchronized
  subst hsz
  have hD := hD0.self (sz := s.heap.size)
  generalize hAe : va_A [(h0, .inr (2, [.int 7, .int 600, .ref h1, .int 1])), (h1, .inl (K 0, 112, .inl (upd (upd (upd (fun _ => 0) 0 6) 1 p0) 2 0)))] s.heap.size = A at hD ⊢
  have hA : ∀ q : Nat, s.heap.size ≤ q → A q := fun q h => by rw [← hAe]; exact Or.inr h
  have hS : va_S A s.heap s.heap [] := va_S.rf
  have hP : va_P G vwCl [(h0, .inr (2, [.int 7, .int 600, .ref h1, .int 1])), (h1, .inl (K 0, 112, .inl (upd (upd (upd (fun _ => 0) 0 6) 1 p0) 2 0)))] s.heap := hP
  have hl := lv_entry ([.ref h0, .int 3, .int 0]) (n := 4) (Nat.le_of_ble_eq_true rfl)
  rw [lg_entry_eq]
  generalize (lg_sl ([.ref h0, .int 3, .int 0]) ++ List.replicate (4 - (lg_sl ([.ref h0, .int 3, .int 0])).length) Slot.unset).toArray = ls at hl ⊢
  have hl : lv_has ls 4 [(0, .ref h0), (1, .int 3), (2, .int 0)] := hl
  refine lv_aload_n hx hb dX3_write_0 rfl (lv_at hl 0 rfl) ?_
  refine va_get (D := G) (ci := 2) (v := .int 1) (C := RX3) (T := TX3) (N := 4) hx hb hts iX3 hown hK hP 0 rfl rfl 3 (by decide) (hw (.fieldLink RX3 28 "MotionFloor$Ledger" "size" "I") (List.mem_of_getElem? (i := 0) rfl)) (fun _ h9 => h9) rfl dX3_write_1 ?_
  refine lv_iconst (v := 1) hx hb dX3_write_4 (by decide) ?_
  refine lv_isub hx hb dX3_write_5 ?_
  refine wTop (v1 := .int 0) (congrArg Value.int (by decide)) ?_
  refine lv_aload_n hx hb dX3_write_6 rfl (lv_at hl 0 rfl) ?_
  refine va_get (D := G) (ci := 2) (v := .int 7) (C := RX3) (T := TX3) (N := 4) hx hb hts iX3 hown hK hP 0 rfl rfl 0 (by decide) (hw (.fieldLink RX3 15 "MotionFloor$Ledger" "columns" "I") (List.mem_of_getElem? (i := 1) rfl)) (fun _ h9 => h9) rfl dX3_write_7 ?_
  refine lv_imul hx hb dX3_write_10 ?_
  refine wTop (v1 := .int 0) (congrArg Value.int (by decide)) ?_
  refine lv_iload_n hx hb dX3_write_11 rfl (lv_at hl 1 rfl) ?_
  refine lv_iadd hx hb dX3_write_12 ?_
  refine wTop (v1 := .int 3) (congrArg Value.int (by decide)) ?_
  refine lv_istore_n (lv' := [(3, .int 3), (0, .ref h0), (1, .int 3), (2, .int 0)]) hx hb dX3_write_13 rfl hl (by decide) rfl (fun ls hl => ?_)
  refine lv_iload_n hx hb dX3_write_14 rfl (lv_at hl 2 rfl) ?_
  refine lv_if_lt (tgt := 46) hx hb dX3_write_15 (by decide) (fun c_ => absurd c_ (by decide)) (fun _ => ?_)
  refine lv_iload_n hx hb dX3_write_18 rfl (lv_at hl 2 rfl) ?_
  refine lv_aload_n hx hb dX3_write_19 rfl (lv_at hl 1 rfl) ?_
  refine va_get (D := G) (ci := 2) (v := .int 7) (C := RX3) (T := TX3) (N := 4) hx hb hts iX3 hown hK hP 0 rfl rfl 0 (by decide) (hw (.fieldLink RX3 15 "MotionFloor$Ledger" "columns" "I") (List.mem_of_getElem? (i := 1) rfl)) (fun _ h9 => h9) rfl dX3_write_20 ?_
  refine lv_icmp_ge (tgt := 46) hx hb dX3_write_23 (by decide) (fun c_ => absurd c_ (by decide)) (fun _ => ?_)
  refine lv_iload_n hx hb dX3_write_26 rfl (lv_at hl 0 rfl) ?_
  refine lv_if_lt (tgt := 46) hx hb dX3_write_27 (by decide) (fun c_ => absurd c_ (by decide)) (fun _ => ?_)
  refine lv_iload_n hx hb dX3_write_30 rfl (lv_at hl 0 rfl) ?_
  refine lv_aload_n hx hb dX3_write_31 rfl (lv_at hl 1 rfl) ?_
  refine va_get (D := G) (ci := 2) (v := .ref h1) (C := RX3) (T := TX3) (N := 4) hx hb hts iX3 hown hK hP 0 rfl rfl 2 (by decide) (hw (.fieldLink RX3 24 "MotionFloor$Ledger" "cells" "[I") (List.mem_of_getElem? (i := 2) rfl)) (fun _ h9 => h9) rfl dX3_write_32 ?_
  refine va_alen (v := 112) hx hb hK hP 1 0 rfl rfl (by decide) dX3_write_35 ?_
  refine lv_icmp_ge (tgt := 46) hx hb dX3_write_36 (by decide) (fun c_ => absurd c_ (by decide)) (fun _ => ?_)
  refine lv_aload_n hx hb dX3_write_39 rfl (lv_at hl 1 rfl) ?_
  refine va_get (D := G) (ci := 2) (v := .ref h1) (C := RX3) (T := TX3) (N := 4) hx hb hts iX3 hown hK hP 0 rfl rfl 2 (by decide) (hw (.fieldLink RX3 24 "MotionFloor$Ledger" "cells" "[I") (List.mem_of_getElem? (i := 2) rfl)) (fun _ h9 => h9) rfl dX3_write_40 ?_
  refine lv_iload_n hx hb dX3_write_43 rfl (lv_at hl 0 rfl) ?_
  refine lv_iload_n hx hb dX3_write_44 rfl (lv_at hl 3 rfl) ?_
  refine va_iast hx hb hK hP hD hS 1 0 rfl rfl (vp_in_iff.mpr (by decide)) dX3_write_45 (fun H locs hP hD hS => ?_)
  have hP : va_P G vwCl [(h0, .inr (2, [.int 7, .int 600, .ref h1, .int 1])), (h1, .inl (K 0, 112, .inl (upd (upd (upd (upd (fun _ => 0) 0 6) 1 p0) 2 0) 3 0)))] _ := hP
  have hD : va_D A [(h0, .inr (2, [.int 7, .int 600, .ref h1, .int 1])), (h1, .inl (K 0, 112, .inl (upd (upd (upd (upd (fun _ => 0) 0 6) 1 p0) 2 0) 3 0)))] := hD
  have hP9 : va_P G vwCl [(h0, .inr (2, [.int 7, .int 600, .ref h1, .int 1])), (h1, .inl (K 0, 112, .inl (upd (upd (upd (upd (fun _ => 0) 0 6) 1 p0) 2 0) 3 0)))] _ := hP
  have hD9 : va_D A [(h0, .inr (2, [.int 7, .int 600, .ref h1, .int 1])), (h1, .inl (K 0, 112, .inl (upd (upd (upd (upd (fun _ => 0) 0 6) 1 p0) 2 0) 3 0)))] := hD
  exact W.vret hx hb hr (fun t ht hW => ⟨⟨_, rfl, rfl, by rw [ht]; exact hP9, hD9⟩, hS.F ht⟩) hS.2.2 dX3_write_46
def e_X3_write_25 : List Cond := [.fieldLink RX3 28 "MotionFloor$Ledger" "size" "I", .fieldLink RX3 15 "MotionFloor$Ledger" "columns" "I", .fieldLink RX3 24 "MotionFloor$Ledger" "cells" "[I"]
def v_X3_write_25 : List Cond := .code yX3_write cX3_write 4 none :: (e_X3_write_25 ++ (wsX30 ++ []))
theorem te_X3_write_25 : GoodIn lw_tbl e_X3_write_25 := wGc z162 (wGc z38 (wGc z36 (wG0)))
theorem t_X3_write_25 : GoodIn lw_tbl v_X3_write_25 := wGc z194 (wGa te_X3_write_25 (wGa zcX3 (wG0)))
set_option maxHeartbeats 4000000 in
set_option maxRecDepth 100000 in
theorem m_X3_write_25 (l : Launch) (G : va_G) (K : Nat → ClassId) (h0 h1 : Nat) (p0 : Int32) (sz : Nat) (bp0 : 0 ≤ p0.toInt ∧ p0.toInt ≤ 99) : Met l yX3_write v_X3_write_25 ({ frames := 0, cells := 0, slots := 0, locals := 0 }) (va_Pc [.ref h0, .int 4, .int 0] (wS G K sz [(h0, .inr (2, [.int 7, .int 600, .ref h1, .int 1])), (h1, .inl (K 0, 112, .inl (upd (upd (upd (upd (fun _ => 0) 0 6) 1 p0) 2 0) 3 0)))])) (va_Qv (fun u : va_W => (u = [(h0, .inr (2, [.int 7, .int 600, .ref h1, .int 1])), (h1, .inl (K 0, 112, .inl (upd (upd (upd (upd (upd (fun _ => 0) 0 6) 1 p0) 2 0) 3 0) 4 0)))])) (wB G (va_A [(h0, .inr (2, [.int 7, .int 600, .ref h1, .int 1])), (h1, .inl (K 0, 112, .inl (upd (upd (upd (upd (fun _ => 0) 0 6) 1 p0) 2 0) 3 0)))] sz)) (va_A [(h0, .inr (2, [.int 7, .int 600, .ref h1, .int 1])), (h1, .inl (K 0, 112, .inl (upd (upd (upd (upd (fun _ => 0) 0 6) 1 p0) 2 0) 3 0)))] sz)) 0 0 (va_A [(h0, .inr (2, [.int 7, .int 600, .ref h1, .int 1])), (h1, .inl (K 0, 112, .inl (upd (upd (upd (upd (fun _ => 0) 0 6) 1 p0) 2 0) 3 0)))] sz) := by
  refine Met.ofW (cc := cX3_write) (maxL := 4) (ret := none) (by decide) rfl ?_
  intro p e s m args below meth c s₁ B hml hv
  obtain ⟨rfl, hsz, hP, hK, hD0, hE⟩ := hv
  have hx := B.exec
  have hb := B.bytes
  have hr := B.returns
  have hts := atoms_spec (ws := v_X3_write_25) B.pre
  have t_ := t_X3_write_25
  have mw : ∀ w ∈ e_X3_write_25, w ∈ v_X3_write_25 := fun w h => List.mem_cons_of_mem _ (List.mem_append_left _ h)
  have hw := fun w (h : w ∈ e_X3_write_25) => hts w (mw w h)
  have iX3 : ∀ w ∈ wsX30, w ∈ v_X3_write_25 := fun w h => List.mem_cons_of_mem _ (List.mem_append_right _ (List.mem_append_left _ h))
  have hown : s.vm.findClass RX3 = some m.cls := findClass_of_methodNamed B.named
  have hlocks := B.notSynchronized
  subst hsz
  have hD := hD0.self (sz := s.heap.size)
  generalize hAe : va_A [(h0, .inr (2, [.int 7, .int 600, .ref h1, .int 1])), (h1, .inl (K 0, 112, .inl (upd (upd (upd (upd (fun _ => 0) 0 6) 1 p0) 2 0) 3 0)))] s.heap.size = A at hD ⊢
  have hA : ∀ q : Nat, s.heap.size ≤ q → A q := fun q h => by rw [← hAe]; exact Or.inr h
  have hS : va_S A s.heap s.heap [] := va_S.rf
  have hP : va_P G vwCl [(h0, .inr (2, [.int 7, .int 600, .ref h1, .int 1])), (h1, .inl (K 0, 112, .inl (upd (upd (upd (upd (fun _ => 0) 0 6) 1 p0) 2 0) 3 0)))] s.heap := hP
  have hl := lv_entry ([.ref h0, .int 4, .int 0]) (n := 4) (Nat.le_of_ble_eq_true rfl)
  rw [lg_entry_eq]
  generalize (lg_sl ([.ref h0, .int 4, .int 0]) ++ List.replicate (4 - (lg_sl ([.ref h0, .int 4, .int 0])).length) Slot.unset).toArray = ls at hl ⊢
  have hl : lv_has ls 4 [(0, .ref h0), (1, .int 4), (2, .int 0)] := hl
  refine lv_aload_n hx hb dX3_write_0 rfl (lv_at hl 0 rfl) ?_
  refine va_get (D := G) (ci := 2) (v := .int 1) (C := RX3) (T := TX3) (N := 4) hx hb hts iX3 hown hK hP 0 rfl rfl 3 (by decide) (hw (.fieldLink RX3 28 "MotionFloor$Ledger" "size" "I") (List.mem_of_getElem? (i := 0) rfl)) (fun _ h9 => h9) rfl dX3_write_1 ?_
  refine lv_iconst (v := 1) hx hb dX3_write_4 (by decide) ?_
  refine lv_isub hx hb dX3_write_5 ?_
  refine wTop (v1 := .int 0) (congrArg Value.int (by decide)) ?_
  refine lv_aload_n hx hb dX3_write_6 rfl (lv_at hl 0 rfl) ?_
  refine va_get (D := G) (ci := 2) (v := .int 7) (C := RX3) (T := TX3) (N := 4) hx hb hts iX3 hown hK hP 0 rfl rfl 0 (by decide) (hw (.fieldLink RX3 15 "MotionFloor$Ledger" "columns" "I") (List.mem_of_getElem? (i := 1) rfl)) (fun _ h9 => h9) rfl dX3_write_7 ?_
  refine lv_imul hx hb dX3_write_10 ?_
  refine wTop (v1 := .int 0) (congrArg Value.int (by decide)) ?_
  refine lv_iload_n hx hb dX3_write_11 rfl (lv_at hl 1 rfl) ?_
  refine lv_iadd hx hb dX3_write_12 ?_
  refine wTop (v1 := .int 4) (congrArg Value.int (by decide)) ?_
  refine lv_istore_n (lv' := [(3, .int 4), (0, .ref h0), (1, .int 4), (2, .int 0)]) hx hb dX3_write_13 rfl hl (by decide) rfl (fun ls hl => ?_)
  refine lv_iload_n hx hb dX3_write_14 rfl (lv_at hl 2 rfl) ?_
  refine lv_if_lt (tgt := 46) hx hb dX3_write_15 (by decide) (fun c_ => absurd c_ (by decide)) (fun _ => ?_)
  refine lv_iload_n hx hb dX3_write_18 rfl (lv_at hl 2 rfl) ?_
  refine lv_aload_n hx hb dX3_write_19 rfl (lv_at hl 1 rfl) ?_
  refine va_get (D := G) (ci := 2) (v := .int 7) (C := RX3) (T := TX3) (N := 4) hx hb hts iX3 hown hK hP 0 rfl rfl 0 (by decide) (hw (.fieldLink RX3 15 "MotionFloor$Ledger" "columns" "I") (List.mem_of_getElem? (i := 1) rfl)) (fun _ h9 => h9) rfl dX3_write_20 ?_
  refine lv_icmp_ge (tgt := 46) hx hb dX3_write_23 (by decide) (fun c_ => absurd c_ (by decide)) (fun _ => ?_)
  refine lv_iload_n hx hb dX3_write_26 rfl (lv_at hl 0 rfl) ?_
  refine lv_if_lt (tgt := 46) hx hb dX3_write_27 (by decide) (fun c_ => absurd c_ (by decide)) (fun _ => ?_)
  refine lv_iload_n hx hb dX3_write_30 rfl (lv_at hl 0 rfl) ?_
  refine lv_aload_n hx hb dX3_write_31 rfl (lv_at hl 1 rfl) ?_
  refine va_get (D := G) (ci := 2) (v := .ref h1) (C := RX3) (T := TX3) (N := 4) hx hb hts iX3 hown hK hP 0 rfl rfl 2 (by decide) (hw (.fieldLink RX3 24 "MotionFloor$Ledger" "cells" "[I") (List.mem_of_getElem? (i := 2) rfl)) (fun _ h9 => h9) rfl dX3_write_32 ?_
  refine va_alen (v := 112) hx hb hK hP 1 0 rfl rfl (by decide) dX3_write_35 ?_
  refine lv_icmp_ge (tgt := 46) hx hb dX3_write_36 (by decide) (fun c_ => absurd c_ (by decide)) (fun _ => ?_)
  refine lv_aload_n hx hb dX3_write_39 rfl (lv_at hl 1 rfl) ?_
  refine va_get (D := G) (ci := 2) (v := .ref h1) (C := RX3) (T := TX3) (N := 4) hx hb hts iX3 hown hK hP 0 rfl rfl 2 (by decide) (hw (.fieldLink RX3 24 "MotionFloor$Ledger" "cells" "[I") (List.mem_of_getElem? (i := 2) rfl)) (fun _ h9 => h9) rfl dX3_write_40 ?_
  refine lv_iload_n hx hb dX3_write_43 rfl (lv_at hl 0 rfl) ?_
  refine lv_iload_n hx hb dX3_write_44 rfl (lv_at hl 3 rfl) ?_
  refine va_iast hx hb hK hP hD hS 1 0 rfl rfl (vp_in_iff.mpr (by decide)) dX3_write_45 (fun H locs hP hD hS => ?_)
  have hP : va_P G vwCl [(h0, .inr (2, [.int 7, .int 600, .ref h1, .int 1])), (h1, .inl (K 0, 112, .inl (upd (upd (upd (upd (upd (fun _ => 0) 0 6) 1 p0) 2 0) 3 0) 4 0)))] _ := hP
  have hD : va_D A [(h0, .inr (2, [.int 7, .int 600, .ref h1, .int 1])), (h1, .inl (K 0, 112, .inl (upd (upd (upd (upd (upd (fun _ => 0) 0 6) 1 p0) 2 0) 3 0) 4 0)))] := hD
  have hP9 : va_P G vwCl [(h0, .inr (2, [.int 7, .int 600, .ref h1, .int 1])), (h1, .inl (K 0, 112, .inl (upd (upd (upd (upd (upd (fun _ => 0) 0 6) 1 p0) 2 0) 3 0) 4 0)))] _ := hP
  have hD9 : va_D A [(h0, .inr (2, [.int 7, .int 600, .ref h1, .int 1])), (h1, .inl (K 0, 112, .inl (upd (upd (upd (upd (upd (fun _ => 0) 0 6) 1 p0) 2 0) 3 0) 4 0)))] := hD
  exact W.vret hx hb hr (fun t ht hW => ⟨⟨_, rfl, rfl, by rw [ht]; exact hP9, hD9⟩, hS.F ht⟩) hS.2.2 dX3_write_46
def e_X3_write_26 : List Cond := [.fieldLink RX3 28 "MotionFloor$Ledger" "size" "I", .fieldLink RX3 15 "MotionFloor$Ledger" "columns" "I", .fieldLink RX3 24 "MotionFloor$Ledger" "cells" "[I"]
def v_X3_write_26 : List Cond := .code yX3_write cX3_write 4 none :: (e_X3_write_26 ++ (wsX30 ++ []))
theorem te_X3_write_26 : GoodIn lw_tbl e_X3_write_26 := wGc z162 (wGc z38 (wGc z36 (wG0)))
theorem t_X3_write_26 : GoodIn lw_tbl v_X3_write_26 := wGc z194 (wGa te_X3_write_26 (wGa zcX3 (wG0)))
set_option maxHeartbeats 4000000 in
set_option maxRecDepth 100000 in
theorem m_X3_write_26 (l : Launch) (G : va_G) (K : Nat → ClassId) (h0 h1 : Nat) (p0 : Int32) (sz : Nat) (bp0 : 0 ≤ p0.toInt ∧ p0.toInt ≤ 99) : Met l yX3_write v_X3_write_26 ({ frames := 0, cells := 0, slots := 0, locals := 0 }) (va_Pc [.ref h0, .int 5, .int p0] (wS G K sz [(h0, .inr (2, [.int 7, .int 600, .ref h1, .int 1])), (h1, .inl (K 0, 112, .inl (upd (upd (upd (upd (upd (fun _ => 0) 0 6) 1 p0) 2 0) 3 0) 4 0)))])) (va_Qv (fun u : va_W => (u = [(h0, .inr (2, [.int 7, .int 600, .ref h1, .int 1])), (h1, .inl (K 0, 112, .inl (upd (upd (upd (upd (upd (upd (fun _ => 0) 0 6) 1 p0) 2 0) 3 0) 4 0) 5 p0)))])) (wB G (va_A [(h0, .inr (2, [.int 7, .int 600, .ref h1, .int 1])), (h1, .inl (K 0, 112, .inl (upd (upd (upd (upd (upd (fun _ => 0) 0 6) 1 p0) 2 0) 3 0) 4 0)))] sz)) (va_A [(h0, .inr (2, [.int 7, .int 600, .ref h1, .int 1])), (h1, .inl (K 0, 112, .inl (upd (upd (upd (upd (upd (fun _ => 0) 0 6) 1 p0) 2 0) 3 0) 4 0)))] sz)) 0 0 (va_A [(h0, .inr (2, [.int 7, .int 600, .ref h1, .int 1])), (h1, .inl (K 0, 112, .inl (upd (upd (upd (upd (upd (fun _ => 0) 0 6) 1 p0) 2 0) 3 0) 4 0)))] sz) := by
  refine Met.ofW (cc := cX3_write) (maxL := 4) (ret := none) (by decide) rfl ?_
  intro p e s m args below meth c s₁ B hml hv
  obtain ⟨rfl, hsz, hP, hK, hD0, hE⟩ := hv
  have hx := B.exec
  have hb := B.bytes
  have hr := B.returns
  have hts := atoms_spec (ws := v_X3_write_26) B.pre
  have t_ := t_X3_write_26
  have mw : ∀ w ∈ e_X3_write_26, w ∈ v_X3_write_26 := fun w h => List.mem_cons_of_mem _ (List.mem_append_left _ h)
  have hw := fun w (h : w ∈ e_X3_write_26) => hts w (mw w h)
  have iX3 : ∀ w ∈ wsX30, w ∈ v_X3_write_26 := fun w h => List.mem_cons_of_mem _ (List.mem_append_right _ (List.mem_append_left _ h))
  have hown : s.vm.findClass RX3 = some m.cls := findClass_of_methodNamed B.named
  have hlocks := B.notSynchronized
  subst hsz
  have hD := hD0.self (sz := s.heap.size)
  generalize hAe : va_A [(h0, .inr (2, [.int 7, .int 600, .ref h1, .int 1])), (h1, .inl (K 0, 112, .inl (upd (upd (upd (upd (upd (fun _ => 0) 0 6) 1 p0) 2 0) 3 0) 4 0)))] s.heap.size = A at hD ⊢
  have hA : ∀ q : Nat, s.heap.size ≤ q → A q := fun q h => by rw [← hAe]; exact Or.inr h
  have hS : va_S A s.heap s.heap [] := va_S.rf
  have hP : va_P G vwCl [(h0, .inr (2, [.int 7, .int 600, .ref h1, .int 1])), (h1, .inl (K 0, 112, .inl (upd (upd (upd (upd (upd (fun _ => 0) 0 6) 1 p0) 2 0) 3 0) 4 0)))] s.heap := hP
  have hl := lv_entry ([.ref h0, .int 5, .int p0]) (n := 4) (Nat.le_of_ble_eq_true rfl)
  rw [lg_entry_eq]
  generalize (lg_sl ([.ref h0, .int 5, .int p0]) ++ List.replicate (4 - (lg_sl ([.ref h0, .int 5, .int p0])).length) Slot.unset).toArray = ls at hl ⊢
  have hl : lv_has ls 4 [(0, .ref h0), (1, .int 5), (2, .int p0)] := hl
  refine lv_aload_n hx hb dX3_write_0 rfl (lv_at hl 0 rfl) ?_
  refine va_get (D := G) (ci := 2) (v := .int 1) (C := RX3) (T := TX3) (N := 4) hx hb hts iX3 hown hK hP 0 rfl rfl 3 (by decide) (hw (.fieldLink RX3 28 "MotionFloor$Ledger" "size" "I") (List.mem_of_getElem? (i := 0) rfl)) (fun _ h9 => h9) rfl dX3_write_1 ?_
  refine lv_iconst (v := 1) hx hb dX3_write_4 (by decide) ?_
  refine lv_isub hx hb dX3_write_5 ?_
  refine wTop (v1 := .int 0) (congrArg Value.int (by decide)) ?_
  refine lv_aload_n hx hb dX3_write_6 rfl (lv_at hl 0 rfl) ?_
  refine va_get (D := G) (ci := 2) (v := .int 7) (C := RX3) (T := TX3) (N := 4) hx hb hts iX3 hown hK hP 0 rfl rfl 0 (by decide) (hw (.fieldLink RX3 15 "MotionFloor$Ledger" "columns" "I") (List.mem_of_getElem? (i := 1) rfl)) (fun _ h9 => h9) rfl dX3_write_7 ?_
  refine lv_imul hx hb dX3_write_10 ?_
  refine wTop (v1 := .int 0) (congrArg Value.int (by decide)) ?_
  refine lv_iload_n hx hb dX3_write_11 rfl (lv_at hl 1 rfl) ?_
  refine lv_iadd hx hb dX3_write_12 ?_
  refine wTop (v1 := .int 5) (congrArg Value.int (by decide)) ?_
  refine lv_istore_n (lv' := [(3, .int 5), (0, .ref h0), (1, .int 5), (2, .int p0)]) hx hb dX3_write_13 rfl hl (by decide) rfl (fun ls hl => ?_)
  refine lv_iload_n hx hb dX3_write_14 rfl (lv_at hl 2 rfl) ?_
  refine lv_if_lt (tgt := 46) hx hb dX3_write_15 (by decide) (fun c_ => absurd c_ (by decide)) (fun _ => ?_)
  refine lv_iload_n hx hb dX3_write_18 rfl (lv_at hl 2 rfl) ?_
  refine lv_aload_n hx hb dX3_write_19 rfl (lv_at hl 1 rfl) ?_
  refine va_get (D := G) (ci := 2) (v := .int 7) (C := RX3) (T := TX3) (N := 4) hx hb hts iX3 hown hK hP 0 rfl rfl 0 (by decide) (hw (.fieldLink RX3 15 "MotionFloor$Ledger" "columns" "I") (List.mem_of_getElem? (i := 1) rfl)) (fun _ h9 => h9) rfl dX3_write_20 ?_
  refine lv_icmp_ge (tgt := 46) hx hb dX3_write_23 (by decide) (fun c_ => absurd c_ (by decide)) (fun _ => ?_)
  refine lv_iload_n hx hb dX3_write_26 rfl (lv_at hl 0 rfl) ?_
  refine lv_if_lt (tgt := 46) hx hb dX3_write_27 (by decide) (fun c_ => absurd c_ (by decide)) (fun _ => ?_)
  refine lv_iload_n hx hb dX3_write_30 rfl (lv_at hl 0 rfl) ?_
  refine lv_aload_n hx hb dX3_write_31 rfl (lv_at hl 1 rfl) ?_
  refine va_get (D := G) (ci := 2) (v := .ref h1) (C := RX3) (T := TX3) (N := 4) hx hb hts iX3 hown hK hP 0 rfl rfl 2 (by decide) (hw (.fieldLink RX3 24 "MotionFloor$Ledger" "cells" "[I") (List.mem_of_getElem? (i := 2) rfl)) (fun _ h9 => h9) rfl dX3_write_32 ?_
  refine va_alen (v := 112) hx hb hK hP 1 0 rfl rfl (by decide) dX3_write_35 ?_
  refine lv_icmp_ge (tgt := 46) hx hb dX3_write_36 (by decide) (fun c_ => absurd c_ (by decide)) (fun _ => ?_)
  refine lv_aload_n hx hb dX3_write_39 rfl (lv_at hl 1 rfl) ?_
  refine va_get (D := G) (ci := 2) (v := .ref h1) (C := RX3) (T := TX3) (N := 4) hx hb hts iX3 hown hK hP 0 rfl rfl 2 (by decide) (hw (.fieldLink RX3 24 "MotionFloor$Ledger" "cells" "[I") (List.mem_of_getElem? (i := 2) rfl)) (fun _ h9 => h9) rfl dX3_write_40 ?_
  refine lv_iload_n hx hb dX3_write_43 rfl (lv_at hl 0 rfl) ?_
  refine lv_iload_n hx hb dX3_write_44 rfl (lv_at hl 3 rfl) ?_
  refine va_iast hx hb hK hP hD hS 1 0 rfl rfl (vp_in_iff.mpr (by decide)) dX3_write_45 (fun H locs hP hD hS => ?_)
  have hP : va_P G vwCl [(h0, .inr (2, [.int 7, .int 600, .ref h1, .int 1])), (h1, .inl (K 0, 112, .inl (upd (upd (upd (upd (upd (upd (fun _ => 0) 0 6) 1 p0) 2 0) 3 0) 4 0) 5 p0)))] _ := hP
  have hD : va_D A [(h0, .inr (2, [.int 7, .int 600, .ref h1, .int 1])), (h1, .inl (K 0, 112, .inl (upd (upd (upd (upd (upd (upd (fun _ => 0) 0 6) 1 p0) 2 0) 3 0) 4 0) 5 p0)))] := hD
  have hP9 : va_P G vwCl [(h0, .inr (2, [.int 7, .int 600, .ref h1, .int 1])), (h1, .inl (K 0, 112, .inl (upd (upd (upd (upd (upd (upd (fun _ => 0) 0 6) 1 p0) 2 0) 3 0) 4 0) 5 p0)))] _ := hP
  have hD9 : va_D A [(h0, .inr (2, [.int 7, .int 600, .ref h1, .int 1])), (h1, .inl (K 0, 112, .inl (upd (upd (upd (upd (upd (upd (fun _ => 0) 0 6) 1 p0) 2 0) 3 0) 4 0) 5 p0)))] := hD
  exact W.vret hx hb hr (fun t ht hW => ⟨⟨_, rfl, rfl, by rw [ht]; exact hP9, hD9⟩, hS.F ht⟩) hS.2.2 dX3_write_46
def e_X3_write_27 : List Cond := [.fieldLink RX3 28 "MotionFloor$Ledger" "size" "I", .fieldLink RX3 15 "MotionFloor$Ledger" "columns" "I", .fieldLink RX3 24 "MotionFloor$Ledger" "cells" "[I"]
def v_X3_write_27 : List Cond := .code yX3_write cX3_write 4 none :: (e_X3_write_27 ++ (wsX30 ++ []))
theorem te_X3_write_27 : GoodIn lw_tbl e_X3_write_27 := wGc z162 (wGc z38 (wGc z36 (wG0)))
theorem t_X3_write_27 : GoodIn lw_tbl v_X3_write_27 := wGc z194 (wGa te_X3_write_27 (wGa zcX3 (wG0)))
set_option maxHeartbeats 4000000 in
set_option maxRecDepth 100000 in
theorem m_X3_write_27 (l : Launch) (G : va_G) (K : Nat → ClassId) (h0 h1 : Nat) (p0 : Int32) (sz : Nat) (bp0 : 0 ≤ p0.toInt ∧ p0.toInt ≤ 99) : Met l yX3_write v_X3_write_27 ({ frames := 0, cells := 0, slots := 0, locals := 0 }) (va_Pc [.ref h0, .int 6, .int 0] (wS G K sz [(h0, .inr (2, [.int 7, .int 600, .ref h1, .int 1])), (h1, .inl (K 0, 112, .inl (upd (upd (upd (upd (upd (upd (fun _ => 0) 0 6) 1 p0) 2 0) 3 0) 4 0) 5 p0)))])) (va_Qv (fun u : va_W => (u = [(h0, .inr (2, [.int 7, .int 600, .ref h1, .int 1])), (h1, .inl (K 0, 112, .inl (upd (upd (upd (upd (upd (upd (upd (fun _ => 0) 0 6) 1 p0) 2 0) 3 0) 4 0) 5 p0) 6 0)))])) (wB G (va_A [(h0, .inr (2, [.int 7, .int 600, .ref h1, .int 1])), (h1, .inl (K 0, 112, .inl (upd (upd (upd (upd (upd (upd (fun _ => 0) 0 6) 1 p0) 2 0) 3 0) 4 0) 5 p0)))] sz)) (va_A [(h0, .inr (2, [.int 7, .int 600, .ref h1, .int 1])), (h1, .inl (K 0, 112, .inl (upd (upd (upd (upd (upd (upd (fun _ => 0) 0 6) 1 p0) 2 0) 3 0) 4 0) 5 p0)))] sz)) 0 0 (va_A [(h0, .inr (2, [.int 7, .int 600, .ref h1, .int 1])), (h1, .inl (K 0, 112, .inl (upd (upd (upd (upd (upd (upd (fun _ => 0) 0 6) 1 p0) 2 0) 3 0) 4 0) 5 p0)))] sz) := by
  refine Met.ofW (cc := cX3_write) (maxL := 4) (ret := none) (by decide) rfl ?_
  intro p e s m args below meth c s₁ B hml hv
  obtain ⟨rfl, hsz, hP, hK, hD0, hE⟩ := hv
  have hx := B.exec
  have hb := B.bytes
  have hr := B.returns
  have hts := atoms_spec (ws := v_X3_write_27) B.pre
  have t_ := t_X3_write_27
  have mw : ∀ w ∈ e_X3_write_27, w ∈ v_X3_write_27 := fun w h => List.mem_cons_of_mem _ (List.mem_append_left _ h)
  have hw := fun w (h : w ∈ e_X3_write_27) => hts w (mw w h)
  have iX3 : ∀ w ∈ wsX30, w ∈ v_X3_write_27 := fun w h => List.mem_cons_of_mem _ (List.mem_append_right _ (List.mem_append_left _ h))
  have hown : s.vm.findClass RX3 = some m.cls := findClass_of_methodNamed B.named
  have hlocks := B.notSynchronized
  subst hsz
  have hD := hD0.self (sz := s.heap.size)
  generalize hAe : va_A [(h0, .inr (2, [.int 7, .int 600, .ref h1, .int 1])), (h1, .inl (K 0, 112, .inl (upd (upd (upd (upd (upd (upd (fun _ => 0) 0 6) 1 p0) 2 0) 3 0) 4 0) 5 p0)))] s.heap.size = A at hD ⊢
  have hA : ∀ q : Nat, s.heap.size ≤ q → A q := fun q h => by rw [← hAe]; exact Or.inr h
  have hS : va_S A s.heap s.heap [] := va_S.rf
  have hP : va_P G vwCl [(h0, .inr (2, [.int 7, .int 600, .ref h1, .int 1])), (h1, .inl (K 0, 112, .inl (upd (upd (upd (upd (upd (upd (fun _ => 0) 0 6) 1 p0) 2 0) 3 0) 4 0) 5 p0)))] s.heap := hP
  have hl := lv_entry ([.ref h0, .int 6, .int 0]) (n := 4) (Nat.le_of_ble_eq_true rfl)
  rw [lg_entry_eq]
  generalize (lg_sl ([.ref h0, .int 6, .int 0]) ++ List.replicate (4 - (lg_sl ([.ref h0, .int 6, .int 0])).length) Slot.unset).toArray = ls at hl ⊢
  have hl : lv_has ls 4 [(0, .ref h0), (1, .int 6), (2, .int 0)] := hl
  refine lv_aload_n hx hb dX3_write_0 rfl (lv_at hl 0 rfl) ?_
  refine va_get (D := G) (ci := 2) (v := .int 1) (C := RX3) (T := TX3) (N := 4) hx hb hts iX3 hown hK hP 0 rfl rfl 3 (by decide) (hw (.fieldLink RX3 28 "MotionFloor$Ledger" "size" "I") (List.mem_of_getElem? (i := 0) rfl)) (fun _ h9 => h9) rfl dX3_write_1 ?_
  refine lv_iconst (v := 1) hx hb dX3_write_4 (by decide) ?_
  refine lv_isub hx hb dX3_write_5 ?_
  refine wTop (v1 := .int 0) (congrArg Value.int (by decide)) ?_
  refine lv_aload_n hx hb dX3_write_6 rfl (lv_at hl 0 rfl) ?_
  refine va_get (D := G) (ci := 2) (v := .int 7) (C := RX3) (T := TX3) (N := 4) hx hb hts iX3 hown hK hP 0 rfl rfl 0 (by decide) (hw (.fieldLink RX3 15 "MotionFloor$Ledger" "columns" "I") (List.mem_of_getElem? (i := 1) rfl)) (fun _ h9 => h9) rfl dX3_write_7 ?_
  refine lv_imul hx hb dX3_write_10 ?_
  refine wTop (v1 := .int 0) (congrArg Value.int (by decide)) ?_
  refine lv_iload_n hx hb dX3_write_11 rfl (lv_at hl 1 rfl) ?_
  refine lv_iadd hx hb dX3_write_12 ?_
  refine wTop (v1 := .int 6) (congrArg Value.int (by decide)) ?_
  refine lv_istore_n (lv' := [(3, .int 6), (0, .ref h0), (1, .int 6), (2, .int 0)]) hx hb dX3_write_13 rfl hl (by decide) rfl (fun ls hl => ?_)
  refine lv_iload_n hx hb dX3_write_14 rfl (lv_at hl 2 rfl) ?_
  refine lv_if_lt (tgt := 46) hx hb dX3_write_15 (by decide) (fun c_ => absurd c_ (by decide)) (fun _ => ?_)
  refine lv_iload_n hx hb dX3_write_18 rfl (lv_at hl 2 rfl) ?_
  refine lv_aload_n hx hb dX3_write_19 rfl (lv_at hl 1 rfl) ?_
  refine va_get (D := G) (ci := 2) (v := .int 7) (C := RX3) (T := TX3) (N := 4) hx hb hts iX3 hown hK hP 0 rfl rfl 0 (by decide) (hw (.fieldLink RX3 15 "MotionFloor$Ledger" "columns" "I") (List.mem_of_getElem? (i := 1) rfl)) (fun _ h9 => h9) rfl dX3_write_20 ?_
  refine lv_icmp_ge (tgt := 46) hx hb dX3_write_23 (by decide) (fun c_ => absurd c_ (by decide)) (fun _ => ?_)
  refine lv_iload_n hx hb dX3_write_26 rfl (lv_at hl 0 rfl) ?_
  refine lv_if_lt (tgt := 46) hx hb dX3_write_27 (by decide) (fun c_ => absurd c_ (by decide)) (fun _ => ?_)
  refine lv_iload_n hx hb dX3_write_30 rfl (lv_at hl 0 rfl) ?_
  refine lv_aload_n hx hb dX3_write_31 rfl (lv_at hl 1 rfl) ?_
  refine va_get (D := G) (ci := 2) (v := .ref h1) (C := RX3) (T := TX3) (N := 4) hx hb hts iX3 hown hK hP 0 rfl rfl 2 (by decide) (hw (.fieldLink RX3 24 "MotionFloor$Ledger" "cells" "[I") (List.mem_of_getElem? (i := 2) rfl)) (fun _ h9 => h9) rfl dX3_write_32 ?_
  refine va_alen (v := 112) hx hb hK hP 1 0 rfl rfl (by decide) dX3_write_35 ?_
  refine lv_icmp_ge (tgt := 46) hx hb dX3_write_36 (by decide) (fun c_ => absurd c_ (by decide)) (fun _ => ?_)
  refine lv_aload_n hx hb dX3_write_39 rfl (lv_at hl 1 rfl) ?_
  refine va_get (D := G) (ci := 2) (v := .ref h1) (C := RX3) (T := TX3) (N := 4) hx hb hts iX3 hown hK hP 0 rfl rfl 2 (by decide) (hw (.fieldLink RX3 24 "MotionFloor$Ledger" "cells" "[I") (List.mem_of_getElem? (i := 2) rfl)) (fun _ h9 => h9) rfl dX3_write_40 ?_
  refine lv_iload_n hx hb dX3_write_43 rfl (lv_at hl 0 rfl) ?_
  refine lv_iload_n hx hb dX3_write_44 rfl (lv_at hl 3 rfl) ?_
  refine va_iast hx hb hK hP hD hS 1 0 rfl rfl (vp_in_iff.mpr (by decide)) dX3_write_45 (fun H locs hP hD hS => ?_)
  have hP : va_P G vwCl [(h0, .inr (2, [.int 7, .int 600, .ref h1, .int 1])), (h1, .inl (K 0, 112, .inl (upd (upd (upd (upd (upd (upd (upd (fun _ => 0) 0 6) 1 p0) 2 0) 3 0) 4 0) 5 p0) 6 0)))] _ := hP
  have hD : va_D A [(h0, .inr (2, [.int 7, .int 600, .ref h1, .int 1])), (h1, .inl (K 0, 112, .inl (upd (upd (upd (upd (upd (upd (upd (fun _ => 0) 0 6) 1 p0) 2 0) 3 0) 4 0) 5 p0) 6 0)))] := hD
  have hP9 : va_P G vwCl [(h0, .inr (2, [.int 7, .int 600, .ref h1, .int 1])), (h1, .inl (K 0, 112, .inl (upd (upd (upd (upd (upd (upd (upd (fun _ => 0) 0 6) 1 p0) 2 0) 3 0) 4 0) 5 p0) 6 0)))] _ := hP
  have hD9 : va_D A [(h0, .inr (2, [.int 7, .int 600, .ref h1, .int 1])), (h1, .inl (K 0, 112, .inl (upd (upd (upd (upd (upd (upd (upd (fun _ => 0) 0 6) 1 p0) 2 0) 3 0) 4 0) 5 p0) 6 0)))] := hD
  exact W.vret hx hb hr (fun t ht hW => ⟨⟨_, rfl, rfl, by rw [ht]; exact hP9, hD9⟩, hS.F ht⟩) hS.2.2 dX3_write_46
def e_X0_enact_5 : List Cond := [.methodLink RX0 155 yX8_against, .static yX8_against, .initialized RX8, .fieldLink RX0 73 "MotionFloor$Assembly" "reason" "I", .methodLink RX0 161 yX1_perform, .static yX1_perform, .initialized RX1, .fieldLink RX0 41 "MotionFloor$Assembly" "minutes" "LMotionFloor$Ledger;", .methodLink RX0 166 yX3_open, .instanceMethod yX3_open, .selects RX3 yX3_open yX3_open, .initialized RX3, .methodLink RX0 169 yX3_write, .instanceMethod yX3_write, .selects RX3 yX3_write yX3_write, .fieldLink RX0 21 "MotionFloor$Assembly" "pending" "LMotionFloor$Pile;", .fieldLink RX0 96 "MotionFloor$Pile" "size" "I"]
def v_X0_enact_5 : List Cond := .code yX0_enact cX0_enact 7 (some .int) :: (e_X0_enact_5 ++ (wsX00 ++ (wsX50 ++ (v_X8_against_5 ++ (v_X1_perform_3 ++ (v_X3_open_0 ++ (v_X3_write_21 ++ (v_X3_write_22 ++ (v_X3_write_23 ++ (v_X3_write_24 ++ (v_X3_write_25 ++ (v_X3_write_26 ++ (v_X3_write_27 ++ [])))))))))))))
theorem te_X0_enact_5 : GoodIn lw_tbl e_X0_enact_5 := wGc z205 (wGc z204 (wGc z157 (wGc z135 (wGc z203 (wGc z202 (wGc z201 (wGc z86 (wGc z200 (wGc z199 (wGc z198 (wGc z89 (wGc z197 (wGc z196 (wGc z195 (wGc z98 (wGc z123 (wG0)))))))))))))))))
theorem t_X0_enact_5 : GoodIn lw_tbl v_X0_enact_5 := wGc z206 (wGa te_X0_enact_5 (wGa zcX0 (wGa zcX5 (wGa t_X8_against_5 (wGa t_X1_perform_3 (wGa t_X3_open_0 (wGa t_X3_write_21 (wGa t_X3_write_22 (wGa t_X3_write_23 (wGa t_X3_write_24 (wGa t_X3_write_25 (wGa t_X3_write_26 (wGa t_X3_write_27 (wG0))))))))))))))
set_option maxHeartbeats 4000000 in
set_option maxRecDepth 100000 in
theorem m_X0_enact_5 (l : Launch) (G : va_G) (K : Nat → ClassId) (h0 h1 h2 h3 h4 h5 h6 h7 h8 h9 h10 h11 : Nat) (p0 : Int32) (sz : Nat) : Met l yX0_enact v_X0_enact_5 ({ frames := 3, cells := 0, slots := 0, locals := 70 }) (va_Pc [.ref h0, .int 6, .int p0, .int 0, .int 0, .int 0] (wS G K sz [(h0, .inr (0, [.ref h1, .ref h2, .ref h5, .ref h6, .ref h3, .ref h7, .ref h8, .int 0, .int 0, .int 0, .null])), (h1, .inr (1, [.int 1, .ref h9, .int 0, .int (-1), .int 0, .int 0, .int (-1), .ref h10])), (h2, .inr (4, [.ref h11, .int 0])), (h3, .inr (2, [.int 7, .int 600, .ref h4, .int 0])), (h4, .inl (K 0, 112, .inl (fun _ => 0)))])) (va_Qi (fun (r : Int32) (u : va_W) => ((((p0.toInt < 0 ∨ (p0.toInt ≥ 0 ∧ p0.toInt > 99)))) ∧ r = (-9) ∧ u = [(h0, .inr (0, [.ref h1, .ref h2, .ref h5, .ref h6, .ref h3, .ref h7, .ref h8, .int 0, .int 0, .int 9, .null])), (h1, .inr (1, [.int 1, .ref h9, .int 0, .int (-1), .int 0, .int 0, .int (-1), .ref h10])), (h2, .inr (4, [.ref h11, .int 0])), (h3, .inr (2, [.int 7, .int 600, .ref h4, .int 0])), (h4, .inl (K 0, 112, .inl (fun _ => 0)))]) ∨ (((((p0.toInt ≥ 0 ∧ p0.toInt ≤ 99)))) ∧ r = p0 ∧ u = [(h0, .inr (0, [.ref h1, .ref h2, .ref h5, .ref h6, .ref h3, .ref h7, .ref h8, .int 0, .int 0, .int 0, .null])), (h1, .inr (1, [.int 1, .ref h9, .int 0, .int (-1), .int 0, .int p0, .int (-1), .ref h10])), (h2, .inr (4, [.ref h11, .int 0])), (h3, .inr (2, [.int 7, .int 600, .ref h4, .int 1])), (h4, .inl (K 0, 112, .inl (upd (upd (upd (upd (upd (upd (upd (fun _ => 0) 0 6) 1 p0) 2 0) 3 0) 4 0) 5 p0) 6 0)))])) (wB G (va_A [(h0, .inr (0, [.ref h1, .ref h2, .ref h5, .ref h6, .ref h3, .ref h7, .ref h8, .int 0, .int 0, .int 0, .null])), (h1, .inr (1, [.int 1, .ref h9, .int 0, .int (-1), .int 0, .int 0, .int (-1), .ref h10])), (h2, .inr (4, [.ref h11, .int 0])), (h3, .inr (2, [.int 7, .int 600, .ref h4, .int 0])), (h4, .inl (K 0, 112, .inl (fun _ => 0)))] sz)) (va_A [(h0, .inr (0, [.ref h1, .ref h2, .ref h5, .ref h6, .ref h3, .ref h7, .ref h8, .int 0, .int 0, .int 0, .null])), (h1, .inr (1, [.int 1, .ref h9, .int 0, .int (-1), .int 0, .int 0, .int (-1), .ref h10])), (h2, .inr (4, [.ref h11, .int 0])), (h3, .inr (2, [.int 7, .int 600, .ref h4, .int 0])), (h4, .inl (K 0, 112, .inl (fun _ => 0)))] sz)) 0 0 (va_A [(h0, .inr (0, [.ref h1, .ref h2, .ref h5, .ref h6, .ref h3, .ref h7, .ref h8, .int 0, .int 0, .int 0, .null])), (h1, .inr (1, [.int 1, .ref h9, .int 0, .int (-1), .int 0, .int 0, .int (-1), .ref h10])), (h2, .inr (4, [.ref h11, .int 0])), (h3, .inr (2, [.int 7, .int 600, .ref h4, .int 0])), (h4, .inl (K 0, 112, .inl (fun _ => 0)))] sz) := by
  refine Met.ofW (cc := cX0_enact) (maxL := 7) (ret := (some .int)) (by decide) rfl ?_
  intro p e s m args below meth c s₁ B hml hv
  obtain ⟨rfl, hsz, hP, hK, hD0, hE⟩ := hv
  have hx := B.exec
  have hb := B.bytes
  have hr := B.returns
  have hts := atoms_spec (ws := v_X0_enact_5) B.pre
  have t_ := t_X0_enact_5
  have mw : ∀ w ∈ e_X0_enact_5, w ∈ v_X0_enact_5 := fun w h => List.mem_cons_of_mem _ (List.mem_append_left _ h)
  have hw := fun w (h : w ∈ e_X0_enact_5) => hts w (mw w h)
  have iX0 : ∀ w ∈ wsX00, w ∈ v_X0_enact_5 := fun w h => List.mem_cons_of_mem _ (List.mem_append_right _ (List.mem_append_left _ h))
  have iX5 : ∀ w ∈ wsX50, w ∈ v_X0_enact_5 := fun w h => List.mem_cons_of_mem _ (List.mem_append_right _ (List.mem_append_right _ (List.mem_append_left _ h)))
  have j_X8_against_5 : ∀ w ∈ v_X8_against_5, w ∈ v_X0_enact_5 := fun w h => List.mem_cons_of_mem _ (List.mem_append_right _ (List.mem_append_right _ (List.mem_append_right _ (List.mem_append_left _ h))))
  have j_X1_perform_3 : ∀ w ∈ v_X1_perform_3, w ∈ v_X0_enact_5 := fun w h => List.mem_cons_of_mem _ (List.mem_append_right _ (List.mem_append_right _ (List.mem_append_right _ (List.mem_append_right _ (List.mem_append_left _ h)))))
  have j_X3_open_0 : ∀ w ∈ v_X3_open_0, w ∈ v_X0_enact_5 := fun w h => List.mem_cons_of_mem _ (List.mem_append_right _ (List.mem_append_right _ (List.mem_append_right _ (List.mem_append_right _ (List.mem_append_right _ (List.mem_append_left _ h))))))
  have j_X3_write_21 : ∀ w ∈ v_X3_write_21, w ∈ v_X0_enact_5 := fun w h => List.mem_cons_of_mem _ (List.mem_append_right _ (List.mem_append_right _ (List.mem_append_right _ (List.mem_append_right _ (List.mem_append_right _ (List.mem_append_right _ (List.mem_append_left _ h)))))))
  have j_X3_write_22 : ∀ w ∈ v_X3_write_22, w ∈ v_X0_enact_5 := fun w h => List.mem_cons_of_mem _ (List.mem_append_right _ (List.mem_append_right _ (List.mem_append_right _ (List.mem_append_right _ (List.mem_append_right _ (List.mem_append_right _ (List.mem_append_right _ (List.mem_append_left _ h))))))))
  have j_X3_write_23 : ∀ w ∈ v_X3_write_23, w ∈ v_X0_enact_5 := fun w h => List.mem_cons_of_mem _ (List.mem_append_right _ (List.mem_append_right _ (List.mem_append_right _ (List.mem_append_right _ (List.mem_append_right _ (List.mem_append_right _ (List.mem_append_right _ (List.mem_append_right _ (List.mem_append_left _ h)))))))))
  have j_X3_write_24 : ∀ w ∈ v_X3_write_24, w ∈ v_X0_enact_5 := fun w h => List.mem_cons_of_mem _ (List.mem_append_right _ (List.mem_append_right _ (List.mem_append_right _ (List.mem_append_right _ (List.mem_append_right _ (List.mem_append_right _ (List.mem_append_right _ (List.mem_append_right _ (List.mem_append_right _ (List.mem_append_left _ h))))))))))
  have j_X3_write_25 : ∀ w ∈ v_X3_write_25, w ∈ v_X0_enact_5 := fun w h => List.mem_cons_of_mem _ (List.mem_append_right _ (List.mem_append_right _ (List.mem_append_right _ (List.mem_append_right _ (List.mem_append_right _ (List.mem_append_right _ (List.mem_append_right _ (List.mem_append_right _ (List.mem_append_right _ (List.mem_append_right _ (List.mem_append_left _ h)))))))))))
  have j_X3_write_26 : ∀ w ∈ v_X3_write_26, w ∈ v_X0_enact_5 := fun w h => List.mem_cons_of_mem _ (List.mem_append_right _ (List.mem_append_right _ (List.mem_append_right _ (List.mem_append_right _ (List.mem_append_right _ (List.mem_append_right _ (List.mem_append_right _ (List.mem_append_right _ (List.mem_append_right _ (List.mem_append_right _ (List.mem_append_right _ (List.mem_append_left _ h))))))))))))
  have j_X3_write_27 : ∀ w ∈ v_X3_write_27, w ∈ v_X0_enact_5 := fun w h => List.mem_cons_of_mem _ (List.mem_append_right _ (List.mem_append_right _ (List.mem_append_right _ (List.mem_append_right _ (List.mem_append_right _ (List.mem_append_right _ (List.mem_append_right _ (List.mem_append_right _ (List.mem_append_right _ (List.mem_append_right _ (List.mem_append_right _ (List.mem_append_right _ (List.mem_append_left _ h)))))))))))))
  have hown : s.vm.findClass RX0 = some m.cls := findClass_of_methodNamed B.named
  have hlocks := B.notSynchronized
  subst hsz
  have hD := hD0.self (sz := s.heap.size)
  generalize hAe : va_A [(h0, .inr (0, [.ref h1, .ref h2, .ref h5, .ref h6, .ref h3, .ref h7, .ref h8, .int 0, .int 0, .int 0, .null])), (h1, .inr (1, [.int 1, .ref h9, .int 0, .int (-1), .int 0, .int 0, .int (-1), .ref h10])), (h2, .inr (4, [.ref h11, .int 0])), (h3, .inr (2, [.int 7, .int 600, .ref h4, .int 0])), (h4, .inl (K 0, 112, .inl (fun _ => 0)))] s.heap.size = A at hD ⊢
  have hA : ∀ q : Nat, s.heap.size ≤ q → A q := fun q h => by rw [← hAe]; exact Or.inr h
  have hS : va_S A s.heap s.heap [] := va_S.rf
  have hP : va_P G vwCl [(h0, .inr (0, [.ref h1, .ref h2, .ref h5, .ref h6, .ref h3, .ref h7, .ref h8, .int 0, .int 0, .int 0, .null])), (h1, .inr (1, [.int 1, .ref h9, .int 0, .int (-1), .int 0, .int 0, .int (-1), .ref h10])), (h2, .inr (4, [.ref h11, .int 0])), (h3, .inr (2, [.int 7, .int 600, .ref h4, .int 0])), (h4, .inl (K 0, 112, .inl (fun _ => 0)))] s.heap := hP
  have hl := lv_entry ([.ref h0, .int 6, .int p0, .int 0, .int 0, .int 0]) (n := 7) (Nat.le_of_ble_eq_true rfl)
  rw [lg_entry_eq]
  generalize (lg_sl ([.ref h0, .int 6, .int p0, .int 0, .int 0, .int 0]) ++ List.replicate (7 - (lg_sl ([.ref h0, .int 6, .int p0, .int 0, .int 0, .int 0])).length) Slot.unset).toArray = ls at hl ⊢
  have hl : lv_has ls 7 [(0, .ref h0), (1, .int 6), (2, .int p0), (3, .int 0), (4, .int 0), (5, .int 0)] := hl
  refine lv_aload_n hx hb dX0_enact_0 rfl (lv_at hl 0 rfl) ?_
  refine lv_aload_n hx hb dX0_enact_1 rfl (lv_at hl 0 rfl) ?_
  refine lv_iload_n hx hb dX0_enact_2 rfl (lv_at hl 1 rfl) ?_
  refine lv_iload_n hx hb dX0_enact_3 rfl (lv_at hl 2 rfl) ?_
  refine lv_iload_n hx hb dX0_enact_4 rfl (lv_at hl 3 rfl) ?_
  refine lv_iload hx hb dX0_enact_5 (lv_at hl 4 rfl) ?_
  refine lv_iload hx hb dX0_enact_7 (lv_at hl 5 rfl) ?_
  have hPc := hP.sub (ws' := [(h0, .inr (0, [.ref h1, .ref h2, .ref h5, .ref h6, .ref h3, .ref h7, .ref h8, .int 0, .int 0, .int 0, .null])), (h2, .inr (4, [.ref h11, .int 0])), (h3, .inr (2, [.int 7, .int 600, .ref h4, .int 0]))]) [0, 2, 3] rfl
  have hDc := hD.sub (ws' := [(h0, .inr (0, [.ref h1, .ref h2, .ref h5, .ref h6, .ref h3, .ref h7, .ref h8, .int 0, .int 0, .int 0, .null])), (h2, .inr (4, [.ref h11, .int 0])), (h3, .inr (2, [.int 7, .int 600, .ref h4, .int 0]))]) [0, 2, 3] (by decide) rfl
  refine wGoi (wc := [(h0, .inr (0, [.ref h1, .ref h2, .ref h5, .ref h6, .ref h3, .ref h7, .ref h8, .int 0, .int 0, .int 0, .null])), (h2, .inr (4, [.ref h11, .int 0])), (h3, .inr (2, [.int 7, .int 600, .ref h4, .int 0]))]) (wr := [(h1, .inr (1, [.int 1, .ref h9, .int 0, .int (-1), .int 0, .int 0, .int (-1), .ref h10])), (h4, .inl (K 0, 112, .inl (fun _ => 0)))]) (va_runS (As := [.ref h0, .int 6, .int p0, .int 0, .int 0, .int 0]) (rest := [.ref h0]) ⟨hx, hb, hml, hown, hts⟩ (m_X8_against_5 l G K h0 h2 h3 h1 h5 h6 h7 h8 h11 h4 p0 _) (va_cwS 6 hts (wGS t_ (mw (.methodLink RX0 155 yX8_against) (List.mem_of_getElem? (i := 0) rfl)) (mw (.static yX8_against) (List.mem_of_getElem? (i := 1) rfl)) (mw (.initialized RX8) (List.mem_of_getElem? (i := 2) rfl)) j_X8_against_5) rfl rfl rfl (by decide +kernel) ⟨Nat.le_of_ble_eq_true rfl, Nat.le_of_ble_eq_true rfl⟩) (wPS hK hE hPc hDc) rfl rfl hl.1 rfl (lv_room (Nat.le_of_ble_eq_true rfl)) dX0_enact_9 ⟨Nat.le_of_ble_eq_true rfl, Nat.le_of_ble_eq_true rfl⟩) hP hD hS hA [0, 2, 3] [1, 4] rfl rfl rfl (by decide) (fun r u H locs hw hP hD hS => ?_)
  rcases hw with ⟨c_w, rfl, rfl⟩ | ⟨c_w, rfl, rfl⟩
  · have c1 := c_w
    have hP : va_P G vwCl [(h1, .inr (1, [.int 1, .ref h9, .int 0, .int (-1), .int 0, .int 0, .int (-1), .ref h10])), (h4, .inl (K 0, 112, .inl (fun _ => 0))), (h0, .inr (0, [.ref h1, .ref h2, .ref h5, .ref h6, .ref h3, .ref h7, .ref h8, .int 0, .int 0, .int 0, .null])), (h2, .inr (4, [.ref h11, .int 0])), (h3, .inr (2, [.int 7, .int 600, .ref h4, .int 0]))] _ := hP
    have hD : va_D A [(h1, .inr (1, [.int 1, .ref h9, .int 0, .int (-1), .int 0, .int 0, .int (-1), .ref h10])), (h4, .inl (K 0, 112, .inl (fun _ => 0))), (h0, .inr (0, [.ref h1, .ref h2, .ref h5, .ref h6, .ref h3, .ref h7, .ref h8, .int 0, .int 0, .int 0, .null])), (h2, .inr (4, [.ref h11, .int 0])), (h3, .inr (2, [.int 7, .int 600, .ref h4, .int 0]))] := hD
    refine va_put (D := G) (ci := 0) (v := .int 9) (ty := .int) (C := RX0) (T := TX0) (N := 11) hx hb hts iX0 tyX0 tyX0_ok nmX0 hown hK hP hD hS 2 rfl rfl 9 (by decide) (hw (.fieldLink RX0 73 "MotionFloor$Assembly" "reason" "I") (List.mem_of_getElem? (i := 3) rfl)) (fun _ h9 => h9) rfl (by decide +kernel) rfl rfl (Nat.le_of_ble_eq_true rfl) dX0_enact_12 (fun H locs hP hD hS => ?_)
    have hP : va_P G vwCl [(h1, .inr (1, [.int 1, .ref h9, .int 0, .int (-1), .int 0, .int 0, .int (-1), .ref h10])), (h4, .inl (K 0, 112, .inl (fun _ => 0))), (h0, .inr (0, [.ref h1, .ref h2, .ref h5, .ref h6, .ref h3, .ref h7, .ref h8, .int 0, .int 0, .int 9, .null])), (h2, .inr (4, [.ref h11, .int 0])), (h3, .inr (2, [.int 7, .int 600, .ref h4, .int 0]))] _ := hP
    have hD : va_D A [(h1, .inr (1, [.int 1, .ref h9, .int 0, .int (-1), .int 0, .int 0, .int (-1), .ref h10])), (h4, .inl (K 0, 112, .inl (fun _ => 0))), (h0, .inr (0, [.ref h1, .ref h2, .ref h5, .ref h6, .ref h3, .ref h7, .ref h8, .int 0, .int 0, .int 9, .null])), (h2, .inr (4, [.ref h11, .int 0])), (h3, .inr (2, [.int 7, .int 600, .ref h4, .int 0]))] := hD
    refine lv_aload_n hx hb dX0_enact_15 rfl (lv_at hl 0 rfl) ?_
    refine va_get (D := G) (ci := 0) (v := .int 9) (C := RX0) (T := TX0) (N := 11) hx hb hts iX0 hown hK hP 2 rfl rfl 9 (by decide) (hw (.fieldLink RX0 73 "MotionFloor$Assembly" "reason" "I") (List.mem_of_getElem? (i := 3) rfl)) (fun _ h9 => h9) rfl dX0_enact_16 ?_
    refine lv_if_eq (tgt := 28) hx hb dX0_enact_19 (by decide) (fun c_ => absurd c_ (by decide)) (fun _ => ?_)
    refine lv_aload_n hx hb dX0_enact_22 rfl (lv_at hl 0 rfl) ?_
    refine va_get (D := G) (ci := 0) (v := .int 9) (C := RX0) (T := TX0) (N := 11) hx hb hts iX0 hown hK hP 2 rfl rfl 9 (by decide) (hw (.fieldLink RX0 73 "MotionFloor$Assembly" "reason" "I") (List.mem_of_getElem? (i := 3) rfl)) (fun _ h9 => h9) rfl dX0_enact_23 ?_
    refine lv_ineg hx hb dX0_enact_26 ?_
    refine wTop (v1 := .int (-9)) (congrArg Value.int (by decide)) ?_
    have hP9 := hP.sub (ws' := [(h0, .inr (0, [.ref h1, .ref h2, .ref h5, .ref h6, .ref h3, .ref h7, .ref h8, .int 0, .int 0, .int 9, .null])), (h1, .inr (1, [.int 1, .ref h9, .int 0, .int (-1), .int 0, .int 0, .int (-1), .ref h10])), (h2, .inr (4, [.ref h11, .int 0])), (h3, .inr (2, [.int 7, .int 600, .ref h4, .int 0])), (h4, .inl (K 0, 112, .inl (fun _ => 0)))]) [2, 0, 3, 4, 1] rfl
    have hD9 := hD.sub (ws' := [(h0, .inr (0, [.ref h1, .ref h2, .ref h5, .ref h6, .ref h3, .ref h7, .ref h8, .int 0, .int 0, .int 9, .null])), (h1, .inr (1, [.int 1, .ref h9, .int 0, .int (-1), .int 0, .int 0, .int (-1), .ref h10])), (h2, .inr (4, [.ref h11, .int 0])), (h3, .inr (2, [.int 7, .int 600, .ref h4, .int 0])), (h4, .inl (K 0, 112, .inl (fun _ => 0)))]) [2, 0, 3, 4, 1] (by decide) rfl
    exact W.iret (v := (-9)) hx hb hr (fun t ht hW => ⟨⟨(-9), _, rfl, Or.inl ⟨(by first | omega | decide | simp), rfl, rfl⟩, by rw [ht]; exact hP9, hD9⟩, hS.F ht⟩) hS.2.2 dX0_enact_27
  · have c2 := c_w
    have hP : va_P G vwCl [(h1, .inr (1, [.int 1, .ref h9, .int 0, .int (-1), .int 0, .int 0, .int (-1), .ref h10])), (h4, .inl (K 0, 112, .inl (fun _ => 0))), (h0, .inr (0, [.ref h1, .ref h2, .ref h5, .ref h6, .ref h3, .ref h7, .ref h8, .int 0, .int 0, .int 0, .null])), (h2, .inr (4, [.ref h11, .int 0])), (h3, .inr (2, [.int 7, .int 600, .ref h4, .int 0]))] _ := hP
    have hD : va_D A [(h1, .inr (1, [.int 1, .ref h9, .int 0, .int (-1), .int 0, .int 0, .int (-1), .ref h10])), (h4, .inl (K 0, 112, .inl (fun _ => 0))), (h0, .inr (0, [.ref h1, .ref h2, .ref h5, .ref h6, .ref h3, .ref h7, .ref h8, .int 0, .int 0, .int 0, .null])), (h2, .inr (4, [.ref h11, .int 0])), (h3, .inr (2, [.int 7, .int 600, .ref h4, .int 0]))] := hD
    refine va_put (D := G) (ci := 0) (v := .int 0) (ty := .int) (C := RX0) (T := TX0) (N := 11) hx hb hts iX0 tyX0 tyX0_ok nmX0 hown hK hP hD hS 2 rfl rfl 9 (by decide) (hw (.fieldLink RX0 73 "MotionFloor$Assembly" "reason" "I") (List.mem_of_getElem? (i := 3) rfl)) (fun _ h9 => h9) rfl (by decide +kernel) rfl rfl (Nat.le_of_ble_eq_true rfl) dX0_enact_12 (fun H locs hP hD hS => ?_)
    have hP : va_P G vwCl [(h1, .inr (1, [.int 1, .ref h9, .int 0, .int (-1), .int 0, .int 0, .int (-1), .ref h10])), (h4, .inl (K 0, 112, .inl (fun _ => 0))), (h0, .inr (0, [.ref h1, .ref h2, .ref h5, .ref h6, .ref h3, .ref h7, .ref h8, .int 0, .int 0, .int 0, .null])), (h2, .inr (4, [.ref h11, .int 0])), (h3, .inr (2, [.int 7, .int 600, .ref h4, .int 0]))] _ := hP
    have hD : va_D A [(h1, .inr (1, [.int 1, .ref h9, .int 0, .int (-1), .int 0, .int 0, .int (-1), .ref h10])), (h4, .inl (K 0, 112, .inl (fun _ => 0))), (h0, .inr (0, [.ref h1, .ref h2, .ref h5, .ref h6, .ref h3, .ref h7, .ref h8, .int 0, .int 0, .int 0, .null])), (h2, .inr (4, [.ref h11, .int 0])), (h3, .inr (2, [.int 7, .int 600, .ref h4, .int 0]))] := hD
    refine lv_aload_n hx hb dX0_enact_15 rfl (lv_at hl 0 rfl) ?_
    refine va_get (D := G) (ci := 0) (v := .int 0) (C := RX0) (T := TX0) (N := 11) hx hb hts iX0 hown hK hP 2 rfl rfl 9 (by decide) (hw (.fieldLink RX0 73 "MotionFloor$Assembly" "reason" "I") (List.mem_of_getElem? (i := 3) rfl)) (fun _ h9 => h9) rfl dX0_enact_16 ?_
    refine lv_if_eq (tgt := 28) hx hb dX0_enact_19 (by decide) (fun _ => ?_) (fun c_ => absurd c_ (by decide))
    refine lv_aload_n hx hb dX0_enact_28 rfl (lv_at hl 0 rfl) ?_
    refine lv_iload_n hx hb dX0_enact_29 rfl (lv_at hl 1 rfl) ?_
    refine lv_iload_n hx hb dX0_enact_30 rfl (lv_at hl 2 rfl) ?_
    refine lv_iload_n hx hb dX0_enact_31 rfl (lv_at hl 3 rfl) ?_
    refine lv_iload hx hb dX0_enact_32 (lv_at hl 4 rfl) ?_
    refine lv_iload hx hb dX0_enact_34 (lv_at hl 5 rfl) ?_
    have hPc := hP.sub (ws' := [(h0, .inr (0, [.ref h1, .ref h2, .ref h5, .ref h6, .ref h3, .ref h7, .ref h8, .int 0, .int 0, .int 0, .null])), (h1, .inr (1, [.int 1, .ref h9, .int 0, .int (-1), .int 0, .int 0, .int (-1), .ref h10])), (h2, .inr (4, [.ref h11, .int 0]))]) [2, 0, 3] rfl
    have hDc := hD.sub (ws' := [(h0, .inr (0, [.ref h1, .ref h2, .ref h5, .ref h6, .ref h3, .ref h7, .ref h8, .int 0, .int 0, .int 0, .null])), (h1, .inr (1, [.int 1, .ref h9, .int 0, .int (-1), .int 0, .int 0, .int (-1), .ref h10])), (h2, .inr (4, [.ref h11, .int 0]))]) [2, 0, 3] (by decide) rfl
    refine wGoi (wc := [(h0, .inr (0, [.ref h1, .ref h2, .ref h5, .ref h6, .ref h3, .ref h7, .ref h8, .int 0, .int 0, .int 0, .null])), (h1, .inr (1, [.int 1, .ref h9, .int 0, .int (-1), .int 0, .int 0, .int (-1), .ref h10])), (h2, .inr (4, [.ref h11, .int 0]))]) (wr := [(h4, .inl (K 0, 112, .inl (fun _ => 0))), (h3, .inr (2, [.int 7, .int 600, .ref h4, .int 0]))]) (va_runS (As := [.ref h0, .int 6, .int p0, .int 0, .int 0, .int 0]) (rest := []) ⟨hx, hb, hml, hown, hts⟩ (m_X1_perform_3 l G K h0 h1 h2 h5 h6 h3 h7 h8 h9 h10 h11 p0 _ (by omega)) (va_cwS 6 hts (wGS t_ (mw (.methodLink RX0 161 yX1_perform) (List.mem_of_getElem? (i := 4) rfl)) (mw (.static yX1_perform) (List.mem_of_getElem? (i := 5) rfl)) (mw (.initialized RX1) (List.mem_of_getElem? (i := 6) rfl)) j_X1_perform_3) rfl rfl rfl (by decide +kernel) ⟨Nat.le_of_ble_eq_true rfl, Nat.le_of_ble_eq_true rfl⟩) (wPS hK hE hPc hDc) rfl rfl hl.1 rfl (lv_room (Nat.le_of_ble_eq_true rfl)) dX0_enact_36 ⟨Nat.le_of_ble_eq_true rfl, Nat.le_of_ble_eq_true rfl⟩) hP hD hS hA [2, 0, 3] [1, 4] rfl rfl rfl (by decide) (fun r u H locs hw hP hD hS => ?_)
    rcases hw with ⟨rfl, rfl⟩
    have hP : va_P G vwCl [(h4, .inl (K 0, 112, .inl (fun _ => 0))), (h3, .inr (2, [.int 7, .int 600, .ref h4, .int 0])), (h0, .inr (0, [.ref h1, .ref h2, .ref h5, .ref h6, .ref h3, .ref h7, .ref h8, .int 0, .int 0, .int 0, .null])), (h1, .inr (1, [.int 1, .ref h9, .int 0, .int (-1), .int 0, .int p0, .int (-1), .ref h10])), (h2, .inr (4, [.ref h11, .int 0]))] _ := hP
    have hD : va_D A [(h4, .inl (K 0, 112, .inl (fun _ => 0))), (h3, .inr (2, [.int 7, .int 600, .ref h4, .int 0])), (h0, .inr (0, [.ref h1, .ref h2, .ref h5, .ref h6, .ref h3, .ref h7, .ref h8, .int 0, .int 0, .int 0, .null])), (h1, .inr (1, [.int 1, .ref h9, .int 0, .int (-1), .int 0, .int p0, .int (-1), .ref h10])), (h2, .inr (4, [.ref h11, .int 0]))] := hD
    refine lv_istore (lv' := [(6, .int p0), (0, .ref h0), (1, .int 6), (2, .int p0), (3, .int 0), (4, .int 0), (5, .int 0)]) hx hb dX0_enact_39 hl (by decide) rfl (fun ls hl => ?_)
    refine lv_aload_n hx hb dX0_enact_41 rfl (lv_at hl 1 rfl) ?_
    refine va_get (D := G) (ci := 0) (v := .ref h3) (C := RX0) (T := TX0) (N := 11) hx hb hts iX0 hown hK hP 2 rfl rfl 4 (by decide) (hw (.fieldLink RX0 41 "MotionFloor$Assembly" "minutes" "LMotionFloor$Ledger;") (List.mem_of_getElem? (i := 7) rfl)) (fun _ h9 => h9) rfl dX0_enact_42 ?_
    have hPc := hP.sub (ws' := [(h3, .inr (2, [.int 7, .int 600, .ref h4, .int 0])), (h4, .inl (K 0, 112, .inl (fun _ => 0)))]) [1, 0] rfl
    have hDc := hD.sub (ws' := [(h3, .inr (2, [.int 7, .int 600, .ref h4, .int 0])), (h4, .inl (K 0, 112, .inl (fun _ => 0)))]) [1, 0] (by decide) rfl
    refine wGov (wc := [(h3, .inr (2, [.int 7, .int 600, .ref h4, .int 0])), (h4, .inl (K 0, 112, .inl (fun _ => 0)))]) (wr := [(h0, .inr (0, [.ref h1, .ref h2, .ref h5, .ref h6, .ref h3, .ref h7, .ref h8, .int 0, .int 0, .int 0, .null])), (h1, .inr (1, [.int 1, .ref h9, .int 0, .int (-1), .int 0, .int p0, .int (-1), .ref h10])), (h2, .inr (4, [.ref h11, .int 0]))]) (va_runV (As := []) (rest := []) ⟨hx, hb, hml, hown, hts⟩ (m_X3_open_0 l G K h3 h4 _) (cwV 0 hts (wGV t_ (mw (.methodLink RX0 166 yX3_open) (List.mem_of_getElem? (i := 8) rfl)) (mw (.instanceMethod yX3_open) (List.mem_of_getElem? (i := 9) rfl)) (mw (.selects RX3 yX3_open yX3_open) (List.mem_of_getElem? (i := 10) rfl)) (mw (.initialized RX3) (List.mem_of_getElem? (i := 11) rfl)) j_X3_open_0) rfl rfl rfl (by decide +kernel) ⟨Nat.le_of_ble_eq_true rfl, Nat.le_of_ble_eq_true rfl⟩) (wPV hK hE hPc hDc 2 0 rfl rfl) rfl rfl hl.1 rfl (lv_room (Nat.le_of_ble_eq_true rfl)) dX0_enact_45 ⟨Nat.le_of_ble_eq_true rfl, Nat.le_of_ble_eq_true rfl⟩) hP hD hS hA [1, 0] [2, 3, 4] rfl rfl rfl (by decide) (fun u H locs hw hP hD hS => ?_)
    subst hw
    have hP : va_P G vwCl [(h0, .inr (0, [.ref h1, .ref h2, .ref h5, .ref h6, .ref h3, .ref h7, .ref h8, .int 0, .int 0, .int 0, .null])), (h1, .inr (1, [.int 1, .ref h9, .int 0, .int (-1), .int 0, .int p0, .int (-1), .ref h10])), (h2, .inr (4, [.ref h11, .int 0])), (h3, .inr (2, [.int 7, .int 600, .ref h4, .int 1])), (h4, .inl (K 0, 112, .inl (fun _ => 0)))] _ := hP
    have hD : va_D A [(h0, .inr (0, [.ref h1, .ref h2, .ref h5, .ref h6, .ref h3, .ref h7, .ref h8, .int 0, .int 0, .int 0, .null])), (h1, .inr (1, [.int 1, .ref h9, .int 0, .int (-1), .int 0, .int p0, .int (-1), .ref h10])), (h2, .inr (4, [.ref h11, .int 0])), (h3, .inr (2, [.int 7, .int 600, .ref h4, .int 1])), (h4, .inl (K 0, 112, .inl (fun _ => 0)))] := hD
    refine lv_aload_n hx hb dX0_enact_48 rfl (lv_at hl 1 rfl) ?_
    refine va_get (D := G) (ci := 0) (v := .ref h3) (C := RX0) (T := TX0) (N := 11) hx hb hts iX0 hown hK hP 0 rfl rfl 4 (by decide) (hw (.fieldLink RX0 41 "MotionFloor$Assembly" "minutes" "LMotionFloor$Ledger;") (List.mem_of_getElem? (i := 7) rfl)) (fun _ h9 => h9) rfl dX0_enact_49 ?_
    refine lv_iconst (v := 0) hx hb dX0_enact_52 (by decide) ?_
    refine lv_iload_n hx hb dX0_enact_53 rfl (lv_at hl 2 rfl) ?_
    have hPc := hP.sub (ws' := [(h3, .inr (2, [.int 7, .int 600, .ref h4, .int 1])), (h4, .inl (K 0, 112, .inl (fun _ => 0)))]) [3, 4] rfl
    have hDc := hD.sub (ws' := [(h3, .inr (2, [.int 7, .int 600, .ref h4, .int 1])), (h4, .inl (K 0, 112, .inl (fun _ => 0)))]) [3, 4] (by decide) rfl
    refine wGov (wc := [(h3, .inr (2, [.int 7, .int 600, .ref h4, .int 1])), (h4, .inl (K 0, 112, .inl (fun _ => 0)))]) (wr := [(h0, .inr (0, [.ref h1, .ref h2, .ref h5, .ref h6, .ref h3, .ref h7, .ref h8, .int 0, .int 0, .int 0, .null])), (h1, .inr (1, [.int 1, .ref h9, .int 0, .int (-1), .int 0, .int p0, .int (-1), .ref h10])), (h2, .inr (4, [.ref h11, .int 0]))]) (va_runV (As := [.int 0, .int 6]) (rest := []) ⟨hx, hb, hml, hown, hts⟩ (m_X3_write_21 l G K h3 h4 _) (cwV 2 hts (wGV t_ (mw (.methodLink RX0 169 yX3_write) (List.mem_of_getElem? (i := 12) rfl)) (mw (.instanceMethod yX3_write) (List.mem_of_getElem? (i := 13) rfl)) (mw (.selects RX3 yX3_write yX3_write) (List.mem_of_getElem? (i := 14) rfl)) (mw (.initialized RX3) (List.mem_of_getElem? (i := 11) rfl)) j_X3_write_21) rfl rfl rfl (by decide +kernel) ⟨Nat.le_of_ble_eq_true rfl, Nat.le_of_ble_eq_true rfl⟩) (wPV hK hE hPc hDc 2 0 rfl rfl) rfl rfl hl.1 rfl (lv_room (Nat.le_of_ble_eq_true rfl)) dX0_enact_54 ⟨Nat.le_of_ble_eq_true rfl, Nat.le_of_ble_eq_true rfl⟩) hP hD hS hA [3, 4] [0, 1, 2] rfl rfl rfl (by decide) (fun u H locs hw hP hD hS => ?_)
    subst hw
    have hP : va_P G vwCl [(h0, .inr (0, [.ref h1, .ref h2, .ref h5, .ref h6, .ref h3, .ref h7, .ref h8, .int 0, .int 0, .int 0, .null])), (h1, .inr (1, [.int 1, .ref h9, .int 0, .int (-1), .int 0, .int p0, .int (-1), .ref h10])), (h2, .inr (4, [.ref h11, .int 0])), (h3, .inr (2, [.int 7, .int 600, .ref h4, .int 1])), (h4, .inl (K 0, 112, .inl (upd (fun _ => 0) 0 6)))] _ := hP
    have hD : va_D A [(h0, .inr (0, [.ref h1, .ref h2, .ref h5, .ref h6, .ref h3, .ref h7, .ref h8, .int 0, .int 0, .int 0, .null])), (h1, .inr (1, [.int 1, .ref h9, .int 0, .int (-1), .int 0, .int p0, .int (-1), .ref h10])), (h2, .inr (4, [.ref h11, .int 0])), (h3, .inr (2, [.int 7, .int 600, .ref h4, .int 1])), (h4, .inl (K 0, 112, .inl (upd (fun _ => 0) 0 6)))] := hD
    refine lv_aload_n hx hb dX0_enact_57 rfl (lv_at hl 1 rfl) ?_
    refine va_get (D := G) (ci := 0) (v := .ref h3) (C := RX0) (T := TX0) (N := 11) hx hb hts iX0 hown hK hP 0 rfl rfl 4 (by decide) (hw (.fieldLink RX0 41 "MotionFloor$Assembly" "minutes" "LMotionFloor$Ledger;") (List.mem_of_getElem? (i := 7) rfl)) (fun _ h9 => h9) rfl dX0_enact_58 ?_
    refine lv_iconst (v := 1) hx hb dX0_enact_61 (by decide) ?_
    refine lv_iload_n hx hb dX0_enact_62 rfl (lv_at hl 3 rfl) ?_
    have hPc := hP.sub (ws' := [(h3, .inr (2, [.int 7, .int 600, .ref h4, .int 1])), (h4, .inl (K 0, 112, .inl (upd (fun _ => 0) 0 6)))]) [3, 4] rfl
    have hDc := hD.sub (ws' := [(h3, .inr (2, [.int 7, .int 600, .ref h4, .int 1])), (h4, .inl (K 0, 112, .inl (upd (fun _ => 0) 0 6)))]) [3, 4] (by decide) rfl
    refine wGov (wc := [(h3, .inr (2, [.int 7, .int 600, .ref h4, .int 1])), (h4, .inl (K 0, 112, .inl (upd (fun _ => 0) 0 6)))]) (wr := [(h0, .inr (0, [.ref h1, .ref h2, .ref h5, .ref h6, .ref h3, .ref h7, .ref h8, .int 0, .int 0, .int 0, .null])), (h1, .inr (1, [.int 1, .ref h9, .int 0, .int (-1), .int 0, .int p0, .int (-1), .ref h10])), (h2, .inr (4, [.ref h11, .int 0]))]) (va_runV (As := [.int 1, .int p0]) (rest := []) ⟨hx, hb, hml, hown, hts⟩ (m_X3_write_22 l G K h3 h4 p0 _ (by omega)) (cwV 2 hts (wGV t_ (mw (.methodLink RX0 169 yX3_write) (List.mem_of_getElem? (i := 12) rfl)) (mw (.instanceMethod yX3_write) (List.mem_of_getElem? (i := 13) rfl)) (mw (.selects RX3 yX3_write yX3_write) (List.mem_of_getElem? (i := 14) rfl)) (mw (.initialized RX3) (List.mem_of_getElem? (i := 11) rfl)) j_X3_write_22) rfl rfl rfl (by decide +kernel) ⟨Nat.le_of_ble_eq_true rfl, Nat.le_of_ble_eq_true rfl⟩) (wPV hK hE hPc hDc 2 0 rfl rfl) rfl rfl hl.1 rfl (lv_room (Nat.le_of_ble_eq_true rfl)) dX0_enact_63 ⟨Nat.le_of_ble_eq_true rfl, Nat.le_of_ble_eq_true rfl⟩) hP hD hS hA [3, 4] [0, 1, 2] rfl rfl rfl (by decide) (fun u H locs hw hP hD hS => ?_)
    subst hw
    have hP : va_P G vwCl [(h0, .inr (0, [.ref h1, .ref h2, .ref h5, .ref h6, .ref h3, .ref h7, .ref h8, .int 0, .int 0, .int 0, .null])), (h1, .inr (1, [.int 1, .ref h9, .int 0, .int (-1), .int 0, .int p0, .int (-1), .ref h10])), (h2, .inr (4, [.ref h11, .int 0])), (h3, .inr (2, [.int 7, .int 600, .ref h4, .int 1])), (h4, .inl (K 0, 112, .inl (upd (upd (fun _ => 0) 0 6) 1 p0)))] _ := hP
    have hD : va_D A [(h0, .inr (0, [.ref h1, .ref h2, .ref h5, .ref h6, .ref h3, .ref h7, .ref h8, .int 0, .int 0, .int 0, .null])), (h1, .inr (1, [.int 1, .ref h9, .int 0, .int (-1), .int 0, .int p0, .int (-1), .ref h10])), (h2, .inr (4, [.ref h11, .int 0])), (h3, .inr (2, [.int 7, .int 600, .ref h4, .int 1])), (h4, .inl (K 0, 112, .inl (upd (upd (fun _ => 0) 0 6) 1 p0)))] := hD
    refine lv_aload_n hx hb dX0_enact_66 rfl (lv_at hl 1 rfl) ?_
    refine va_get (D := G) (ci := 0) (v := .ref h3) (C := RX0) (T := TX0) (N := 11) hx hb hts iX0 hown hK hP 0 rfl rfl 4 (by decide) (hw (.fieldLink RX0 41 "MotionFloor$Assembly" "minutes" "LMotionFloor$Ledger;") (List.mem_of_getElem? (i := 7) rfl)) (fun _ h9 => h9) rfl dX0_enact_67 ?_
    refine lv_iconst (v := 2) hx hb dX0_enact_70 (by decide) ?_
    refine lv_iload_n hx hb dX0_enact_71 rfl (lv_at hl 4 rfl) ?_
    have hPc := hP.sub (ws' := [(h3, .inr (2, [.int 7, .int 600, .ref h4, .int 1])), (h4, .inl (K 0, 112, .inl (upd (upd (fun _ => 0) 0 6) 1 p0)))]) [3, 4] rfl
    have hDc := hD.sub (ws' := [(h3, .inr (2, [.int 7, .int 600, .ref h4, .int 1])), (h4, .inl (K 0, 112, .inl (upd (upd (fun _ => 0) 0 6) 1 p0)))]) [3, 4] (by decide) rfl
    refine wGov (wc := [(h3, .inr (2, [.int 7, .int 600, .ref h4, .int 1])), (h4, .inl (K 0, 112, .inl (upd (upd (fun _ => 0) 0 6) 1 p0)))]) (wr := [(h0, .inr (0, [.ref h1, .ref h2, .ref h5, .ref h6, .ref h3, .ref h7, .ref h8, .int 0, .int 0, .int 0, .null])), (h1, .inr (1, [.int 1, .ref h9, .int 0, .int (-1), .int 0, .int p0, .int (-1), .ref h10])), (h2, .inr (4, [.ref h11, .int 0]))]) (va_runV (As := [.int 2, .int 0]) (rest := []) ⟨hx, hb, hml, hown, hts⟩ (m_X3_write_23 l G K h3 h4 p0 _ (by omega)) (cwV 2 hts (wGV t_ (mw (.methodLink RX0 169 yX3_write) (List.mem_of_getElem? (i := 12) rfl)) (mw (.instanceMethod yX3_write) (List.mem_of_getElem? (i := 13) rfl)) (mw (.selects RX3 yX3_write yX3_write) (List.mem_of_getElem? (i := 14) rfl)) (mw (.initialized RX3) (List.mem_of_getElem? (i := 11) rfl)) j_X3_write_23) rfl rfl rfl (by decide +kernel) ⟨Nat.le_of_ble_eq_true rfl, Nat.le_of_ble_eq_true rfl⟩) (wPV hK hE hPc hDc 2 0 rfl rfl) rfl rfl hl.1 rfl (lv_room (Nat.le_of_ble_eq_true rfl)) dX0_enact_72 ⟨Nat.le_of_ble_eq_true rfl, Nat.le_of_ble_eq_true rfl⟩) hP hD hS hA [3, 4] [0, 1, 2] rfl rfl rfl (by decide) (fun u H locs hw hP hD hS => ?_)
    subst hw
    have hP : va_P G vwCl [(h0, .inr (0, [.ref h1, .ref h2, .ref h5, .ref h6, .ref h3, .ref h7, .ref h8, .int 0, .int 0, .int 0, .null])), (h1, .inr (1, [.int 1, .ref h9, .int 0, .int (-1), .int 0, .int p0, .int (-1), .ref h10])), (h2, .inr (4, [.ref h11, .int 0])), (h3, .inr (2, [.int 7, .int 600, .ref h4, .int 1])), (h4, .inl (K 0, 112, .inl (upd (upd (upd (fun _ => 0) 0 6) 1 p0) 2 0)))] _ := hP
    have hD : va_D A [(h0, .inr (0, [.ref h1, .ref h2, .ref h5, .ref h6, .ref h3, .ref h7, .ref h8, .int 0, .int 0, .int 0, .null])), (h1, .inr (1, [.int 1, .ref h9, .int 0, .int (-1), .int 0, .int p0, .int (-1), .ref h10])), (h2, .inr (4, [.ref h11, .int 0])), (h3, .inr (2, [.int 7, .int 600, .ref h4, .int 1])), (h4, .inl (K 0, 112, .inl (upd (upd (upd (fun _ => 0) 0 6) 1 p0) 2 0)))] := hD
    refine lv_aload_n hx hb dX0_enact_75 rfl (lv_at hl 1 rfl) ?_
    refine va_get (D := G) (ci := 0) (v := .ref h3) (C := RX0) (T := TX0) (N := 11) hx hb hts iX0 hown hK hP 0 rfl rfl 4 (by decide) (hw (.fieldLink RX0 41 "MotionFloor$Assembly" "minutes" "LMotionFloor$Ledger;") (List.mem_of_getElem? (i := 7) rfl)) (fun _ h9 => h9) rfl dX0_enact_76 ?_
    refine lv_iconst (v := 3) hx hb dX0_enact_79 (by decide) ?_
    refine lv_iload hx hb dX0_enact_80 (lv_at hl 5 rfl) ?_
    have hPc := hP.sub (ws' := [(h3, .inr (2, [.int 7, .int 600, .ref h4, .int 1])), (h4, .inl (K 0, 112, .inl (upd (upd (upd (fun _ => 0) 0 6) 1 p0) 2 0)))]) [3, 4] rfl
    have hDc := hD.sub (ws' := [(h3, .inr (2, [.int 7, .int 600, .ref h4, .int 1])), (h4, .inl (K 0, 112, .inl (upd (upd (upd (fun _ => 0) 0 6) 1 p0) 2 0)))]) [3, 4] (by decide) rfl
    refine wGov (wc := [(h3, .inr (2, [.int 7, .int 600, .ref h4, .int 1])), (h4, .inl (K 0, 112, .inl (upd (upd (upd (fun _ => 0) 0 6) 1 p0) 2 0)))]) (wr := [(h0, .inr (0, [.ref h1, .ref h2, .ref h5, .ref h6, .ref h3, .ref h7, .ref h8, .int 0, .int 0, .int 0, .null])), (h1, .inr (1, [.int 1, .ref h9, .int 0, .int (-1), .int 0, .int p0, .int (-1), .ref h10])), (h2, .inr (4, [.ref h11, .int 0]))]) (va_runV (As := [.int 3, .int 0]) (rest := []) ⟨hx, hb, hml, hown, hts⟩ (m_X3_write_24 l G K h3 h4 p0 _ (by omega)) (cwV 2 hts (wGV t_ (mw (.methodLink RX0 169 yX3_write) (List.mem_of_getElem? (i := 12) rfl)) (mw (.instanceMethod yX3_write) (List.mem_of_getElem? (i := 13) rfl)) (mw (.selects RX3 yX3_write yX3_write) (List.mem_of_getElem? (i := 14) rfl)) (mw (.initialized RX3) (List.mem_of_getElem? (i := 11) rfl)) j_X3_write_24) rfl rfl rfl (by decide +kernel) ⟨Nat.le_of_ble_eq_true rfl, Nat.le_of_ble_eq_true rfl⟩) (wPV hK hE hPc hDc 2 0 rfl rfl) rfl rfl hl.1 rfl (lv_room (Nat.le_of_ble_eq_true rfl)) dX0_enact_82 ⟨Nat.le_of_ble_eq_true rfl, Nat.le_of_ble_eq_true rfl⟩) hP hD hS hA [3, 4] [0, 1, 2] rfl rfl rfl (by decide) (fun u H locs hw hP hD hS => ?_)
    subst hw
    have hP : va_P G vwCl [(h0, .inr (0, [.ref h1, .ref h2, .ref h5, .ref h6, .ref h3, .ref h7, .ref h8, .int 0, .int 0, .int 0, .null])), (h1, .inr (1, [.int 1, .ref h9, .int 0, .int (-1), .int 0, .int p0, .int (-1), .ref h10])), (h2, .inr (4, [.ref h11, .int 0])), (h3, .inr (2, [.int 7, .int 600, .ref h4, .int 1])), (h4, .inl (K 0, 112, .inl (upd (upd (upd (upd (fun _ => 0) 0 6) 1 p0) 2 0) 3 0)))] _ := hP
    have hD : va_D A [(h0, .inr (0, [.ref h1, .ref h2, .ref h5, .ref h6, .ref h3, .ref h7, .ref h8, .int 0, .int 0, .int 0, .null])), (h1, .inr (1, [.int 1, .ref h9, .int 0, .int (-1), .int 0, .int p0, .int (-1), .ref h10])), (h2, .inr (4, [.ref h11, .int 0])), (h3, .inr (2, [.int 7, .int 600, .ref h4, .int 1])), (h4, .inl (K 0, 112, .inl (upd (upd (upd (upd (fun _ => 0) 0 6) 1 p0) 2 0) 3 0)))] := hD
    refine lv_aload_n hx hb dX0_enact_85 rfl (lv_at hl 1 rfl) ?_
    refine va_get (D := G) (ci := 0) (v := .ref h3) (C := RX0) (T := TX0) (N := 11) hx hb hts iX0 hown hK hP 0 rfl rfl 4 (by decide) (hw (.fieldLink RX0 41 "MotionFloor$Assembly" "minutes" "LMotionFloor$Ledger;") (List.mem_of_getElem? (i := 7) rfl)) (fun _ h9 => h9) rfl dX0_enact_86 ?_
    refine lv_iconst (v := 4) hx hb dX0_enact_89 (by decide) ?_
    refine lv_iload hx hb dX0_enact_90 (lv_at hl 6 rfl) ?_
    have hPc := hP.sub (ws' := [(h3, .inr (2, [.int 7, .int 600, .ref h4, .int 1])), (h4, .inl (K 0, 112, .inl (upd (upd (upd (upd (fun _ => 0) 0 6) 1 p0) 2 0) 3 0)))]) [3, 4] rfl
    have hDc := hD.sub (ws' := [(h3, .inr (2, [.int 7, .int 600, .ref h4, .int 1])), (h4, .inl (K 0, 112, .inl (upd (upd (upd (upd (fun _ => 0) 0 6) 1 p0) 2 0) 3 0)))]) [3, 4] (by decide) rfl
    refine wGov (wc := [(h3, .inr (2, [.int 7, .int 600, .ref h4, .int 1])), (h4, .inl (K 0, 112, .inl (upd (upd (upd (upd (fun _ => 0) 0 6) 1 p0) 2 0) 3 0)))]) (wr := [(h0, .inr (0, [.ref h1, .ref h2, .ref h5, .ref h6, .ref h3, .ref h7, .ref h8, .int 0, .int 0, .int 0, .null])), (h1, .inr (1, [.int 1, .ref h9, .int 0, .int (-1), .int 0, .int p0, .int (-1), .ref h10])), (h2, .inr (4, [.ref h11, .int 0]))]) (va_runV (As := [.int 4, .int 0]) (rest := []) ⟨hx, hb, hml, hown, hts⟩ (m_X3_write_25 l G K h3 h4 p0 _ (by omega)) (cwV 2 hts (wGV t_ (mw (.methodLink RX0 169 yX3_write) (List.mem_of_getElem? (i := 12) rfl)) (mw (.instanceMethod yX3_write) (List.mem_of_getElem? (i := 13) rfl)) (mw (.selects RX3 yX3_write yX3_write) (List.mem_of_getElem? (i := 14) rfl)) (mw (.initialized RX3) (List.mem_of_getElem? (i := 11) rfl)) j_X3_write_25) rfl rfl rfl (by decide +kernel) ⟨Nat.le_of_ble_eq_true rfl, Nat.le_of_ble_eq_true rfl⟩) (wPV hK hE hPc hDc 2 0 rfl rfl) rfl rfl hl.1 rfl (lv_room (Nat.le_of_ble_eq_true rfl)) dX0_enact_92 ⟨Nat.le_of_ble_eq_true rfl, Nat.le_of_ble_eq_true rfl⟩) hP hD hS hA [3, 4] [0, 1, 2] rfl rfl rfl (by decide) (fun u H locs hw hP hD hS => ?_)
    subst hw
    have hP : va_P G vwCl [(h0, .inr (0, [.ref h1, .ref h2, .ref h5, .ref h6, .ref h3, .ref h7, .ref h8, .int 0, .int 0, .int 0, .null])), (h1, .inr (1, [.int 1, .ref h9, .int 0, .int (-1), .int 0, .int p0, .int (-1), .ref h10])), (h2, .inr (4, [.ref h11, .int 0])), (h3, .inr (2, [.int 7, .int 600, .ref h4, .int 1])), (h4, .inl (K 0, 112, .inl (upd (upd (upd (upd (upd (fun _ => 0) 0 6) 1 p0) 2 0) 3 0) 4 0)))] _ := hP
    have hD : va_D A [(h0, .inr (0, [.ref h1, .ref h2, .ref h5, .ref h6, .ref h3, .ref h7, .ref h8, .int 0, .int 0, .int 0, .null])), (h1, .inr (1, [.int 1, .ref h9, .int 0, .int (-1), .int 0, .int p0, .int (-1), .ref h10])), (h2, .inr (4, [.ref h11, .int 0])), (h3, .inr (2, [.int 7, .int 600, .ref h4, .int 1])), (h4, .inl (K 0, 112, .inl (upd (upd (upd (upd (upd (fun _ => 0) 0 6) 1 p0) 2 0) 3 0) 4 0)))] := hD
    refine lv_aload_n hx hb dX0_enact_95 rfl (lv_at hl 1 rfl) ?_
    refine va_get (D := G) (ci := 0) (v := .ref h3) (C := RX0) (T := TX0) (N := 11) hx hb hts iX0 hown hK hP 0 rfl rfl 4 (by decide) (hw (.fieldLink RX0 41 "MotionFloor$Assembly" "minutes" "LMotionFloor$Ledger;") (List.mem_of_getElem? (i := 7) rfl)) (fun _ h9 => h9) rfl dX0_enact_96 ?_
    refine lv_iconst (v := 5) hx hb dX0_enact_99 (by decide) ?_
    refine lv_iload hx hb dX0_enact_100 (lv_at hl 0 rfl) ?_
    have hPc := hP.sub (ws' := [(h3, .inr (2, [.int 7, .int 600, .ref h4, .int 1])), (h4, .inl (K 0, 112, .inl (upd (upd (upd (upd (upd (fun _ => 0) 0 6) 1 p0) 2 0) 3 0) 4 0)))]) [3, 4] rfl
    have hDc := hD.sub (ws' := [(h3, .inr (2, [.int 7, .int 600, .ref h4, .int 1])), (h4, .inl (K 0, 112, .inl (upd (upd (upd (upd (upd (fun _ => 0) 0 6) 1 p0) 2 0) 3 0) 4 0)))]) [3, 4] (by decide) rfl
    refine wGov (wc := [(h3, .inr (2, [.int 7, .int 600, .ref h4, .int 1])), (h4, .inl (K 0, 112, .inl (upd (upd (upd (upd (upd (fun _ => 0) 0 6) 1 p0) 2 0) 3 0) 4 0)))]) (wr := [(h0, .inr (0, [.ref h1, .ref h2, .ref h5, .ref h6, .ref h3, .ref h7, .ref h8, .int 0, .int 0, .int 0, .null])), (h1, .inr (1, [.int 1, .ref h9, .int 0, .int (-1), .int 0, .int p0, .int (-1), .ref h10])), (h2, .inr (4, [.ref h11, .int 0]))]) (va_runV (As := [.int 5, .int p0]) (rest := []) ⟨hx, hb, hml, hown, hts⟩ (m_X3_write_26 l G K h3 h4 p0 _ (by omega)) (cwV 2 hts (wGV t_ (mw (.methodLink RX0 169 yX3_write) (List.mem_of_getElem? (i := 12) rfl)) (mw (.instanceMethod yX3_write) (List.mem_of_getElem? (i := 13) rfl)) (mw (.selects RX3 yX3_write yX3_write) (List.mem_of_getElem? (i := 14) rfl)) (mw (.initialized RX3) (List.mem_of_getElem? (i := 11) rfl)) j_X3_write_26) rfl rfl rfl (by decide +kernel) ⟨Nat.le_of_ble_eq_true rfl, Nat.le_of_ble_eq_true rfl⟩) (wPV hK hE hPc hDc 2 0 rfl rfl) rfl rfl hl.1 rfl (lv_room (Nat.le_of_ble_eq_true rfl)) dX0_enact_102 ⟨Nat.le_of_ble_eq_true rfl, Nat.le_of_ble_eq_true rfl⟩) hP hD hS hA [3, 4] [0, 1, 2] rfl rfl rfl (by decide) (fun u H locs hw hP hD hS => ?_)
    subst hw
    have hP : va_P G vwCl [(h0, .inr (0, [.ref h1, .ref h2, .ref h5, .ref h6, .ref h3, .ref h7, .ref h8, .int 0, .int 0, .int 0, .null])), (h1, .inr (1, [.int 1, .ref h9, .int 0, .int (-1), .int 0, .int p0, .int (-1), .ref h10])), (h2, .inr (4, [.ref h11, .int 0])), (h3, .inr (2, [.int 7, .int 600, .ref h4, .int 1])), (h4, .inl (K 0, 112, .inl (upd (upd (upd (upd (upd (upd (fun _ => 0) 0 6) 1 p0) 2 0) 3 0) 4 0) 5 p0)))] _ := hP
    have hD : va_D A [(h0, .inr (0, [.ref h1, .ref h2, .ref h5, .ref h6, .ref h3, .ref h7, .ref h8, .int 0, .int 0, .int 0, .null])), (h1, .inr (1, [.int 1, .ref h9, .int 0, .int (-1), .int 0, .int p0, .int (-1), .ref h10])), (h2, .inr (4, [.ref h11, .int 0])), (h3, .inr (2, [.int 7, .int 600, .ref h4, .int 1])), (h4, .inl (K 0, 112, .inl (upd (upd (upd (upd (upd (upd (fun _ => 0) 0 6) 1 p0) 2 0) 3 0) 4 0) 5 p0)))] := hD
    refine lv_aload_n hx hb dX0_enact_105 rfl (lv_at hl 1 rfl) ?_
    refine va_get (D := G) (ci := 0) (v := .ref h3) (C := RX0) (T := TX0) (N := 11) hx hb hts iX0 hown hK hP 0 rfl rfl 4 (by decide) (hw (.fieldLink RX0 41 "MotionFloor$Assembly" "minutes" "LMotionFloor$Ledger;") (List.mem_of_getElem? (i := 7) rfl)) (fun _ h9 => h9) rfl dX0_enact_106 ?_
    refine lv_bipush (v := 6) hx hb dX0_enact_109 (by decide) ?_
    refine lv_aload_n hx hb dX0_enact_111 rfl (lv_at hl 1 rfl) ?_
    refine va_get (D := G) (ci := 0) (v := .ref h2) (C := RX0) (T := TX0) (N := 11) hx hb hts iX0 hown hK hP 0 rfl rfl 1 (by decide) (hw (.fieldLink RX0 21 "MotionFloor$Assembly" "pending" "LMotionFloor$Pile;") (List.mem_of_getElem? (i := 15) rfl)) (fun _ h9 => h9) rfl dX0_enact_112 ?_
    refine va_get (D := G) (ci := 4) (v := .int 0) (C := RX5) (T := TX5) (N := 2) hx hb hts iX5 hown hK hP 2 rfl rfl 1 (by decide) (hw (.fieldLink RX0 96 "MotionFloor$Pile" "size" "I") (List.mem_of_getElem? (i := 16) rfl)) (fun _ h9 => h9) rfl dX0_enact_115 ?_
    have hPc := hP.sub (ws' := [(h3, .inr (2, [.int 7, .int 600, .ref h4, .int 1])), (h4, .inl (K 0, 112, .inl (upd (upd (upd (upd (upd (upd (fun _ => 0) 0 6) 1 p0) 2 0) 3 0) 4 0) 5 p0)))]) [3, 4] rfl
    have hDc := hD.sub (ws' := [(h3, .inr (2, [.int 7, .int 600, .ref h4, .int 1])), (h4, .inl (K 0, 112, .inl (upd (upd (upd (upd (upd (upd (fun _ => 0) 0 6) 1 p0) 2 0) 3 0) 4 0) 5 p0)))]) [3, 4] (by decide) rfl
    refine wGov (wc := [(h3, .inr (2, [.int 7, .int 600, .ref h4, .int 1])), (h4, .inl (K 0, 112, .inl (upd (upd (upd (upd (upd (upd (fun _ => 0) 0 6) 1 p0) 2 0) 3 0) 4 0) 5 p0)))]) (wr := [(h0, .inr (0, [.ref h1, .ref h2, .ref h5, .ref h6, .ref h3, .ref h7, .ref h8, .int 0, .int 0, .int 0, .null])), (h1, .inr (1, [.int 1, .ref h9, .int 0, .int (-1), .int 0, .int p0, .int (-1), .ref h10])), (h2, .inr (4, [.ref h11, .int 0]))]) (va_runV (As := [.int 6, .int 0]) (rest := []) ⟨hx, hb, hml, hown, hts⟩ (m_X3_write_27 l G K h3 h4 p0 _ (by omega)) (cwV 2 hts (wGV t_ (mw (.methodLink RX0 169 yX3_write) (List.mem_of_getElem? (i := 12) rfl)) (mw (.instanceMethod yX3_write) (List.mem_of_getElem? (i := 13) rfl)) (mw (.selects RX3 yX3_write yX3_write) (List.mem_of_getElem? (i := 14) rfl)) (mw (.initialized RX3) (List.mem_of_getElem? (i := 11) rfl)) j_X3_write_27) rfl rfl rfl (by decide +kernel) ⟨Nat.le_of_ble_eq_true rfl, Nat.le_of_ble_eq_true rfl⟩) (wPV hK hE hPc hDc 2 0 rfl rfl) rfl rfl hl.1 rfl (lv_room (Nat.le_of_ble_eq_true rfl)) dX0_enact_118 ⟨Nat.le_of_ble_eq_true rfl, Nat.le_of_ble_eq_true rfl⟩) hP hD hS hA [3, 4] [0, 1, 2] rfl rfl rfl (by decide) (fun u H locs hw hP hD hS => ?_)
    subst hw
    have hP : va_P G vwCl [(h0, .inr (0, [.ref h1, .ref h2, .ref h5, .ref h6, .ref h3, .ref h7, .ref h8, .int 0, .int 0, .int 0, .null])), (h1, .inr (1, [.int 1, .ref h9, .int 0, .int (-1), .int 0, .int p0, .int (-1), .ref h10])), (h2, .inr (4, [.ref h11, .int 0])), (h3, .inr (2, [.int 7, .int 600, .ref h4, .int 1])), (h4, .inl (K 0, 112, .inl (upd (upd (upd (upd (upd (upd (upd (fun _ => 0) 0 6) 1 p0) 2 0) 3 0) 4 0) 5 p0) 6 0)))] _ := hP
    have hD : va_D A [(h0, .inr (0, [.ref h1, .ref h2, .ref h5, .ref h6, .ref h3, .ref h7, .ref h8, .int 0, .int 0, .int 0, .null])), (h1, .inr (1, [.int 1, .ref h9, .int 0, .int (-1), .int 0, .int p0, .int (-1), .ref h10])), (h2, .inr (4, [.ref h11, .int 0])), (h3, .inr (2, [.int 7, .int 600, .ref h4, .int 1])), (h4, .inl (K 0, 112, .inl (upd (upd (upd (upd (upd (upd (upd (fun _ => 0) 0 6) 1 p0) 2 0) 3 0) 4 0) 5 p0) 6 0)))] := hD
    refine lv_iload hx hb dX0_enact_121 (lv_at hl 0 rfl) ?_
    have hP9 : va_P G vwCl [(h0, .inr (0, [.ref h1, .ref h2, .ref h5, .ref h6, .ref h3, .ref h7, .ref h8, .int 0, .int 0, .int 0, .null])), (h1, .inr (1, [.int 1, .ref h9, .int 0, .int (-1), .int 0, .int p0, .int (-1), .ref h10])), (h2, .inr (4, [.ref h11, .int 0])), (h3, .inr (2, [.int 7, .int 600, .ref h4, .int 1])), (h4, .inl (K 0, 112, .inl (upd (upd (upd (upd (upd (upd (upd (fun _ => 0) 0 6) 1 p0) 2 0) 3 0) 4 0) 5 p0) 6 0)))] _ := hP
    have hD9 : va_D A [(h0, .inr (0, [.ref h1, .ref h2, .ref h5, .ref h6, .ref h3, .ref h7, .ref h8, .int 0, .int 0, .int 0, .null])), (h1, .inr (1, [.int 1, .ref h9, .int 0, .int (-1), .int 0, .int p0, .int (-1), .ref h10])), (h2, .inr (4, [.ref h11, .int 0])), (h3, .inr (2, [.int 7, .int 600, .ref h4, .int 1])), (h4, .inl (K 0, 112, .inl (upd (upd (upd (upd (upd (upd (upd (fun _ => 0) 0 6) 1 p0) 2 0) 3 0) 4 0) 5 p0) 6 0)))] := hD
    exact W.iret (v := p0) hx hb hr (fun t ht hW => ⟨⟨p0, _, rfl, Or.inr (⟨(by first | omega | decide | simp), rfl, rfl⟩), by rw [ht]; exact hP9, hD9⟩, hS.F ht⟩) hS.2.2 dX0_enact_123
def e_X10_limit_0 : List Cond := [.fieldLink RX10 10 "MotionFloor" "now" "LMotionFloor$Assembly;", .methodLink RX10 32 yX0_enact, .instanceMethod yX0_enact, .selects RX0 yX0_enact yX0_enact, .initialized RX0]
def v_X10_limit_0 : List Cond := .code yX10_limit cX10_limit 2 (some .int) :: (e_X10_limit_0 ++ (wsX100 ++ (v_X0_enact_5 ++ [])))
theorem te_X10_limit_0 : GoodIn lw_tbl e_X10_limit_0 := wGc z115 (wGc z209 (wGc z208 (wGc z207 (wGc z118 (wG0)))))
theorem t_X10_limit_0 : GoodIn lw_tbl v_X10_limit_0 := wGc z229 (wGa te_X10_limit_0 (wGa zcX10 (wGa t_X0_enact_5 (wG0))))
set_option maxHeartbeats 4000000 in
set_option maxRecDepth 100000 in
theorem m_X10_limit_0 (l : Launch) (G : va_G) (K : Nat → ClassId) (h0 h1 h2 h3 h4 h5 h6 h7 h8 h9 h10 h11 h12 h13 h14 : Nat) (p0 : Int32) (sz : Nat) : Met l yX10_limit v_X10_limit_0 ({ frames := 4, cells := 0, slots := 0, locals := 96 }) (va_Pc [.ref h0, .int p0] (wS G K sz [(h0, .inr (7, [.ref h1, .ref h6, .null, .null, .ref h7])), (h1, .inr (0, [.ref h2, .ref h3, .ref h8, .ref h9, .ref h4, .ref h10, .ref h11, .int 0, .int 0, .int 0, .null])), (h2, .inr (1, [.int 1, .ref h12, .int 0, .int (-1), .int 0, .int 0, .int (-1), .ref h13])), (h3, .inr (4, [.ref h14, .int 0])), (h4, .inr (2, [.int 7, .int 600, .ref h5, .int 0])), (h5, .inl (K 0, 112, .inl (fun _ => 0)))])) (va_Qi (fun (r : Int32) (u : va_W) => (((((p0.toInt < 0 ∨ (p0.toInt ≥ 0 ∧ p0.toInt > 99))))) ∧ r = (-9) ∧ u = [(h0, .inr (7, [.ref h1, .ref h6, .null, .null, .ref h7])), (h1, .inr (0, [.ref h2, .ref h3, .ref h8, .ref h9, .ref h4, .ref h10, .ref h11, .int 0, .int 0, .int 9, .null])), (h2, .inr (1, [.int 1, .ref h12, .int 0, .int (-1), .int 0, .int 0, .int (-1), .ref h13])), (h3, .inr (4, [.ref h14, .int 0])), (h4, .inr (2, [.int 7, .int 600, .ref h5, .int 0])), (h5, .inl (K 0, 112, .inl (fun _ => 0)))]) ∨ ((((((p0.toInt ≥ 0 ∧ p0.toInt ≤ 99))))) ∧ r = p0 ∧ u = [(h0, .inr (7, [.ref h1, .ref h6, .null, .null, .ref h7])), (h1, .inr (0, [.ref h2, .ref h3, .ref h8, .ref h9, .ref h4, .ref h10, .ref h11, .int 0, .int 0, .int 0, .null])), (h2, .inr (1, [.int 1, .ref h12, .int 0, .int (-1), .int 0, .int p0, .int (-1), .ref h13])), (h3, .inr (4, [.ref h14, .int 0])), (h4, .inr (2, [.int 7, .int 600, .ref h5, .int 1])), (h5, .inl (K 0, 112, .inl (upd (upd (upd (upd (upd (upd (upd (fun _ => 0) 0 6) 1 p0) 2 0) 3 0) 4 0) 5 p0) 6 0)))])) (wB G (va_A [(h0, .inr (7, [.ref h1, .ref h6, .null, .null, .ref h7])), (h1, .inr (0, [.ref h2, .ref h3, .ref h8, .ref h9, .ref h4, .ref h10, .ref h11, .int 0, .int 0, .int 0, .null])), (h2, .inr (1, [.int 1, .ref h12, .int 0, .int (-1), .int 0, .int 0, .int (-1), .ref h13])), (h3, .inr (4, [.ref h14, .int 0])), (h4, .inr (2, [.int 7, .int 600, .ref h5, .int 0])), (h5, .inl (K 0, 112, .inl (fun _ => 0)))] sz)) (va_A [(h0, .inr (7, [.ref h1, .ref h6, .null, .null, .ref h7])), (h1, .inr (0, [.ref h2, .ref h3, .ref h8, .ref h9, .ref h4, .ref h10, .ref h11, .int 0, .int 0, .int 0, .null])), (h2, .inr (1, [.int 1, .ref h12, .int 0, .int (-1), .int 0, .int 0, .int (-1), .ref h13])), (h3, .inr (4, [.ref h14, .int 0])), (h4, .inr (2, [.int 7, .int 600, .ref h5, .int 0])), (h5, .inl (K 0, 112, .inl (fun _ => 0)))] sz)) 0 0 (va_A [(h0, .inr (7, [.ref h1, .ref h6, .null, .null, .ref h7])), (h1, .inr (0, [.ref h2, .ref h3, .ref h8, .ref h9, .ref h4, .ref h10, .ref h11, .int 0, .int 0, .int 0, .null])), (h2, .inr (1, [.int 1, .ref h12, .int 0, .int (-1), .int 0, .int 0, .int (-1), .ref h13])), (h3, .inr (4, [.ref h14, .int 0])), (h4, .inr (2, [.int 7, .int 600, .ref h5, .int 0])), (h5, .inl (K 0, 112, .inl (fun _ => 0)))] sz) := by
  refine Met.ofW (cc := cX10_limit) (maxL := 2) (ret := (some .int)) (by decide) rfl ?_
  intro p e s m args below meth c s₁ B hml hv
  obtain ⟨rfl, hsz, hP, hK, hD0, hE⟩ := hv
  have hx := B.exec
  have hb := B.bytes
  have hr := B.returns
  have hts := atoms_spec (ws := v_X10_limit_0) B.pre
  have t_ := t_X10_limit_0
  have mw : ∀ w ∈ e_X10_limit_0, w ∈ v_X10_limit_0 := fun w h => List.mem_cons_of_mem _ (List.mem_append_left _ h)
  have hw := fun w (h : w ∈ e_X10_limit_0) => hts w (mw w h)
  have iX10 : ∀ w ∈ wsX100, w ∈ v_X10_limit_0 := fun w h => List.mem_cons_of_mem _ (List.mem_append_right _ (List.mem_append_left _ h))
  have j_X0_enact_5 : ∀ w ∈ v_X0_enact_5, w ∈ v_X10_limit_0 := fun w h => List.mem_cons_of_mem _ (List.mem_append_right _ (List.mem_append_right _ (List.mem_append_left _ h)))
  have hown : s.vm.findClass RX10 = some m.cls := findClass_of_methodNamed B.named
  have hlocks := B.notSynchronized
  subst hsz
  have hD := hD0.self (sz := s.heap.size)
  generalize hAe : va_A [(h0, .inr (7, [.ref h1, .ref h6, .null, .null, .ref h7])), (h1, .inr (0, [.ref h2, .ref h3, .ref h8, .ref h9, .ref h4, .ref h10, .ref h11, .int 0, .int 0, .int 0, .null])), (h2, .inr (1, [.int 1, .ref h12, .int 0, .int (-1), .int 0, .int 0, .int (-1), .ref h13])), (h3, .inr (4, [.ref h14, .int 0])), (h4, .inr (2, [.int 7, .int 600, .ref h5, .int 0])), (h5, .inl (K 0, 112, .inl (fun _ => 0)))] s.heap.size = A at hD ⊢
  have hA : ∀ q : Nat, s.heap.size ≤ q → A q := fun q h => by rw [← hAe]; exact Or.inr h
  have hS : va_S A s.heap s.heap [] := va_S.rf
  have hP : va_P G vwCl [(h0, .inr (7, [.ref h1, .ref h6, .null, .null, .ref h7])), (h1, .inr (0, [.ref h2, .ref h3, .ref h8, .ref h9, .ref h4, .ref h10, .ref h11, .int 0, .int 0, .int 0, .null])), (h2, .inr (1, [.int 1, .ref h12, .int 0, .int (-1), .int 0, .int 0, .int (-1), .ref h13])), (h3, .inr (4, [.ref h14, .int 0])), (h4, .inr (2, [.int 7, .int 600, .ref h5, .int 0])), (h5, .inl (K 0, 112, .inl (fun _ => 0)))] s.heap := hP
  have hl := lv_entry ([.ref h0, .int p0]) (n := 2) (Nat.le_of_ble_eq_true rfl)
  rw [lg_entry_eq]
  generalize (lg_sl ([.ref h0, .int p0]) ++ List.replicate (2 - (lg_sl ([.ref h0, .int p0])).length) Slot.unset).toArray = ls at hl ⊢
  have hl : lv_has ls 2 [(0, .ref h0), (1, .int p0)] := hl
  refine lv_aload_n hx hb dX10_limit_0 rfl (lv_at hl 0 rfl) ?_
  refine va_get (D := G) (ci := 7) (v := .ref h1) (C := RX10) (T := TX10) (N := 5) hx hb hts iX10 hown hK hP 0 rfl rfl 0 (by decide) (hw (.fieldLink RX10 10 "MotionFloor" "now" "LMotionFloor$Assembly;") (List.mem_of_getElem? (i := 0) rfl)) (fun _ h9 => h9) rfl dX10_limit_1 ?_
  refine lv_bipush (v := 6) hx hb dX10_limit_4 (by decide) ?_
  refine lv_iload_n hx hb dX10_limit_6 rfl (lv_at hl 1 rfl) ?_
  refine lv_iconst (v := 0) hx hb dX10_limit_7 (by decide) ?_
  refine lv_iconst (v := 0) hx hb dX10_limit_8 (by decide) ?_
  refine lv_iconst (v := 0) hx hb dX10_limit_9 (by decide) ?_
  have hPc := hP.sub (ws' := [(h1, .inr (0, [.ref h2, .ref h3, .ref h8, .ref h9, .ref h4, .ref h10, .ref h11, .int 0, .int 0, .int 0, .null])), (h2, .inr (1, [.int 1, .ref h12, .int 0, .int (-1), .int 0, .int 0, .int (-1), .ref h13])), (h3, .inr (4, [.ref h14, .int 0])), (h4, .inr (2, [.int 7, .int 600, .ref h5, .int 0])), (h5, .inl (K 0, 112, .inl (fun _ => 0)))]) [1, 2, 3, 4, 5] rfl
  have hDc := hD.sub (ws' := [(h1, .inr (0, [.ref h2, .ref h3, .ref h8, .ref h9, .ref h4, .ref h10, .ref h11, .int 0, .int 0, .int 0, .null])), (h2, .inr (1, [.int 1, .ref h12, .int 0, .int (-1), .int 0, .int 0, .int (-1), .ref h13])), (h3, .inr (4, [.ref h14, .int 0])), (h4, .inr (2, [.int 7, .int 600, .ref h5, .int 0])), (h5, .inl (K 0, 112, .inl (fun _ => 0)))]) [1, 2, 3, 4, 5] (by decide) rfl
  refine wGoi (wc := [(h1, .inr (0, [.ref h2, .ref h3, .ref h8, .ref h9, .ref h4, .ref h10, .ref h11, .int 0, .int 0, .int 0, .null])), (h2, .inr (1, [.int 1, .ref h12, .int 0, .int (-1), .int 0, .int 0, .int (-1), .ref h13])), (h3, .inr (4, [.ref h14, .int 0])), (h4, .inr (2, [.int 7, .int 600, .ref h5, .int 0])), (h5, .inl (K 0, 112, .inl (fun _ => 0)))]) (wr := [(h0, .inr (7, [.ref h1, .ref h6, .null, .null, .ref h7]))]) (va_runV (As := [.int 6, .int p0, .int 0, .int 0, .int 0]) (rest := []) ⟨hx, hb, hml, hown, hts⟩ (m_X0_enact_5 l G K h1 h2 h3 h4 h5 h8 h9 h10 h11 h12 h13 h14 p0 _) (cwV 5 hts (wGV t_ (mw (.methodLink RX10 32 yX0_enact) (List.mem_of_getElem? (i := 1) rfl)) (mw (.instanceMethod yX0_enact) (List.mem_of_getElem? (i := 2) rfl)) (mw (.selects RX0 yX0_enact yX0_enact) (List.mem_of_getElem? (i := 3) rfl)) (mw (.initialized RX0) (List.mem_of_getElem? (i := 4) rfl)) j_X0_enact_5) rfl rfl rfl (by decide +kernel) ⟨Nat.le_of_ble_eq_true rfl, Nat.le_of_ble_eq_true rfl⟩) (wPV hK hE hPc hDc 0 0 rfl rfl) rfl rfl hl.1 rfl (lv_room (Nat.le_of_ble_eq_true rfl)) dX10_limit_10 ⟨Nat.le_of_ble_eq_true rfl, Nat.le_of_ble_eq_true rfl⟩) hP hD hS hA [1, 2, 3, 4, 5] [0] rfl rfl rfl (by decide) (fun r u H locs hw hP hD hS => ?_)
  rcases hw with ⟨c_w, rfl, rfl⟩ | ⟨c_w, rfl, rfl⟩
  · have c1 := c_w
    have hP : va_P G vwCl [(h0, .inr (7, [.ref h1, .ref h6, .null, .null, .ref h7])), (h1, .inr (0, [.ref h2, .ref h3, .ref h8, .ref h9, .ref h4, .ref h10, .ref h11, .int 0, .int 0, .int 9, .null])), (h2, .inr (1, [.int 1, .ref h12, .int 0, .int (-1), .int 0, .int 0, .int (-1), .ref h13])), (h3, .inr (4, [.ref h14, .int 0])), (h4, .inr (2, [.int 7, .int 600, .ref h5, .int 0])), (h5, .inl (K 0, 112, .inl (fun _ => 0)))] _ := hP
    have hD : va_D A [(h0, .inr (7, [.ref h1, .ref h6, .null, .null, .ref h7])), (h1, .inr (0, [.ref h2, .ref h3, .ref h8, .ref h9, .ref h4, .ref h10, .ref h11, .int 0, .int 0, .int 9, .null])), (h2, .inr (1, [.int 1, .ref h12, .int 0, .int (-1), .int 0, .int 0, .int (-1), .ref h13])), (h3, .inr (4, [.ref h14, .int 0])), (h4, .inr (2, [.int 7, .int 600, .ref h5, .int 0])), (h5, .inl (K 0, 112, .inl (fun _ => 0)))] := hD
    have hP9 : va_P G vwCl [(h0, .inr (7, [.ref h1, .ref h6, .null, .null, .ref h7])), (h1, .inr (0, [.ref h2, .ref h3, .ref h8, .ref h9, .ref h4, .ref h10, .ref h11, .int 0, .int 0, .int 9, .null])), (h2, .inr (1, [.int 1, .ref h12, .int 0, .int (-1), .int 0, .int 0, .int (-1), .ref h13])), (h3, .inr (4, [.ref h14, .int 0])), (h4, .inr (2, [.int 7, .int 600, .ref h5, .int 0])), (h5, .inl (K 0, 112, .inl (fun _ => 0)))] _ := hP
    have hD9 : va_D A [(h0, .inr (7, [.ref h1, .ref h6, .null, .null, .ref h7])), (h1, .inr (0, [.ref h2, .ref h3, .ref h8, .ref h9, .ref h4, .ref h10, .ref h11, .int 0, .int 0, .int 9, .null])), (h2, .inr (1, [.int 1, .ref h12, .int 0, .int (-1), .int 0, .int 0, .int (-1), .ref h13])), (h3, .inr (4, [.ref h14, .int 0])), (h4, .inr (2, [.int 7, .int 600, .ref h5, .int 0])), (h5, .inl (K 0, 112, .inl (fun _ => 0)))] := hD
    exact W.iret (v := (-9)) hx hb hr (fun t ht hW => ⟨⟨(-9), _, rfl, Or.inl ⟨(by first | omega | decide | simp), rfl, rfl⟩, by rw [ht]; exact hP9, hD9⟩, hS.F ht⟩) hS.2.2 dX10_limit_13
  · have c2 := c_w
    have hP : va_P G vwCl [(h0, .inr (7, [.ref h1, .ref h6, .null, .null, .ref h7])), (h1, .inr (0, [.ref h2, .ref h3, .ref h8, .ref h9, .ref h4, .ref h10, .ref h11, .int 0, .int 0, .int 0, .null])), (h2, .inr (1, [.int 1, .ref h12, .int 0, .int (-1), .int 0, .int p0, .int (-1), .ref h13])), (h3, .inr (4, [.ref h14, .int 0])), (h4, .inr (2, [.int 7, .int 600, .ref h5, .int 1])), (h5, .inl (K 0, 112, .inl (upd (upd (upd (upd (upd (upd (upd (fun _ => 0) 0 6) 1 p0) 2 0) 3 0) 4 0) 5 p0) 6 0)))] _ := hP
    have hD : va_D A [(h0, .inr (7, [.ref h1, .ref h6, .null, .null, .ref h7])), (h1, .inr (0, [.ref h2, .ref h3, .ref h8, .ref h9, .ref h4, .ref h10, .ref h11, .int 0, .int 0, .int 0, .null])), (h2, .inr (1, [.int 1, .ref h12, .int 0, .int (-1), .int 0, .int p0, .int (-1), .ref h13])), (h3, .inr (4, [.ref h14, .int 0])), (h4, .inr (2, [.int 7, .int 600, .ref h5, .int 1])), (h5, .inl (K 0, 112, .inl (upd (upd (upd (upd (upd (upd (upd (fun _ => 0) 0 6) 1 p0) 2 0) 3 0) 4 0) 5 p0) 6 0)))] := hD
    have hP9 : va_P G vwCl [(h0, .inr (7, [.ref h1, .ref h6, .null, .null, .ref h7])), (h1, .inr (0, [.ref h2, .ref h3, .ref h8, .ref h9, .ref h4, .ref h10, .ref h11, .int 0, .int 0, .int 0, .null])), (h2, .inr (1, [.int 1, .ref h12, .int 0, .int (-1), .int 0, .int p0, .int (-1), .ref h13])), (h3, .inr (4, [.ref h14, .int 0])), (h4, .inr (2, [.int 7, .int 600, .ref h5, .int 1])), (h5, .inl (K 0, 112, .inl (upd (upd (upd (upd (upd (upd (upd (fun _ => 0) 0 6) 1 p0) 2 0) 3 0) 4 0) 5 p0) 6 0)))] _ := hP
    have hD9 : va_D A [(h0, .inr (7, [.ref h1, .ref h6, .null, .null, .ref h7])), (h1, .inr (0, [.ref h2, .ref h3, .ref h8, .ref h9, .ref h4, .ref h10, .ref h11, .int 0, .int 0, .int 0, .null])), (h2, .inr (1, [.int 1, .ref h12, .int 0, .int (-1), .int 0, .int p0, .int (-1), .ref h13])), (h3, .inr (4, [.ref h14, .int 0])), (h4, .inr (2, [.int 7, .int 600, .ref h5, .int 1])), (h5, .inl (K 0, 112, .inl (upd (upd (upd (upd (upd (upd (upd (fun _ => 0) 0 6) 1 p0) 2 0) 3 0) 4 0) 5 p0) 6 0)))] := hD
    exact W.iret (v := p0) hx hb hr (fun t ht hW => ⟨⟨p0, _, rfl, Or.inr (⟨(by first | omega | decide | simp), rfl, rfl⟩), by rw [ht]; exact hP9, hD9⟩, hS.F ht⟩) hS.2.2 dX10_limit_13
def e_X8_againstFloor_0 : List Cond := [.fieldLink RX8 34 "MotionFloor$Assembly" "house" "LMotionFloor$House;", .methodLink RX8 42 yX8_againstAbsent, .static yX8_againstAbsent, .initialized RX8]
def v_X8_againstFloor_0 : List Cond := .code yX8_againstFloor cX8_againstFloor 5 (some .int) :: (e_X8_againstFloor_0 ++ (wsX00 ++ (v_X8_againstAbsent_0 ++ [])))
theorem te_X8_againstFloor_0 : GoodIn lw_tbl e_X8_againstFloor_0 := wGc z160 (wGc z213 (wGc z212 (wGc z157 (wG0))))
theorem t_X8_againstFloor_0 : GoodIn lw_tbl v_X8_againstFloor_0 := wGc z230 (wGa te_X8_againstFloor_0 (wGa zcX0 (wGa t_X8_againstAbsent_0 (wG0))))
set_option maxHeartbeats 4000000 in
set_option maxRecDepth 100000 in
theorem m_X8_againstFloor_0 (l : Launch) (G : va_G) (K : Nat → ClassId) (h0 h1 h2 h3 h4 h5 h6 h7 h8 h9 : Nat) (p0 : Int32) (sz : Nat) : Met l yX8_againstFloor v_X8_againstFloor_0 ({ frames := 2, cells := 0, slots := 0, locals := 42 }) (va_Pc [.ref h0, .int p0] (wS G K sz [(h0, .inr (0, [.ref h1, .ref h3, .ref h4, .ref h5, .ref h6, .ref h7, .ref h8, .int 0, .int 0, .int 0, .null])), (h1, .inr (1, [.int 1, .ref h2, .int 0, .int (-1), .int 0, .int 0, .int (-1), .ref h9])), (h2, .inl (K 1, 200, .inl (fun _ => 0)))])) (va_Qi (fun (r : Int32) (u : va_W) => ((((p0.toInt < 0 ∨ (p0.toInt ≥ 0 ∧ p0.toInt ≥ 1)))) ∧ r = 9 ∧ u = [(h0, .inr (0, [.ref h1, .ref h3, .ref h4, .ref h5, .ref h6, .ref h7, .ref h8, .int 0, .int 0, .int 0, .null])), (h1, .inr (1, [.int 1, .ref h2, .int 0, .int (-1), .int 0, .int 0, .int (-1), .ref h9])), (h2, .inl (K 1, 200, .inl (fun _ => 0)))]) ∨ (((((p0.toInt ≥ 0 ∧ p0.toInt < 1)))) ∧ r = 8 ∧ u = [(h0, .inr (0, [.ref h1, .ref h3, .ref h4, .ref h5, .ref h6, .ref h7, .ref h8, .int 0, .int 0, .int 0, .null])), (h1, .inr (1, [.int 1, .ref h2, .int 0, .int (-1), .int 0, .int 0, .int (-1), .ref h9])), (h2, .inl (K 1, 200, .inl (fun _ => 0)))])) (wB G (va_A [(h0, .inr (0, [.ref h1, .ref h3, .ref h4, .ref h5, .ref h6, .ref h7, .ref h8, .int 0, .int 0, .int 0, .null])), (h1, .inr (1, [.int 1, .ref h2, .int 0, .int (-1), .int 0, .int 0, .int (-1), .ref h9])), (h2, .inl (K 1, 200, .inl (fun _ => 0)))] sz)) (va_A [(h0, .inr (0, [.ref h1, .ref h3, .ref h4, .ref h5, .ref h6, .ref h7, .ref h8, .int 0, .int 0, .int 0, .null])), (h1, .inr (1, [.int 1, .ref h2, .int 0, .int (-1), .int 0, .int 0, .int (-1), .ref h9])), (h2, .inl (K 1, 200, .inl (fun _ => 0)))] sz)) 0 0 (va_A [(h0, .inr (0, [.ref h1, .ref h3, .ref h4, .ref h5, .ref h6, .ref h7, .ref h8, .int 0, .int 0, .int 0, .null])), (h1, .inr (1, [.int 1, .ref h2, .int 0, .int (-1), .int 0, .int 0, .int (-1), .ref h9])), (h2, .inl (K 1, 200, .inl (fun _ => 0)))] sz) := by
  refine Met.ofW (cc := cX8_againstFloor) (maxL := 5) (ret := (some .int)) (by decide) rfl ?_
  intro p e s m args below meth c s₁ B hml hv
  obtain ⟨rfl, hsz, hP, hK, hD0, hE⟩ := hv
  have hx := B.exec
  have hb := B.bytes
  have hr := B.returns
  have hts := atoms_spec (ws := v_X8_againstFloor_0) B.pre
  have t_ := t_X8_againstFloor_0
  have mw : ∀ w ∈ e_X8_againstFloor_0, w ∈ v_X8_againstFloor_0 := fun w h => List.mem_cons_of_mem _ (List.mem_append_left _ h)
  have hw := fun w (h : w ∈ e_X8_againstFloor_0) => hts w (mw w h)
  have iX0 : ∀ w ∈ wsX00, w ∈ v_X8_againstFloor_0 := fun w h => List.mem_cons_of_mem _ (List.mem_append_right _ (List.mem_append_left _ h))
  have j_X8_againstAbsent_0 : ∀ w ∈ v_X8_againstAbsent_0, w ∈ v_X8_againstFloor_0 := fun w h => List.mem_cons_of_mem _ (List.mem_append_right _ (List.mem_append_right _ (List.mem_append_left _ h)))
  have hown : s.vm.findClass RX8 = some m.cls := findClass_of_methodNamed B.named
  have hlocks := B.notSynchronized
  subst hsz
  have hD := hD0.self (sz := s.heap.size)
  generalize hAe : va_A [(h0, .inr (0, [.ref h1, .ref h3, .ref h4, .ref h5, .ref h6, .ref h7, .ref h8, .int 0, .int 0, .int 0, .null])), (h1, .inr (1, [.int 1, .ref h2, .int 0, .int (-1), .int 0, .int 0, .int (-1), .ref h9])), (h2, .inl (K 1, 200, .inl (fun _ => 0)))] s.heap.size = A at hD ⊢
  have hA : ∀ q : Nat, s.heap.size ≤ q → A q := fun q h => by rw [← hAe]; exact Or.inr h
  have hS : va_S A s.heap s.heap [] := va_S.rf
  have hP : va_P G vwCl [(h0, .inr (0, [.ref h1, .ref h3, .ref h4, .ref h5, .ref h6, .ref h7, .ref h8, .int 0, .int 0, .int 0, .null])), (h1, .inr (1, [.int 1, .ref h2, .int 0, .int (-1), .int 0, .int 0, .int (-1), .ref h9])), (h2, .inl (K 1, 200, .inl (fun _ => 0)))] s.heap := hP
  have hl := lv_entry ([.ref h0, .int p0]) (n := 5) (Nat.le_of_ble_eq_true rfl)
  rw [lg_entry_eq]
  generalize (lg_sl ([.ref h0, .int p0]) ++ List.replicate (5 - (lg_sl ([.ref h0, .int p0])).length) Slot.unset).toArray = ls at hl ⊢
  have hl : lv_has ls 5 [(0, .ref h0), (1, .int p0)] := hl
  refine lv_aload_n hx hb dX8_againstFloor_0 rfl (lv_at hl 0 rfl) ?_
  refine va_get (D := G) (ci := 0) (v := .ref h1) (C := RX0) (T := TX0) (N := 11) hx hb hts iX0 hown hK hP 0 rfl rfl 0 (by decide) (hw (.fieldLink RX8 34 "MotionFloor$Assembly" "house" "LMotionFloor$House;") (List.mem_of_getElem? (i := 0) rfl)) (fun _ h9 => h9) rfl dX8_againstFloor_1 ?_
  refine lv_iload_n hx hb dX8_againstFloor_4 rfl (lv_at hl 1 rfl) ?_
  have hPc := hP.sub (ws' := [(h1, .inr (1, [.int 1, .ref h2, .int 0, .int (-1), .int 0, .int 0, .int (-1), .ref h9])), (h2, .inl (K 1, 200, .inl (fun _ => 0)))]) [1, 2] rfl
  have hDc := hD.sub (ws' := [(h1, .inr (1, [.int 1, .ref h2, .int 0, .int (-1), .int 0, .int 0, .int (-1), .ref h9])), (h2, .inl (K 1, 200, .inl (fun _ => 0)))]) [1, 2] (by decide) rfl
  refine wGoi (wc := [(h1, .inr (1, [.int 1, .ref h2, .int 0, .int (-1), .int 0, .int 0, .int (-1), .ref h9])), (h2, .inl (K 1, 200, .inl (fun _ => 0)))]) (wr := [(h0, .inr (0, [.ref h1, .ref h3, .ref h4, .ref h5, .ref h6, .ref h7, .ref h8, .int 0, .int 0, .int 0, .null]))]) (va_runS (As := [.ref h1, .int p0]) (rest := []) ⟨hx, hb, hml, hown, hts⟩ (m_X8_againstAbsent_0 l G K h1 h2 h9 p0 _) (va_cwS 2 hts (wGS t_ (mw (.methodLink RX8 42 yX8_againstAbsent) (List.mem_of_getElem? (i := 1) rfl)) (mw (.static yX8_againstAbsent) (List.mem_of_getElem? (i := 2) rfl)) (mw (.initialized RX8) (List.mem_of_getElem? (i := 3) rfl)) j_X8_againstAbsent_0) rfl rfl rfl (by decide +kernel) ⟨Nat.le_of_ble_eq_true rfl, Nat.le_of_ble_eq_true rfl⟩) (wPS hK hE hPc hDc) rfl rfl hl.1 rfl (lv_room (Nat.le_of_ble_eq_true rfl)) dX8_againstFloor_5 ⟨Nat.le_of_ble_eq_true rfl, Nat.le_of_ble_eq_true rfl⟩) hP hD hS hA [1, 2] [0] rfl rfl rfl (by decide) (fun r u H locs hw hP hD hS => ?_)
  rcases hw with ⟨c_w, rfl, rfl⟩ | ⟨c_w, rfl, rfl⟩
  · have c1 := c_w
    have hP : va_P G vwCl [(h0, .inr (0, [.ref h1, .ref h3, .ref h4, .ref h5, .ref h6, .ref h7, .ref h8, .int 0, .int 0, .int 0, .null])), (h1, .inr (1, [.int 1, .ref h2, .int 0, .int (-1), .int 0, .int 0, .int (-1), .ref h9])), (h2, .inl (K 1, 200, .inl (fun _ => 0)))] _ := hP
    have hD : va_D A [(h0, .inr (0, [.ref h1, .ref h3, .ref h4, .ref h5, .ref h6, .ref h7, .ref h8, .int 0, .int 0, .int 0, .null])), (h1, .inr (1, [.int 1, .ref h2, .int 0, .int (-1), .int 0, .int 0, .int (-1), .ref h9])), (h2, .inl (K 1, 200, .inl (fun _ => 0)))] := hD
    refine lv_istore_n (lv' := [(2, .int 9), (0, .ref h0), (1, .int p0)]) hx hb dX8_againstFloor_8 rfl hl (by decide) rfl (fun ls hl => ?_)
    refine lv_iload_n hx hb dX8_againstFloor_9 rfl (lv_at hl 0 rfl) ?_
    refine lv_if_eq (tgt := 15) hx hb dX8_againstFloor_10 (by decide) (fun c_ => absurd c_ (by decide)) (fun _ => ?_)
    refine lv_iload_n hx hb dX8_againstFloor_13 rfl (lv_at hl 0 rfl) ?_
    have hP9 : va_P G vwCl [(h0, .inr (0, [.ref h1, .ref h3, .ref h4, .ref h5, .ref h6, .ref h7, .ref h8, .int 0, .int 0, .int 0, .null])), (h1, .inr (1, [.int 1, .ref h2, .int 0, .int (-1), .int 0, .int 0, .int (-1), .ref h9])), (h2, .inl (K 1, 200, .inl (fun _ => 0)))] _ := hP
    have hD9 : va_D A [(h0, .inr (0, [.ref h1, .ref h3, .ref h4, .ref h5, .ref h6, .ref h7, .ref h8, .int 0, .int 0, .int 0, .null])), (h1, .inr (1, [.int 1, .ref h2, .int 0, .int (-1), .int 0, .int 0, .int (-1), .ref h9])), (h2, .inl (K 1, 200, .inl (fun _ => 0)))] := hD
    exact W.iret (v := 9) hx hb hr (fun t ht hW => ⟨⟨9, _, rfl, Or.inl ⟨(by first | omega | decide | simp), rfl, rfl⟩, by rw [ht]; exact hP9, hD9⟩, hS.F ht⟩) hS.2.2 dX8_againstFloor_14
  · have c2 := c_w
    have hP : va_P G vwCl [(h0, .inr (0, [.ref h1, .ref h3, .ref h4, .ref h5, .ref h6, .ref h7, .ref h8, .int 0, .int 0, .int 0, .null])), (h1, .inr (1, [.int 1, .ref h2, .int 0, .int (-1), .int 0, .int 0, .int (-1), .ref h9])), (h2, .inl (K 1, 200, .inl (fun _ => 0)))] _ := hP
    have hD : va_D A [(h0, .inr (0, [.ref h1, .ref h3, .ref h4, .ref h5, .ref h6, .ref h7, .ref h8, .int 0, .int 0, .int 0, .null])), (h1, .inr (1, [.int 1, .ref h2, .int 0, .int (-1), .int 0, .int 0, .int (-1), .ref h9])), (h2, .inl (K 1, 200, .inl (fun _ => 0)))] := hD
    obtain rfl : p0 = 0 := wIs (b := 0) (by decide) (by omega)
    have z_0 : (0 : Int32).toInt = 0 := by decide
    refine lv_istore_n (lv' := [(2, .int 8), (0, .ref h0), (1, .int 0)]) hx hb dX8_againstFloor_8 rfl hl (by decide) rfl (fun ls hl => ?_)
    refine lv_iload_n hx hb dX8_againstFloor_9 rfl (lv_at hl 0 rfl) ?_
    refine lv_if_eq (tgt := 15) hx hb dX8_againstFloor_10 (by decide) (fun c_ => absurd c_ (by decide)) (fun _ => ?_)
    refine lv_iload_n hx hb dX8_againstFloor_13 rfl (lv_at hl 0 rfl) ?_
    have hP9 : va_P G vwCl [(h0, .inr (0, [.ref h1, .ref h3, .ref h4, .ref h5, .ref h6, .ref h7, .ref h8, .int 0, .int 0, .int 0, .null])), (h1, .inr (1, [.int 1, .ref h2, .int 0, .int (-1), .int 0, .int 0, .int (-1), .ref h9])), (h2, .inl (K 1, 200, .inl (fun _ => 0)))] _ := hP
    have hD9 : va_D A [(h0, .inr (0, [.ref h1, .ref h3, .ref h4, .ref h5, .ref h6, .ref h7, .ref h8, .int 0, .int 0, .int 0, .null])), (h1, .inr (1, [.int 1, .ref h2, .int 0, .int (-1), .int 0, .int 0, .int (-1), .ref h9])), (h2, .inl (K 1, 200, .inl (fun _ => 0)))] := hD
    exact W.iret (v := 8) hx hb hr (fun t ht hW => ⟨⟨8, _, rfl, Or.inr (⟨(by first | omega | decide | simp), rfl, rfl⟩), by rw [ht]; exact hP9, hD9⟩, hS.F ht⟩) hS.2.2 dX8_againstFloor_14
def e_X8_againstOnFloor_6 : List Cond := [.methodLink RX8 49 yX8_againstFloor, .static yX8_againstFloor, .initialized RX8]
def v_X8_againstOnFloor_6 : List Cond := .code yX8_againstOnFloor cX8_againstOnFloor 4 (some .int) :: (e_X8_againstOnFloor_6 ++ (v_X8_againstFloor_0 ++ []))
theorem te_X8_againstOnFloor_6 : GoodIn lw_tbl e_X8_againstOnFloor_6 := wGc z232 (wGc z231 (wGc z157 (wG0)))
theorem t_X8_againstOnFloor_6 : GoodIn lw_tbl v_X8_againstOnFloor_6 := wGc z161 (wGa te_X8_againstOnFloor_6 (wGa t_X8_againstFloor_0 (wG0)))
set_option maxHeartbeats 4000000 in
set_option maxRecDepth 100000 in
theorem m_X8_againstOnFloor_6 (l : Launch) (G : va_G) (K : Nat → ClassId) (h0 h1 h2 h3 h4 h5 h6 h7 h8 h9 : Nat) (p0 : Int32) (sz : Nat) : Met l yX8_againstOnFloor v_X8_againstOnFloor_6 ({ frames := 3, cells := 0, slots := 0, locals := 66 }) (va_Pc [.ref h0, .int 7, .int p0, .int 0] (wS G K sz [(h0, .inr (0, [.ref h1, .ref h3, .ref h4, .ref h5, .ref h6, .ref h7, .ref h8, .int 0, .int 0, .int 0, .null])), (h1, .inr (1, [.int 1, .ref h2, .int 0, .int (-1), .int 0, .int 0, .int (-1), .ref h9])), (h2, .inl (K 1, 200, .inl (fun _ => 0)))])) (va_Qi (fun (r : Int32) (u : va_W) => (((((p0.toInt < 0 ∨ (p0.toInt ≥ 0 ∧ p0.toInt ≥ 1))))) ∧ r = 9 ∧ u = [(h0, .inr (0, [.ref h1, .ref h3, .ref h4, .ref h5, .ref h6, .ref h7, .ref h8, .int 0, .int 0, .int 0, .null])), (h1, .inr (1, [.int 1, .ref h2, .int 0, .int (-1), .int 0, .int 0, .int (-1), .ref h9])), (h2, .inl (K 1, 200, .inl (fun _ => 0)))]) ∨ ((((((p0.toInt ≥ 0 ∧ p0.toInt < 1))))) ∧ r = 8 ∧ u = [(h0, .inr (0, [.ref h1, .ref h3, .ref h4, .ref h5, .ref h6, .ref h7, .ref h8, .int 0, .int 0, .int 0, .null])), (h1, .inr (1, [.int 1, .ref h2, .int 0, .int (-1), .int 0, .int 0, .int (-1), .ref h9])), (h2, .inl (K 1, 200, .inl (fun _ => 0)))])) (wB G (va_A [(h0, .inr (0, [.ref h1, .ref h3, .ref h4, .ref h5, .ref h6, .ref h7, .ref h8, .int 0, .int 0, .int 0, .null])), (h1, .inr (1, [.int 1, .ref h2, .int 0, .int (-1), .int 0, .int 0, .int (-1), .ref h9])), (h2, .inl (K 1, 200, .inl (fun _ => 0)))] sz)) (va_A [(h0, .inr (0, [.ref h1, .ref h3, .ref h4, .ref h5, .ref h6, .ref h7, .ref h8, .int 0, .int 0, .int 0, .null])), (h1, .inr (1, [.int 1, .ref h2, .int 0, .int (-1), .int 0, .int 0, .int (-1), .ref h9])), (h2, .inl (K 1, 200, .inl (fun _ => 0)))] sz)) 0 0 (va_A [(h0, .inr (0, [.ref h1, .ref h3, .ref h4, .ref h5, .ref h6, .ref h7, .ref h8, .int 0, .int 0, .int 0, .null])), (h1, .inr (1, [.int 1, .ref h2, .int 0, .int (-1), .int 0, .int 0, .int (-1), .ref h9])), (h2, .inl (K 1, 200, .inl (fun _ => 0)))] sz) := by
  refine Met.ofW (cc := cX8_againstOnFloor) (maxL := 4) (ret := (some .int)) (by decide) rfl ?_
  intro p e s m args below meth c s₁ B hml hv
  obtain ⟨rfl, hsz, hP, hK, hD0, hE⟩ := hv
  have hx := B.exec
  have hb := B.bytes
  have hr := B.returns
  have hts := atoms_spec (ws := v_X8_againstOnFloor_6) B.pre
  have t_ := t_X8_againstOnFloor_6
  have mw : ∀ w ∈ e_X8_againstOnFloor_6, w ∈ v_X8_againstOnFloor_6 := fun w h => List.mem_cons_of_mem _ (List.mem_append_left _ h)
  have hw := fun w (h : w ∈ e_X8_againstOnFloor_6) => hts w (mw w h)
  have j_X8_againstFloor_0 : ∀ w ∈ v_X8_againstFloor_0, w ∈ v_X8_againstOnFloor_6 := fun w h => List.mem_cons_of_mem _ (List.mem_append_right _ (List.mem_append_left _ h))
  have hown : s.vm.findClass RX8 = some m.cls := findClass_of_methodNamed B.named
  have hlocks := B.notSynchronized
  subst hsz
  have hD := hD0.self (sz := s.heap.size)
  generalize hAe : va_A [(h0, .inr (0, [.ref h1, .ref h3, .ref h4, .ref h5, .ref h6, .ref h7, .ref h8, .int 0, .int 0, .int 0, .null])), (h1, .inr (1, [.int 1, .ref h2, .int 0, .int (-1), .int 0, .int 0, .int (-1), .ref h9])), (h2, .inl (K 1, 200, .inl (fun _ => 0)))] s.heap.size = A at hD ⊢
  have hA : ∀ q : Nat, s.heap.size ≤ q → A q := fun q h => by rw [← hAe]; exact Or.inr h
  have hS : va_S A s.heap s.heap [] := va_S.rf
  have hP : va_P G vwCl [(h0, .inr (0, [.ref h1, .ref h3, .ref h4, .ref h5, .ref h6, .ref h7, .ref h8, .int 0, .int 0, .int 0, .null])), (h1, .inr (1, [.int 1, .ref h2, .int 0, .int (-1), .int 0, .int 0, .int (-1), .ref h9])), (h2, .inl (K 1, 200, .inl (fun _ => 0)))] s.heap := hP
  have hl := lv_entry ([.ref h0, .int 7, .int p0, .int 0]) (n := 4) (Nat.le_of_ble_eq_true rfl)
  rw [lg_entry_eq]
  generalize (lg_sl ([.ref h0, .int 7, .int p0, .int 0]) ++ List.replicate (4 - (lg_sl ([.ref h0, .int 7, .int p0, .int 0])).length) Slot.unset).toArray = ls at hl ⊢
  have hl : lv_has ls 4 [(0, .ref h0), (1, .int 7), (2, .int p0), (3, .int 0)] := hl
  refine lv_iload_n hx hb dX8_againstOnFloor_0 rfl (lv_at hl 1 rfl) ?_
  refine lv_tableIn (tgt := 151) hx hb dX8_againstOnFloor_1 (by decide) (by decide) (by decide) (by decide) ?_
  refine lv_aload_n hx hb dX8_againstOnFloor_151 rfl (lv_at hl 0 rfl) ?_
  refine lv_iload_n hx hb dX8_againstOnFloor_152 rfl (lv_at hl 2 rfl) ?_
  have hPc := hP.sub (ws' := [(h0, .inr (0, [.ref h1, .ref h3, .ref h4, .ref h5, .ref h6, .ref h7, .ref h8, .int 0, .int 0, .int 0, .null])), (h1, .inr (1, [.int 1, .ref h2, .int 0, .int (-1), .int 0, .int 0, .int (-1), .ref h9])), (h2, .inl (K 1, 200, .inl (fun _ => 0)))]) [0, 1, 2] rfl
  have hDc := hD.sub (ws' := [(h0, .inr (0, [.ref h1, .ref h3, .ref h4, .ref h5, .ref h6, .ref h7, .ref h8, .int 0, .int 0, .int 0, .null])), (h1, .inr (1, [.int 1, .ref h2, .int 0, .int (-1), .int 0, .int 0, .int (-1), .ref h9])), (h2, .inl (K 1, 200, .inl (fun _ => 0)))]) [0, 1, 2] (by decide) rfl
  refine wGoi (wc := [(h0, .inr (0, [.ref h1, .ref h3, .ref h4, .ref h5, .ref h6, .ref h7, .ref h8, .int 0, .int 0, .int 0, .null])), (h1, .inr (1, [.int 1, .ref h2, .int 0, .int (-1), .int 0, .int 0, .int (-1), .ref h9])), (h2, .inl (K 1, 200, .inl (fun _ => 0)))]) (wr := []) (va_runS (As := [.ref h0, .int p0]) (rest := []) ⟨hx, hb, hml, hown, hts⟩ (m_X8_againstFloor_0 l G K h0 h1 h2 h3 h4 h5 h6 h7 h8 h9 p0 _) (va_cwS 2 hts (wGS t_ (mw (.methodLink RX8 49 yX8_againstFloor) (List.mem_of_getElem? (i := 0) rfl)) (mw (.static yX8_againstFloor) (List.mem_of_getElem? (i := 1) rfl)) (mw (.initialized RX8) (List.mem_of_getElem? (i := 2) rfl)) j_X8_againstFloor_0) rfl rfl rfl (by decide +kernel) ⟨Nat.le_of_ble_eq_true rfl, Nat.le_of_ble_eq_true rfl⟩) (wPS hK hE hPc hDc) rfl rfl hl.1 rfl (lv_room (Nat.le_of_ble_eq_true rfl)) dX8_againstOnFloor_153 ⟨Nat.le_of_ble_eq_true rfl, Nat.le_of_ble_eq_true rfl⟩) hP hD hS hA [0, 1, 2] [] rfl rfl rfl (by decide) (fun r u H locs hw hP hD hS => ?_)
  rcases hw with ⟨c_w, rfl, rfl⟩ | ⟨c_w, rfl, rfl⟩
  · have c1 := c_w
    have hP : va_P G vwCl [(h0, .inr (0, [.ref h1, .ref h3, .ref h4, .ref h5, .ref h6, .ref h7, .ref h8, .int 0, .int 0, .int 0, .null])), (h1, .inr (1, [.int 1, .ref h2, .int 0, .int (-1), .int 0, .int 0, .int (-1), .ref h9])), (h2, .inl (K 1, 200, .inl (fun _ => 0)))] _ := hP
    have hD : va_D A [(h0, .inr (0, [.ref h1, .ref h3, .ref h4, .ref h5, .ref h6, .ref h7, .ref h8, .int 0, .int 0, .int 0, .null])), (h1, .inr (1, [.int 1, .ref h2, .int 0, .int (-1), .int 0, .int 0, .int (-1), .ref h9])), (h2, .inl (K 1, 200, .inl (fun _ => 0)))] := hD
    have hP9 : va_P G vwCl [(h0, .inr (0, [.ref h1, .ref h3, .ref h4, .ref h5, .ref h6, .ref h7, .ref h8, .int 0, .int 0, .int 0, .null])), (h1, .inr (1, [.int 1, .ref h2, .int 0, .int (-1), .int 0, .int 0, .int (-1), .ref h9])), (h2, .inl (K 1, 200, .inl (fun _ => 0)))] _ := hP
    have hD9 : va_D A [(h0, .inr (0, [.ref h1, .ref h3, .ref h4, .ref h5, .ref h6, .ref h7, .ref h8, .int 0, .int 0, .int 0, .null])), (h1, .inr (1, [.int 1, .ref h2, .int 0, .int (-1), .int 0, .int 0, .int (-1), .ref h9])), (h2, .inl (K 1, 200, .inl (fun _ => 0)))] := hD
    exact W.iret (v := 9) hx hb hr (fun t ht hW => ⟨⟨9, _, rfl, Or.inl ⟨(by first | omega | decide | simp), rfl, rfl⟩, by rw [ht]; exact hP9, hD9⟩, hS.F ht⟩) hS.2.2 dX8_againstOnFloor_156
  · have c2 := c_w
    have hP : va_P G vwCl [(h0, .inr (0, [.ref h1, .ref h3, .ref h4, .ref h5, .ref h6, .ref h7, .ref h8, .int 0, .int 0, .int 0, .null])), (h1, .inr (1, [.int 1, .ref h2, .int 0, .int (-1), .int 0, .int 0, .int (-1), .ref h9])), (h2, .inl (K 1, 200, .inl (fun _ => 0)))] _ := hP
    have hD : va_D A [(h0, .inr (0, [.ref h1, .ref h3, .ref h4, .ref h5, .ref h6, .ref h7, .ref h8, .int 0, .int 0, .int 0, .null])), (h1, .inr (1, [.int 1, .ref h2, .int 0, .int (-1), .int 0, .int 0, .int (-1), .ref h9])), (h2, .inl (K 1, 200, .inl (fun _ => 0)))] := hD
    obtain rfl : p0 = 0 := wIs (b := 0) (by decide) (by omega)
    have z_0 : (0 : Int32).toInt = 0 := by decide
    have hP9 : va_P G vwCl [(h0, .inr (0, [.ref h1, .ref h3, .ref h4, .ref h5, .ref h6, .ref h7, .ref h8, .int 0, .int 0, .int 0, .null])), (h1, .inr (1, [.int 1, .ref h2, .int 0, .int (-1), .int 0, .int 0, .int (-1), .ref h9])), (h2, .inl (K 1, 200, .inl (fun _ => 0)))] _ := hP
    have hD9 : va_D A [(h0, .inr (0, [.ref h1, .ref h3, .ref h4, .ref h5, .ref h6, .ref h7, .ref h8, .int 0, .int 0, .int 0, .null])), (h1, .inr (1, [.int 1, .ref h2, .int 0, .int (-1), .int 0, .int 0, .int (-1), .ref h9])), (h2, .inl (K 1, 200, .inl (fun _ => 0)))] := hD
    exact W.iret (v := 8) hx hb hr (fun t ht hW => ⟨⟨8, _, rfl, Or.inr (⟨(by first | omega | decide | simp), rfl, rfl⟩), by rw [ht]; exact hP9, hD9⟩, hS.F ht⟩) hS.2.2 dX8_againstOnFloor_156
def e_X8_against_6 : List Cond := [.methodLink RX8 9 yX8_againstOnFloor, .static yX8_againstOnFloor, .initialized RX8]
def v_X8_against_6 : List Cond := .code yX8_against cX8_against 7 (some .int) :: (e_X8_against_6 ++ (v_X8_againstOnFloor_6 ++ []))
theorem te_X8_against_6 : GoodIn lw_tbl e_X8_against_6 := wGc z169 (wGc z168 (wGc z157 (wG0)))
theorem t_X8_against_6 : GoodIn lw_tbl v_X8_against_6 := wGc z170 (wGa te_X8_against_6 (wGa t_X8_againstOnFloor_6 (wG0)))
set_option maxHeartbeats 4000000 in
set_option maxRecDepth 100000 in
theorem m_X8_against_6 (l : Launch) (G : va_G) (K : Nat → ClassId) (h0 h1 h2 h3 h4 h5 h6 h7 h8 h9 : Nat) (p0 : Int32) (sz : Nat) : Met l yX8_against v_X8_against_6 ({ frames := 4, cells := 0, slots := 0, locals := 89 }) (va_Pc [.ref h0, .int 7, .int p0, .int 0, .int 0, .int 0] (wS G K sz [(h0, .inr (0, [.ref h1, .ref h3, .ref h4, .ref h5, .ref h6, .ref h7, .ref h8, .int 0, .int 0, .int 0, .null])), (h1, .inr (1, [.int 1, .ref h2, .int 0, .int (-1), .int 0, .int 0, .int (-1), .ref h9])), (h2, .inl (K 1, 200, .inl (fun _ => 0)))])) (va_Qi (fun (r : Int32) (u : va_W) => ((((((p0.toInt < 0 ∨ (p0.toInt ≥ 0 ∧ p0.toInt ≥ 1)))))) ∧ r = 9 ∧ u = [(h0, .inr (0, [.ref h1, .ref h3, .ref h4, .ref h5, .ref h6, .ref h7, .ref h8, .int 0, .int 0, .int 0, .null])), (h1, .inr (1, [.int 1, .ref h2, .int 0, .int (-1), .int 0, .int 0, .int (-1), .ref h9])), (h2, .inl (K 1, 200, .inl (fun _ => 0)))]) ∨ (((((((p0.toInt ≥ 0 ∧ p0.toInt < 1)))))) ∧ r = 8 ∧ u = [(h0, .inr (0, [.ref h1, .ref h3, .ref h4, .ref h5, .ref h6, .ref h7, .ref h8, .int 0, .int 0, .int 0, .null])), (h1, .inr (1, [.int 1, .ref h2, .int 0, .int (-1), .int 0, .int 0, .int (-1), .ref h9])), (h2, .inl (K 1, 200, .inl (fun _ => 0)))])) (wB G (va_A [(h0, .inr (0, [.ref h1, .ref h3, .ref h4, .ref h5, .ref h6, .ref h7, .ref h8, .int 0, .int 0, .int 0, .null])), (h1, .inr (1, [.int 1, .ref h2, .int 0, .int (-1), .int 0, .int 0, .int (-1), .ref h9])), (h2, .inl (K 1, 200, .inl (fun _ => 0)))] sz)) (va_A [(h0, .inr (0, [.ref h1, .ref h3, .ref h4, .ref h5, .ref h6, .ref h7, .ref h8, .int 0, .int 0, .int 0, .null])), (h1, .inr (1, [.int 1, .ref h2, .int 0, .int (-1), .int 0, .int 0, .int (-1), .ref h9])), (h2, .inl (K 1, 200, .inl (fun _ => 0)))] sz)) 0 0 (va_A [(h0, .inr (0, [.ref h1, .ref h3, .ref h4, .ref h5, .ref h6, .ref h7, .ref h8, .int 0, .int 0, .int 0, .null])), (h1, .inr (1, [.int 1, .ref h2, .int 0, .int (-1), .int 0, .int 0, .int (-1), .ref h9])), (h2, .inl (K 1, 200, .inl (fun _ => 0)))] sz) := by
  refine Met.ofW (cc := cX8_against) (maxL := 7) (ret := (some .int)) (by decide) rfl ?_
  intro p e s m args below meth c s₁ B hml hv
  obtain ⟨rfl, hsz, hP, hK, hD0, hE⟩ := hv
  have hx := B.exec
  have hb := B.bytes
  have hr := B.returns
  have hts := atoms_spec (ws := v_X8_against_6) B.pre
  have t_ := t_X8_against_6
  have mw : ∀ w ∈ e_X8_against_6, w ∈ v_X8_against_6 := fun w h => List.mem_cons_of_mem _ (List.mem_append_left _ h)
  have hw := fun w (h : w ∈ e_X8_against_6) => hts w (mw w h)
  have j_X8_againstOnFloor_6 : ∀ w ∈ v_X8_againstOnFloor_6, w ∈ v_X8_against_6 := fun w h => List.mem_cons_of_mem _ (List.mem_append_right _ (List.mem_append_left _ h))
  have hown : s.vm.findClass RX8 = some m.cls := findClass_of_methodNamed B.named
  have hlocks := B.notSynchronized
  subst hsz
  have hD := hD0.self (sz := s.heap.size)
  generalize hAe : va_A [(h0, .inr (0, [.ref h1, .ref h3, .ref h4, .ref h5, .ref h6, .ref h7, .ref h8, .int 0, .int 0, .int 0, .null])), (h1, .inr (1, [.int 1, .ref h2, .int 0, .int (-1), .int 0, .int 0, .int (-1), .ref h9])), (h2, .inl (K 1, 200, .inl (fun _ => 0)))] s.heap.size = A at hD ⊢
  have hA : ∀ q : Nat, s.heap.size ≤ q → A q := fun q h => by rw [← hAe]; exact Or.inr h
  have hS : va_S A s.heap s.heap [] := va_S.rf
  have hP : va_P G vwCl [(h0, .inr (0, [.ref h1, .ref h3, .ref h4, .ref h5, .ref h6, .ref h7, .ref h8, .int 0, .int 0, .int 0, .null])), (h1, .inr (1, [.int 1, .ref h2, .int 0, .int (-1), .int 0, .int 0, .int (-1), .ref h9])), (h2, .inl (K 1, 200, .inl (fun _ => 0)))] s.heap := hP
  have hl := lv_entry ([.ref h0, .int 7, .int p0, .int 0, .int 0, .int 0]) (n := 7) (Nat.le_of_ble_eq_true rfl)
  rw [lg_entry_eq]
  generalize (lg_sl ([.ref h0, .int 7, .int p0, .int 0, .int 0, .int 0]) ++ List.replicate (7 - (lg_sl ([.ref h0, .int 7, .int p0, .int 0, .int 0, .int 0])).length) Slot.unset).toArray = ls at hl ⊢
  have hl : lv_has ls 7 [(0, .ref h0), (1, .int 7), (2, .int p0), (3, .int 0), (4, .int 0), (5, .int 0)] := hl
  refine lv_iload_n hx hb dX8_against_0 rfl (lv_at hl 1 rfl) ?_
  refine lv_bipush (v := 9) hx hb dX8_against_1 (by decide) ?_
  refine lv_icmp_gt (tgt := 18) hx hb dX8_against_3 (by decide) (fun c_ => absurd c_ (by decide)) (fun _ => ?_)
  refine lv_aload_n hx hb dX8_against_6 rfl (lv_at hl 0 rfl) ?_
  refine lv_iload_n hx hb dX8_against_7 rfl (lv_at hl 1 rfl) ?_
  refine lv_iload_n hx hb dX8_against_8 rfl (lv_at hl 2 rfl) ?_
  refine lv_iload_n hx hb dX8_against_9 rfl (lv_at hl 3 rfl) ?_
  have hPc := hP.sub (ws' := [(h0, .inr (0, [.ref h1, .ref h3, .ref h4, .ref h5, .ref h6, .ref h7, .ref h8, .int 0, .int 0, .int 0, .null])), (h1, .inr (1, [.int 1, .ref h2, .int 0, .int (-1), .int 0, .int 0, .int (-1), .ref h9])), (h2, .inl (K 1, 200, .inl (fun _ => 0)))]) [0, 1, 2] rfl
  have hDc := hD.sub (ws' := [(h0, .inr (0, [.ref h1, .ref h3, .ref h4, .ref h5, .ref h6, .ref h7, .ref h8, .int 0, .int 0, .int 0, .null])), (h1, .inr (1, [.int 1, .ref h2, .int 0, .int (-1), .int 0, .int 0, .int (-1), .ref h9])), (h2, .inl (K 1, 200, .inl (fun _ => 0)))]) [0, 1, 2] (by decide) rfl
  refine wGoi (wc := [(h0, .inr (0, [.ref h1, .ref h3, .ref h4, .ref h5, .ref h6, .ref h7, .ref h8, .int 0, .int 0, .int 0, .null])), (h1, .inr (1, [.int 1, .ref h2, .int 0, .int (-1), .int 0, .int 0, .int (-1), .ref h9])), (h2, .inl (K 1, 200, .inl (fun _ => 0)))]) (wr := []) (va_runS (As := [.ref h0, .int 7, .int p0, .int 0]) (rest := []) ⟨hx, hb, hml, hown, hts⟩ (m_X8_againstOnFloor_6 l G K h0 h1 h2 h3 h4 h5 h6 h7 h8 h9 p0 _) (va_cwS 4 hts (wGS t_ (mw (.methodLink RX8 9 yX8_againstOnFloor) (List.mem_of_getElem? (i := 0) rfl)) (mw (.static yX8_againstOnFloor) (List.mem_of_getElem? (i := 1) rfl)) (mw (.initialized RX8) (List.mem_of_getElem? (i := 2) rfl)) j_X8_againstOnFloor_6) rfl rfl rfl (by decide +kernel) ⟨Nat.le_of_ble_eq_true rfl, Nat.le_of_ble_eq_true rfl⟩) (wPS hK hE hPc hDc) rfl rfl hl.1 rfl (lv_room (Nat.le_of_ble_eq_true rfl)) dX8_against_10 ⟨Nat.le_of_ble_eq_true rfl, Nat.le_of_ble_eq_true rfl⟩) hP hD hS hA [0, 1, 2] [] rfl rfl rfl (by decide) (fun r u H locs hw hP hD hS => ?_)
  rcases hw with ⟨c_w, rfl, rfl⟩ | ⟨c_w, rfl, rfl⟩
  · have c1 := c_w
    have hP : va_P G vwCl [(h0, .inr (0, [.ref h1, .ref h3, .ref h4, .ref h5, .ref h6, .ref h7, .ref h8, .int 0, .int 0, .int 0, .null])), (h1, .inr (1, [.int 1, .ref h2, .int 0, .int (-1), .int 0, .int 0, .int (-1), .ref h9])), (h2, .inl (K 1, 200, .inl (fun _ => 0)))] _ := hP
    have hD : va_D A [(h0, .inr (0, [.ref h1, .ref h3, .ref h4, .ref h5, .ref h6, .ref h7, .ref h8, .int 0, .int 0, .int 0, .null])), (h1, .inr (1, [.int 1, .ref h2, .int 0, .int (-1), .int 0, .int 0, .int (-1), .ref h9])), (h2, .inl (K 1, 200, .inl (fun _ => 0)))] := hD
    refine lv_istore (lv' := [(6, .int 9), (0, .ref h0), (1, .int 7), (2, .int p0), (3, .int 0), (4, .int 0), (5, .int 0)]) hx hb dX8_against_13 hl (by decide) rfl (fun ls hl => ?_)
    refine lv_goto (tgt := 49) hx hb dX8_against_15 (by decide) ?_
    refine lv_iload hx hb dX8_against_49 (lv_at hl 0 rfl) ?_
    refine lv_if_ne (tgt := 69) hx hb dX8_against_51 (by decide) (fun _ => ?_) (fun c_ => absurd c_ (by decide))
    refine lv_iload hx hb dX8_against_69 (lv_at hl 0 rfl) ?_
    have hP9 : va_P G vwCl [(h0, .inr (0, [.ref h1, .ref h3, .ref h4, .ref h5, .ref h6, .ref h7, .ref h8, .int 0, .int 0, .int 0, .null])), (h1, .inr (1, [.int 1, .ref h2, .int 0, .int (-1), .int 0, .int 0, .int (-1), .ref h9])), (h2, .inl (K 1, 200, .inl (fun _ => 0)))] _ := hP
    have hD9 : va_D A [(h0, .inr (0, [.ref h1, .ref h3, .ref h4, .ref h5, .ref h6, .ref h7, .ref h8, .int 0, .int 0, .int 0, .null])), (h1, .inr (1, [.int 1, .ref h2, .int 0, .int (-1), .int 0, .int 0, .int (-1), .ref h9])), (h2, .inl (K 1, 200, .inl (fun _ => 0)))] := hD
    exact W.iret (v := 9) hx hb hr (fun t ht hW => ⟨⟨9, _, rfl, Or.inl ⟨(by first | omega | decide | simp), rfl, rfl⟩, by rw [ht]; exact hP9, hD9⟩, hS.F ht⟩) hS.2.2 dX8_against_71
  · have c2 := c_w
    have hP : va_P G vwCl [(h0, .inr (0, [.ref h1, .ref h3, .ref h4, .ref h5, .ref h6, .ref h7, .ref h8, .int 0, .int 0, .int 0, .null])), (h1, .inr (1, [.int 1, .ref h2, .int 0, .int (-1), .int 0, .int 0, .int (-1), .ref h9])), (h2, .inl (K 1, 200, .inl (fun _ => 0)))] _ := hP
    have hD : va_D A [(h0, .inr (0, [.ref h1, .ref h3, .ref h4, .ref h5, .ref h6, .ref h7, .ref h8, .int 0, .int 0, .int 0, .null])), (h1, .inr (1, [.int 1, .ref h2, .int 0, .int (-1), .int 0, .int 0, .int (-1), .ref h9])), (h2, .inl (K 1, 200, .inl (fun _ => 0)))] := hD
    obtain rfl : p0 = 0 := wIs (b := 0) (by decide) (by omega)
    have z_0 : (0 : Int32).toInt = 0 := by decide
    refine lv_istore (lv' := [(6, .int 8), (0, .ref h0), (1, .int 7), (2, .int 0), (3, .int 0), (4, .int 0), (5, .int 0)]) hx hb dX8_against_13 hl (by decide) rfl (fun ls hl => ?_)
    refine lv_goto (tgt := 49) hx hb dX8_against_15 (by decide) ?_
    refine lv_iload hx hb dX8_against_49 (lv_at hl 0 rfl) ?_
    refine lv_if_ne (tgt := 69) hx hb dX8_against_51 (by decide) (fun _ => ?_) (fun c_ => absurd c_ (by decide))
    refine lv_iload hx hb dX8_against_69 (lv_at hl 0 rfl) ?_
    have hP9 : va_P G vwCl [(h0, .inr (0, [.ref h1, .ref h3, .ref h4, .ref h5, .ref h6, .ref h7, .ref h8, .int 0, .int 0, .int 0, .null])), (h1, .inr (1, [.int 1, .ref h2, .int 0, .int (-1), .int 0, .int 0, .int (-1), .ref h9])), (h2, .inl (K 1, 200, .inl (fun _ => 0)))] _ := hP
    have hD9 : va_D A [(h0, .inr (0, [.ref h1, .ref h3, .ref h4, .ref h5, .ref h6, .ref h7, .ref h8, .int 0, .int 0, .int 0, .null])), (h1, .inr (1, [.int 1, .ref h2, .int 0, .int (-1), .int 0, .int 0, .int (-1), .ref h9])), (h2, .inl (K 1, 200, .inl (fun _ => 0)))] := hD
    exact W.iret (v := 8) hx hb hr (fun t ht hW => ⟨⟨8, _, rfl, Or.inr (⟨(by first | omega | decide | simp), rfl, rfl⟩), by rw [ht]; exact hP9, hD9⟩, hS.F ht⟩) hS.2.2 dX8_against_71
def e_X0_enact_6 : List Cond := [.methodLink RX0 155 yX8_against, .static yX8_against, .initialized RX8, .fieldLink RX0 73 "MotionFloor$Assembly" "reason" "I"]
def v_X0_enact_6 : List Cond := .code yX0_enact cX0_enact 7 (some .int) :: (e_X0_enact_6 ++ (wsX00 ++ (v_X8_against_6 ++ [])))
theorem te_X0_enact_6 : GoodIn lw_tbl e_X0_enact_6 := wGc z205 (wGc z204 (wGc z157 (wGc z135 (wG0))))
theorem t_X0_enact_6 : GoodIn lw_tbl v_X0_enact_6 := wGc z206 (wGa te_X0_enact_6 (wGa zcX0 (wGa t_X8_against_6 (wG0))))
set_option maxHeartbeats 4000000 in
set_option maxRecDepth 100000 in
theorem m_X0_enact_6 (l : Launch) (G : va_G) (K : Nat → ClassId) (h0 h1 h2 h3 h4 h5 h6 h7 h8 h9 : Nat) (p0 : Int32) (sz : Nat) : Met l yX0_enact v_X0_enact_6 ({ frames := 5, cells := 0, slots := 0, locals := 115 }) (va_Pc [.ref h0, .int 7, .int p0, .int 0, .int 0, .int 0] (wS G K sz [(h0, .inr (0, [.ref h1, .ref h3, .ref h4, .ref h5, .ref h6, .ref h7, .ref h8, .int 0, .int 0, .int 0, .null])), (h1, .inr (1, [.int 1, .ref h2, .int 0, .int (-1), .int 0, .int 0, .int (-1), .ref h9])), (h2, .inl (K 1, 200, .inl (fun _ => 0)))])) (va_Qi (fun (r : Int32) (u : va_W) => (((((((p0.toInt < 0 ∨ (p0.toInt ≥ 0 ∧ p0.toInt ≥ 1))))))) ∧ r = (-9) ∧ u = [(h0, .inr (0, [.ref h1, .ref h3, .ref h4, .ref h5, .ref h6, .ref h7, .ref h8, .int 0, .int 0, .int 9, .null])), (h1, .inr (1, [.int 1, .ref h2, .int 0, .int (-1), .int 0, .int 0, .int (-1), .ref h9])), (h2, .inl (K 1, 200, .inl (fun _ => 0)))]) ∨ ((((((((p0.toInt ≥ 0 ∧ p0.toInt < 1))))))) ∧ r = (-8) ∧ u = [(h0, .inr (0, [.ref h1, .ref h3, .ref h4, .ref h5, .ref h6, .ref h7, .ref h8, .int 0, .int 0, .int 8, .null])), (h1, .inr (1, [.int 1, .ref h2, .int 0, .int (-1), .int 0, .int 0, .int (-1), .ref h9])), (h2, .inl (K 1, 200, .inl (fun _ => 0)))])) (wB G (va_A [(h0, .inr (0, [.ref h1, .ref h3, .ref h4, .ref h5, .ref h6, .ref h7, .ref h8, .int 0, .int 0, .int 0, .null])), (h1, .inr (1, [.int 1, .ref h2, .int 0, .int (-1), .int 0, .int 0, .int (-1), .ref h9])), (h2, .inl (K 1, 200, .inl (fun _ => 0)))] sz)) (va_A [(h0, .inr (0, [.ref h1, .ref h3, .ref h4, .ref h5, .ref h6, .ref h7, .ref h8, .int 0, .int 0, .int 0, .null])), (h1, .inr (1, [.int 1, .ref h2, .int 0, .int (-1), .int 0, .int 0, .int (-1), .ref h9])), (h2, .inl (K 1, 200, .inl (fun _ => 0)))] sz)) 0 0 (va_A [(h0, .inr (0, [.ref h1, .ref h3, .ref h4, .ref h5, .ref h6, .ref h7, .ref h8, .int 0, .int 0, .int 0, .null])), (h1, .inr (1, [.int 1, .ref h2, .int 0, .int (-1), .int 0, .int 0, .int (-1), .ref h9])), (h2, .inl (K 1, 200, .inl (fun _ => 0)))] sz) := by
  refine Met.ofW (cc := cX0_enact) (maxL := 7) (ret := (some .int)) (by decide) rfl ?_
  intro p e s m args below meth c s₁ B hml hv
  obtain ⟨rfl, hsz, hP, hK, hD0, hE⟩ := hv
  have hx := B.exec
  have hb := B.bytes
  have hr := B.returns
  have hts := atoms_spec (ws := v_X0_enact_6) B.pre
  have t_ := t_X0_enact_6
  have mw : ∀ w ∈ e_X0_enact_6, w ∈ v_X0_enact_6 := fun w h => List.mem_cons_of_mem _ (List.mem_append_left _ h)
  have hw := fun w (h : w ∈ e_X0_enact_6) => hts w (mw w h)
  have iX0 : ∀ w ∈ wsX00, w ∈ v_X0_enact_6 := fun w h => List.mem_cons_of_mem _ (List.mem_append_right _ (List.mem_append_left _ h))
  have j_X8_against_6 : ∀ w ∈ v_X8_against_6, w ∈ v_X0_enact_6 := fun w h => List.mem_cons_of_mem _ (List.mem_append_right _ (List.mem_append_right _ (List.mem_append_left _ h)))
  have hown : s.vm.findClass RX0 = some m.cls := findClass_of_methodNamed B.named
  have hlocks := B.notSynchronized
  subst hsz
  have hD := hD0.self (sz := s.heap.size)
  generalize hAe : va_A [(h0, .inr (0, [.ref h1, .ref h3, .ref h4, .ref h5, .ref h6, .ref h7, .ref h8, .int 0, .int 0, .int 0, .null])), (h1, .inr (1, [.int 1, .ref h2, .int 0, .int (-1), .int 0, .int 0, .int (-1), .ref h9])), (h2, .inl (K 1, 200, .inl (fun _ => 0)))] s.heap.size = A at hD ⊢
  have hA : ∀ q : Nat, s.heap.size ≤ q → A q := fun q h => by rw [← hAe]; exact Or.inr h
  have hS : va_S A s.heap s.heap [] := va_S.rf
  have hP : va_P G vwCl [(h0, .inr (0, [.ref h1, .ref h3, .ref h4, .ref h5, .ref h6, .ref h7, .ref h8, .int 0, .int 0, .int 0, .null])), (h1, .inr (1, [.int 1, .ref h2, .int 0, .int (-1), .int 0, .int 0, .int (-1), .ref h9])), (h2, .inl (K 1, 200, .inl (fun _ => 0)))] s.heap := hP
  have hl := lv_entry ([.ref h0, .int 7, .int p0, .int 0, .int 0, .int 0]) (n := 7) (Nat.le_of_ble_eq_true rfl)
  rw [lg_entry_eq]
  generalize (lg_sl ([.ref h0, .int 7, .int p0, .int 0, .int 0, .int 0]) ++ List.replicate (7 - (lg_sl ([.ref h0, .int 7, .int p0, .int 0, .int 0, .int 0])).length) Slot.unset).toArray = ls at hl ⊢
  have hl : lv_has ls 7 [(0, .ref h0), (1, .int 7), (2, .int p0), (3, .int 0), (4, .int 0), (5, .int 0)] := hl
  refine lv_aload_n hx hb dX0_enact_0 rfl (lv_at hl 0 rfl) ?_
  refine lv_aload_n hx hb dX0_enact_1 rfl (lv_at hl 0 rfl) ?_
  refine lv_iload_n hx hb dX0_enact_2 rfl (lv_at hl 1 rfl) ?_
  refine lv_iload_n hx hb dX0_enact_3 rfl (lv_at hl 2 rfl) ?_
  refine lv_iload_n hx hb dX0_enact_4 rfl (lv_at hl 3 rfl) ?_
  refine lv_iload hx hb dX0_enact_5 (lv_at hl 4 rfl) ?_
  refine lv_iload hx hb dX0_enact_7 (lv_at hl 5 rfl) ?_
  have hPc := hP.sub (ws' := [(h0, .inr (0, [.ref h1, .ref h3, .ref h4, .ref h5, .ref h6, .ref h7, .ref h8, .int 0, .int 0, .int 0, .null])), (h1, .inr (1, [.int 1, .ref h2, .int 0, .int (-1), .int 0, .int 0, .int (-1), .ref h9])), (h2, .inl (K 1, 200, .inl (fun _ => 0)))]) [0, 1, 2] rfl
  have hDc := hD.sub (ws' := [(h0, .inr (0, [.ref h1, .ref h3, .ref h4, .ref h5, .ref h6, .ref h7, .ref h8, .int 0, .int 0, .int 0, .null])), (h1, .inr (1, [.int 1, .ref h2, .int 0, .int (-1), .int 0, .int 0, .int (-1), .ref h9])), (h2, .inl (K 1, 200, .inl (fun _ => 0)))]) [0, 1, 2] (by decide) rfl
  refine wGoi (wc := [(h0, .inr (0, [.ref h1, .ref h3, .ref h4, .ref h5, .ref h6, .ref h7, .ref h8, .int 0, .int 0, .int 0, .null])), (h1, .inr (1, [.int 1, .ref h2, .int 0, .int (-1), .int 0, .int 0, .int (-1), .ref h9])), (h2, .inl (K 1, 200, .inl (fun _ => 0)))]) (wr := []) (va_runS (As := [.ref h0, .int 7, .int p0, .int 0, .int 0, .int 0]) (rest := [.ref h0]) ⟨hx, hb, hml, hown, hts⟩ (m_X8_against_6 l G K h0 h1 h2 h3 h4 h5 h6 h7 h8 h9 p0 _) (va_cwS 6 hts (wGS t_ (mw (.methodLink RX0 155 yX8_against) (List.mem_of_getElem? (i := 0) rfl)) (mw (.static yX8_against) (List.mem_of_getElem? (i := 1) rfl)) (mw (.initialized RX8) (List.mem_of_getElem? (i := 2) rfl)) j_X8_against_6) rfl rfl rfl (by decide +kernel) ⟨Nat.le_of_ble_eq_true rfl, Nat.le_of_ble_eq_true rfl⟩) (wPS hK hE hPc hDc) rfl rfl hl.1 rfl (lv_room (Nat.le_of_ble_eq_true rfl)) dX0_enact_9 ⟨Nat.le_of_ble_eq_true rfl, Nat.le_of_ble_eq_true rfl⟩) hP hD hS hA [0, 1, 2] [] rfl rfl rfl (by decide) (fun r u H locs hw hP hD hS => ?_)
  rcases hw with ⟨c_w, rfl, rfl⟩ | ⟨c_w, rfl, rfl⟩
  · have c1 := c_w
    have hP : va_P G vwCl [(h0, .inr (0, [.ref h1, .ref h3, .ref h4, .ref h5, .ref h6, .ref h7, .ref h8, .int 0, .int 0, .int 0, .null])), (h1, .inr (1, [.int 1, .ref h2, .int 0, .int (-1), .int 0, .int 0, .int (-1), .ref h9])), (h2, .inl (K 1, 200, .inl (fun _ => 0)))] _ := hP
    have hD : va_D A [(h0, .inr (0, [.ref h1, .ref h3, .ref h4, .ref h5, .ref h6, .ref h7, .ref h8, .int 0, .int 0, .int 0, .null])), (h1, .inr (1, [.int 1, .ref h2, .int 0, .int (-1), .int 0, .int 0, .int (-1), .ref h9])), (h2, .inl (K 1, 200, .inl (fun _ => 0)))] := hD
    refine va_put (D := G) (ci := 0) (v := .int 9) (ty := .int) (C := RX0) (T := TX0) (N := 11) hx hb hts iX0 tyX0 tyX0_ok nmX0 hown hK hP hD hS 0 rfl rfl 9 (by decide) (hw (.fieldLink RX0 73 "MotionFloor$Assembly" "reason" "I") (List.mem_of_getElem? (i := 3) rfl)) (fun _ h9 => h9) rfl (by decide +kernel) rfl rfl (Nat.le_of_ble_eq_true rfl) dX0_enact_12 (fun H locs hP hD hS => ?_)
    have hP : va_P G vwCl [(h0, .inr (0, [.ref h1, .ref h3, .ref h4, .ref h5, .ref h6, .ref h7, .ref h8, .int 0, .int 0, .int 9, .null])), (h1, .inr (1, [.int 1, .ref h2, .int 0, .int (-1), .int 0, .int 0, .int (-1), .ref h9])), (h2, .inl (K 1, 200, .inl (fun _ => 0)))] _ := hP
    have hD : va_D A [(h0, .inr (0, [.ref h1, .ref h3, .ref h4, .ref h5, .ref h6, .ref h7, .ref h8, .int 0, .int 0, .int 9, .null])), (h1, .inr (1, [.int 1, .ref h2, .int 0, .int (-1), .int 0, .int 0, .int (-1), .ref h9])), (h2, .inl (K 1, 200, .inl (fun _ => 0)))] := hD
    refine lv_aload_n hx hb dX0_enact_15 rfl (lv_at hl 0 rfl) ?_
    refine va_get (D := G) (ci := 0) (v := .int 9) (C := RX0) (T := TX0) (N := 11) hx hb hts iX0 hown hK hP 0 rfl rfl 9 (by decide) (hw (.fieldLink RX0 73 "MotionFloor$Assembly" "reason" "I") (List.mem_of_getElem? (i := 3) rfl)) (fun _ h9 => h9) rfl dX0_enact_16 ?_
    refine lv_if_eq (tgt := 28) hx hb dX0_enact_19 (by decide) (fun c_ => absurd c_ (by decide)) (fun _ => ?_)
    refine lv_aload_n hx hb dX0_enact_22 rfl (lv_at hl 0 rfl) ?_
    refine va_get (D := G) (ci := 0) (v := .int 9) (C := RX0) (T := TX0) (N := 11) hx hb hts iX0 hown hK hP 0 rfl rfl 9 (by decide) (hw (.fieldLink RX0 73 "MotionFloor$Assembly" "reason" "I") (List.mem_of_getElem? (i := 3) rfl)) (fun _ h9 => h9) rfl dX0_enact_23 ?_
    refine lv_ineg hx hb dX0_enact_26 ?_
    refine wTop (v1 := .int (-9)) (congrArg Value.int (by decide)) ?_
    have hP9 : va_P G vwCl [(h0, .inr (0, [.ref h1, .ref h3, .ref h4, .ref h5, .ref h6, .ref h7, .ref h8, .int 0, .int 0, .int 9, .null])), (h1, .inr (1, [.int 1, .ref h2, .int 0, .int (-1), .int 0, .int 0, .int (-1), .ref h9])), (h2, .inl (K 1, 200, .inl (fun _ => 0)))] _ := hP
    have hD9 : va_D A [(h0, .inr (0, [.ref h1, .ref h3, .ref h4, .ref h5, .ref h6, .ref h7, .ref h8, .int 0, .int 0, .int 9, .null])), (h1, .inr (1, [.int 1, .ref h2, .int 0, .int (-1), .int 0, .int 0, .int (-1), .ref h9])), (h2, .inl (K 1, 200, .inl (fun _ => 0)))] := hD
    exact W.iret (v := (-9)) hx hb hr (fun t ht hW => ⟨⟨(-9), _, rfl, Or.inl ⟨(by first | omega | decide | simp), rfl, rfl⟩, by rw [ht]; exact hP9, hD9⟩, hS.F ht⟩) hS.2.2 dX0_enact_27
  · have c2 := c_w
    have hP : va_P G vwCl [(h0, .inr (0, [.ref h1, .ref h3, .ref h4, .ref h5, .ref h6, .ref h7, .ref h8, .int 0, .int 0, .int 0, .null])), (h1, .inr (1, [.int 1, .ref h2, .int 0, .int (-1), .int 0, .int 0, .int (-1), .ref h9])), (h2, .inl (K 1, 200, .inl (fun _ => 0)))] _ := hP
    have hD : va_D A [(h0, .inr (0, [.ref h1, .ref h3, .ref h4, .ref h5, .ref h6, .ref h7, .ref h8, .int 0, .int 0, .int 0, .null])), (h1, .inr (1, [.int 1, .ref h2, .int 0, .int (-1), .int 0, .int 0, .int (-1), .ref h9])), (h2, .inl (K 1, 200, .inl (fun _ => 0)))] := hD
    obtain rfl : p0 = 0 := wIs (b := 0) (by decide) (by omega)
    have z_0 : (0 : Int32).toInt = 0 := by decide
    refine va_put (D := G) (ci := 0) (v := .int 8) (ty := .int) (C := RX0) (T := TX0) (N := 11) hx hb hts iX0 tyX0 tyX0_ok nmX0 hown hK hP hD hS 0 rfl rfl 9 (by decide) (hw (.fieldLink RX0 73 "MotionFloor$Assembly" "reason" "I") (List.mem_of_getElem? (i := 3) rfl)) (fun _ h9 => h9) rfl (by decide +kernel) rfl rfl (Nat.le_of_ble_eq_true rfl) dX0_enact_12 (fun H locs hP hD hS => ?_)
    have hP : va_P G vwCl [(h0, .inr (0, [.ref h1, .ref h3, .ref h4, .ref h5, .ref h6, .ref h7, .ref h8, .int 0, .int 0, .int 8, .null])), (h1, .inr (1, [.int 1, .ref h2, .int 0, .int (-1), .int 0, .int 0, .int (-1), .ref h9])), (h2, .inl (K 1, 200, .inl (fun _ => 0)))] _ := hP
    have hD : va_D A [(h0, .inr (0, [.ref h1, .ref h3, .ref h4, .ref h5, .ref h6, .ref h7, .ref h8, .int 0, .int 0, .int 8, .null])), (h1, .inr (1, [.int 1, .ref h2, .int 0, .int (-1), .int 0, .int 0, .int (-1), .ref h9])), (h2, .inl (K 1, 200, .inl (fun _ => 0)))] := hD
    refine lv_aload_n hx hb dX0_enact_15 rfl (lv_at hl 0 rfl) ?_
    refine va_get (D := G) (ci := 0) (v := .int 8) (C := RX0) (T := TX0) (N := 11) hx hb hts iX0 hown hK hP 0 rfl rfl 9 (by decide) (hw (.fieldLink RX0 73 "MotionFloor$Assembly" "reason" "I") (List.mem_of_getElem? (i := 3) rfl)) (fun _ h9 => h9) rfl dX0_enact_16 ?_
    refine lv_if_eq (tgt := 28) hx hb dX0_enact_19 (by decide) (fun c_ => absurd c_ (by decide)) (fun _ => ?_)
    refine lv_aload_n hx hb dX0_enact_22 rfl (lv_at hl 0 rfl) ?_
    refine va_get (D := G) (ci := 0) (v := .int 8) (C := RX0) (T := TX0) (N := 11) hx hb hts iX0 hown hK hP 0 rfl rfl 9 (by decide) (hw (.fieldLink RX0 73 "MotionFloor$Assembly" "reason" "I") (List.mem_of_getElem? (i := 3) rfl)) (fun _ h9 => h9) rfl dX0_enact_23 ?_
    refine lv_ineg hx hb dX0_enact_26 ?_
    refine wTop (v1 := .int (-8)) (congrArg Value.int (by decide)) ?_
    have hP9 : va_P G vwCl [(h0, .inr (0, [.ref h1, .ref h3, .ref h4, .ref h5, .ref h6, .ref h7, .ref h8, .int 0, .int 0, .int 8, .null])), (h1, .inr (1, [.int 1, .ref h2, .int 0, .int (-1), .int 0, .int 0, .int (-1), .ref h9])), (h2, .inl (K 1, 200, .inl (fun _ => 0)))] _ := hP
    have hD9 : va_D A [(h0, .inr (0, [.ref h1, .ref h3, .ref h4, .ref h5, .ref h6, .ref h7, .ref h8, .int 0, .int 0, .int 8, .null])), (h1, .inr (1, [.int 1, .ref h2, .int 0, .int (-1), .int 0, .int 0, .int (-1), .ref h9])), (h2, .inl (K 1, 200, .inl (fun _ => 0)))] := hD
    exact W.iret (v := (-8)) hx hb hr (fun t ht hW => ⟨⟨(-8), _, rfl, Or.inr (⟨(by first | omega | decide | simp), rfl, rfl⟩), by rw [ht]; exact hP9, hD9⟩, hS.F ht⟩) hS.2.2 dX0_enact_27
def e_X10_floor_0 : List Cond := [.fieldLink RX10 10 "MotionFloor" "now" "LMotionFloor$Assembly;", .methodLink RX10 32 yX0_enact, .instanceMethod yX0_enact, .selects RX0 yX0_enact yX0_enact, .initialized RX0]
def v_X10_floor_0 : List Cond := .code yX10_floor cX10_floor 2 (some .int) :: (e_X10_floor_0 ++ (wsX100 ++ (v_X0_enact_6 ++ [])))
theorem te_X10_floor_0 : GoodIn lw_tbl e_X10_floor_0 := wGc z115 (wGc z209 (wGc z208 (wGc z207 (wGc z118 (wG0)))))
theorem t_X10_floor_0 : GoodIn lw_tbl v_X10_floor_0 := wGc z233 (wGa te_X10_floor_0 (wGa zcX10 (wGa t_X0_enact_6 (wG0))))
set_option maxHeartbeats 4000000 in
set_option maxRecDepth 100000 in
theorem m_X10_floor_0 (l : Launch) (G : va_G) (K : Nat → ClassId) (h0 h1 h2 h3 h4 h5 h6 h7 h8 h9 h10 h11 h12 : Nat) (p0 : Int32) (sz : Nat) : Met l yX10_floor v_X10_floor_0 ({ frames := 6, cells := 0, slots := 0, locals := 141 }) (va_Pc [.ref h0, .int p0] (wS G K sz [(h0, .inr (7, [.ref h1, .ref h4, .null, .null, .ref h5])), (h1, .inr (0, [.ref h2, .ref h6, .ref h7, .ref h8, .ref h9, .ref h10, .ref h11, .int 0, .int 0, .int 0, .null])), (h2, .inr (1, [.int 1, .ref h3, .int 0, .int (-1), .int 0, .int 0, .int (-1), .ref h12])), (h3, .inl (K 1, 200, .inl (fun _ => 0)))])) (va_Qi (fun (r : Int32) (u : va_W) => ((((((((p0.toInt < 0 ∨ (p0.toInt ≥ 0 ∧ p0.toInt ≥ 1)))))))) ∧ r = (-9) ∧ u = [(h0, .inr (7, [.ref h1, .ref h4, .null, .null, .ref h5])), (h1, .inr (0, [.ref h2, .ref h6, .ref h7, .ref h8, .ref h9, .ref h10, .ref h11, .int 0, .int 0, .int 9, .null])), (h2, .inr (1, [.int 1, .ref h3, .int 0, .int (-1), .int 0, .int 0, .int (-1), .ref h12])), (h3, .inl (K 1, 200, .inl (fun _ => 0)))]) ∨ (((((((((p0.toInt ≥ 0 ∧ p0.toInt < 1)))))))) ∧ r = (-8) ∧ u = [(h0, .inr (7, [.ref h1, .ref h4, .null, .null, .ref h5])), (h1, .inr (0, [.ref h2, .ref h6, .ref h7, .ref h8, .ref h9, .ref h10, .ref h11, .int 0, .int 0, .int 8, .null])), (h2, .inr (1, [.int 1, .ref h3, .int 0, .int (-1), .int 0, .int 0, .int (-1), .ref h12])), (h3, .inl (K 1, 200, .inl (fun _ => 0)))])) (wB G (va_A [(h0, .inr (7, [.ref h1, .ref h4, .null, .null, .ref h5])), (h1, .inr (0, [.ref h2, .ref h6, .ref h7, .ref h8, .ref h9, .ref h10, .ref h11, .int 0, .int 0, .int 0, .null])), (h2, .inr (1, [.int 1, .ref h3, .int 0, .int (-1), .int 0, .int 0, .int (-1), .ref h12])), (h3, .inl (K 1, 200, .inl (fun _ => 0)))] sz)) (va_A [(h0, .inr (7, [.ref h1, .ref h4, .null, .null, .ref h5])), (h1, .inr (0, [.ref h2, .ref h6, .ref h7, .ref h8, .ref h9, .ref h10, .ref h11, .int 0, .int 0, .int 0, .null])), (h2, .inr (1, [.int 1, .ref h3, .int 0, .int (-1), .int 0, .int 0, .int (-1), .ref h12])), (h3, .inl (K 1, 200, .inl (fun _ => 0)))] sz)) 0 0 (va_A [(h0, .inr (7, [.ref h1, .ref h4, .null, .null, .ref h5])), (h1, .inr (0, [.ref h2, .ref h6, .ref h7, .ref h8, .ref h9, .ref h10, .ref h11, .int 0, .int 0, .int 0, .null])), (h2, .inr (1, [.int 1, .ref h3, .int 0, .int (-1), .int 0, .int 0, .int (-1), .ref h12])), (h3, .inl (K 1, 200, .inl (fun _ => 0)))] sz) := by
  refine Met.ofW (cc := cX10_floor) (maxL := 2) (ret := (some .int)) (by decide) rfl ?_
  intro p e s m args below meth c s₁ B hml hv
  obtain ⟨rfl, hsz, hP, hK, hD0, hE⟩ := hv
  have hx := B.exec
  have hb := B.bytes
  have hr := B.returns
  have hts := atoms_spec (ws := v_X10_floor_0) B.pre
  have t_ := t_X10_floor_0
  have mw : ∀ w ∈ e_X10_floor_0, w ∈ v_X10_floor_0 := fun w h => List.mem_cons_of_mem _ (List.mem_append_left _ h)
  have hw := fun w (h : w ∈ e_X10_floor_0) => hts w (mw w h)
  have iX10 : ∀ w ∈ wsX100, w ∈ v_X10_floor_0 := fun w h => List.mem_cons_of_mem _ (List.mem_append_right _ (List.mem_append_left _ h))
  have j_X0_enact_6 : ∀ w ∈ v_X0_enact_6, w ∈ v_X10_floor_0 := fun w h => List.mem_cons_of_mem _ (List.mem_append_right _ (List.mem_append_right _ (List.mem_append_left _ h)))
  have hown : s.vm.findClass RX10 = some m.cls := findClass_of_methodNamed B.named
  have hlocks := B.notSynchronized
  subst hsz
  have hD := hD0.self (sz := s.heap.size)
  generalize hAe : va_A [(h0, .inr (7, [.ref h1, .ref h4, .null, .null, .ref h5])), (h1, .inr (0, [.ref h2, .ref h6, .ref h7, .ref h8, .ref h9, .ref h10, .ref h11, .int 0, .int 0, .int 0, .null])), (h2, .inr (1, [.int 1, .ref h3, .int 0, .int (-1), .int 0, .int 0, .int (-1), .ref h12])), (h3, .inl (K 1, 200, .inl (fun _ => 0)))] s.heap.size = A at hD ⊢
  have hA : ∀ q : Nat, s.heap.size ≤ q → A q := fun q h => by rw [← hAe]; exact Or.inr h
  have hS : va_S A s.heap s.heap [] := va_S.rf
  have hP : va_P G vwCl [(h0, .inr (7, [.ref h1, .ref h4, .null, .null, .ref h5])), (h1, .inr (0, [.ref h2, .ref h6, .ref h7, .ref h8, .ref h9, .ref h10, .ref h11, .int 0, .int 0, .int 0, .null])), (h2, .inr (1, [.int 1, .ref h3, .int 0, .int (-1), .int 0, .int 0, .int (-1), .ref h12])), (h3, .inl (K 1, 200, .inl (fun _ => 0)))] s.heap := hP
  have hl := lv_entry ([.ref h0, .int p0]) (n := 2) (Nat.le_of_ble_eq_true rfl)
  rw [lg_entry_eq]
  generalize (lg_sl ([.ref h0, .int p0]) ++ List.replicate (2 - (lg_sl ([.ref h0, .int p0])).length) Slot.unset).toArray = ls at hl ⊢
  have hl : lv_has ls 2 [(0, .ref h0), (1, .int p0)] := hl
  refine lv_aload_n hx hb dX10_floor_0 rfl (lv_at hl 0 rfl) ?_
  refine va_get (D := G) (ci := 7) (v := .ref h1) (C := RX10) (T := TX10) (N := 5) hx hb hts iX10 hown hK hP 0 rfl rfl 0 (by decide) (hw (.fieldLink RX10 10 "MotionFloor" "now" "LMotionFloor$Assembly;") (List.mem_of_getElem? (i := 0) rfl)) (fun _ h9 => h9) rfl dX10_floor_1 ?_
  refine lv_bipush (v := 7) hx hb dX10_floor_4 (by decide) ?_
  refine lv_iload_n hx hb dX10_floor_6 rfl (lv_at hl 1 rfl) ?_
  refine lv_iconst (v := 0) hx hb dX10_floor_7 (by decide) ?_
  refine lv_iconst (v := 0) hx hb dX10_floor_8 (by decide) ?_
  refine lv_iconst (v := 0) hx hb dX10_floor_9 (by decide) ?_
  have hPc := hP.sub (ws' := [(h1, .inr (0, [.ref h2, .ref h6, .ref h7, .ref h8, .ref h9, .ref h10, .ref h11, .int 0, .int 0, .int 0, .null])), (h2, .inr (1, [.int 1, .ref h3, .int 0, .int (-1), .int 0, .int 0, .int (-1), .ref h12])), (h3, .inl (K 1, 200, .inl (fun _ => 0)))]) [1, 2, 3] rfl
  have hDc := hD.sub (ws' := [(h1, .inr (0, [.ref h2, .ref h6, .ref h7, .ref h8, .ref h9, .ref h10, .ref h11, .int 0, .int 0, .int 0, .null])), (h2, .inr (1, [.int 1, .ref h3, .int 0, .int (-1), .int 0, .int 0, .int (-1), .ref h12])), (h3, .inl (K 1, 200, .inl (fun _ => 0)))]) [1, 2, 3] (by decide) rfl
  refine wGoi (wc := [(h1, .inr (0, [.ref h2, .ref h6, .ref h7, .ref h8, .ref h9, .ref h10, .ref h11, .int 0, .int 0, .int 0, .null])), (h2, .inr (1, [.int 1, .ref h3, .int 0, .int (-1), .int 0, .int 0, .int (-1), .ref h12])), (h3, .inl (K 1, 200, .inl (fun _ => 0)))]) (wr := [(h0, .inr (7, [.ref h1, .ref h4, .null, .null, .ref h5]))]) (va_runV (As := [.int 7, .int p0, .int 0, .int 0, .int 0]) (rest := []) ⟨hx, hb, hml, hown, hts⟩ (m_X0_enact_6 l G K h1 h2 h3 h6 h7 h8 h9 h10 h11 h12 p0 _) (cwV 5 hts (wGV t_ (mw (.methodLink RX10 32 yX0_enact) (List.mem_of_getElem? (i := 1) rfl)) (mw (.instanceMethod yX0_enact) (List.mem_of_getElem? (i := 2) rfl)) (mw (.selects RX0 yX0_enact yX0_enact) (List.mem_of_getElem? (i := 3) rfl)) (mw (.initialized RX0) (List.mem_of_getElem? (i := 4) rfl)) j_X0_enact_6) rfl rfl rfl (by decide +kernel) ⟨Nat.le_of_ble_eq_true rfl, Nat.le_of_ble_eq_true rfl⟩) (wPV hK hE hPc hDc 0 0 rfl rfl) rfl rfl hl.1 rfl (lv_room (Nat.le_of_ble_eq_true rfl)) dX10_floor_10 ⟨Nat.le_of_ble_eq_true rfl, Nat.le_of_ble_eq_true rfl⟩) hP hD hS hA [1, 2, 3] [0] rfl rfl rfl (by decide) (fun r u H locs hw hP hD hS => ?_)
  rcases hw with ⟨c_w, rfl, rfl⟩ | ⟨c_w, rfl, rfl⟩
  · have c1 := c_w
    have hP : va_P G vwCl [(h0, .inr (7, [.ref h1, .ref h4, .null, .null, .ref h5])), (h1, .inr (0, [.ref h2, .ref h6, .ref h7, .ref h8, .ref h9, .ref h10, .ref h11, .int 0, .int 0, .int 9, .null])), (h2, .inr (1, [.int 1, .ref h3, .int 0, .int (-1), .int 0, .int 0, .int (-1), .ref h12])), (h3, .inl (K 1, 200, .inl (fun _ => 0)))] _ := hP
    have hD : va_D A [(h0, .inr (7, [.ref h1, .ref h4, .null, .null, .ref h5])), (h1, .inr (0, [.ref h2, .ref h6, .ref h7, .ref h8, .ref h9, .ref h10, .ref h11, .int 0, .int 0, .int 9, .null])), (h2, .inr (1, [.int 1, .ref h3, .int 0, .int (-1), .int 0, .int 0, .int (-1), .ref h12])), (h3, .inl (K 1, 200, .inl (fun _ => 0)))] := hD
    have hP9 : va_P G vwCl [(h0, .inr (7, [.ref h1, .ref h4, .null, .null, .ref h5])), (h1, .inr (0, [.ref h2, .ref h6, .ref h7, .ref h8, .ref h9, .ref h10, .ref h11, .int 0, .int 0, .int 9, .null])), (h2, .inr (1, [.int 1, .ref h3, .int 0, .int (-1), .int 0, .int 0, .int (-1), .ref h12])), (h3, .inl (K 1, 200, .inl (fun _ => 0)))] _ := hP
    have hD9 : va_D A [(h0, .inr (7, [.ref h1, .ref h4, .null, .null, .ref h5])), (h1, .inr (0, [.ref h2, .ref h6, .ref h7, .ref h8, .ref h9, .ref h10, .ref h11, .int 0, .int 0, .int 9, .null])), (h2, .inr (1, [.int 1, .ref h3, .int 0, .int (-1), .int 0, .int 0, .int (-1), .ref h12])), (h3, .inl (K 1, 200, .inl (fun _ => 0)))] := hD
    exact W.iret (v := (-9)) hx hb hr (fun t ht hW => ⟨⟨(-9), _, rfl, Or.inl ⟨(by first | omega | decide | simp), rfl, rfl⟩, by rw [ht]; exact hP9, hD9⟩, hS.F ht⟩) hS.2.2 dX10_floor_13
  · have c2 := c_w
    have hP : va_P G vwCl [(h0, .inr (7, [.ref h1, .ref h4, .null, .null, .ref h5])), (h1, .inr (0, [.ref h2, .ref h6, .ref h7, .ref h8, .ref h9, .ref h10, .ref h11, .int 0, .int 0, .int 8, .null])), (h2, .inr (1, [.int 1, .ref h3, .int 0, .int (-1), .int 0, .int 0, .int (-1), .ref h12])), (h3, .inl (K 1, 200, .inl (fun _ => 0)))] _ := hP
    have hD : va_D A [(h0, .inr (7, [.ref h1, .ref h4, .null, .null, .ref h5])), (h1, .inr (0, [.ref h2, .ref h6, .ref h7, .ref h8, .ref h9, .ref h10, .ref h11, .int 0, .int 0, .int 8, .null])), (h2, .inr (1, [.int 1, .ref h3, .int 0, .int (-1), .int 0, .int 0, .int (-1), .ref h12])), (h3, .inl (K 1, 200, .inl (fun _ => 0)))] := hD
    obtain rfl : p0 = 0 := wIs (b := 0) (by decide) (by omega)
    have z_0 : (0 : Int32).toInt = 0 := by decide
    have hP9 : va_P G vwCl [(h0, .inr (7, [.ref h1, .ref h4, .null, .null, .ref h5])), (h1, .inr (0, [.ref h2, .ref h6, .ref h7, .ref h8, .ref h9, .ref h10, .ref h11, .int 0, .int 0, .int 8, .null])), (h2, .inr (1, [.int 1, .ref h3, .int 0, .int (-1), .int 0, .int 0, .int (-1), .ref h12])), (h3, .inl (K 1, 200, .inl (fun _ => 0)))] _ := hP
    have hD9 : va_D A [(h0, .inr (7, [.ref h1, .ref h4, .null, .null, .ref h5])), (h1, .inr (0, [.ref h2, .ref h6, .ref h7, .ref h8, .ref h9, .ref h10, .ref h11, .int 0, .int 0, .int 8, .null])), (h2, .inr (1, [.int 1, .ref h3, .int 0, .int (-1), .int 0, .int 0, .int (-1), .ref h12])), (h3, .inl (K 1, 200, .inl (fun _ => 0)))] := hD
    exact W.iret (v := (-8)) hx hb hr (fun t ht hW => ⟨⟨(-8), _, rfl, Or.inr (⟨(by first | omega | decide | simp), rfl, rfl⟩), by rw [ht]; exact hP9, hD9⟩, hS.F ht⟩) hS.2.2 dX10_floor_13
def e_X8_againstOnFloor_7 : List Cond := [.fieldLink RX8 34 "MotionFloor$Assembly" "house" "LMotionFloor$House;", .fieldLink RX8 53 "MotionFloor$House" "speaker" "I"]
def v_X8_againstOnFloor_7 : List Cond := .code yX8_againstOnFloor cX8_againstOnFloor 4 (some .int) :: (e_X8_againstOnFloor_7 ++ (wsX00 ++ (wsX20 ++ [])))
theorem te_X8_againstOnFloor_7 : GoodIn lw_tbl e_X8_againstOnFloor_7 := wGc z160 (wGc z234 (wG0))
theorem t_X8_againstOnFloor_7 : GoodIn lw_tbl v_X8_againstOnFloor_7 := wGc z161 (wGa te_X8_againstOnFloor_7 (wGa zcX0 (wGa zcX2 (wG0))))
set_option maxHeartbeats 4000000 in
set_option maxRecDepth 100000 in
theorem m_X8_againstOnFloor_7 (l : Launch) (G : va_G) (K : Nat → ClassId) (h0 h1 h2 h3 h4 h5 h6 h7 h8 h9 : Nat) (sz : Nat) : Met l yX8_againstOnFloor v_X8_againstOnFloor_7 ({ frames := 0, cells := 0, slots := 0, locals := 0 }) (va_Pc [.ref h0, .int 8, .int 0, .int 0] (wS G K sz [(h0, .inr (0, [.ref h1, .ref h2, .ref h3, .ref h4, .ref h5, .ref h6, .ref h7, .int 0, .int 0, .int 0, .null])), (h1, .inr (1, [.int 1, .ref h8, .int 0, .int (-1), .int 0, .int 0, .int (-1), .ref h9]))])) (va_Qi (fun (r : Int32) (u : va_W) => (r = 2 ∧ u = [(h0, .inr (0, [.ref h1, .ref h2, .ref h3, .ref h4, .ref h5, .ref h6, .ref h7, .int 0, .int 0, .int 0, .null])), (h1, .inr (1, [.int 1, .ref h8, .int 0, .int (-1), .int 0, .int 0, .int (-1), .ref h9]))])) (wB G (va_A [(h0, .inr (0, [.ref h1, .ref h2, .ref h3, .ref h4, .ref h5, .ref h6, .ref h7, .int 0, .int 0, .int 0, .null])), (h1, .inr (1, [.int 1, .ref h8, .int 0, .int (-1), .int 0, .int 0, .int (-1), .ref h9]))] sz)) (va_A [(h0, .inr (0, [.ref h1, .ref h2, .ref h3, .ref h4, .ref h5, .ref h6, .ref h7, .int 0, .int 0, .int 0, .null])), (h1, .inr (1, [.int 1, .ref h8, .int 0, .int (-1), .int 0, .int 0, .int (-1), .ref h9]))] sz)) 0 0 (va_A [(h0, .inr (0, [.ref h1, .ref h2, .ref h3, .ref h4, .ref h5, .ref h6, .ref h7, .int 0, .int 0, .int 0, .null])), (h1, .inr (1, [.int 1, .ref h8, .int 0, .int (-1), .int 0, .int 0, .int (-1), .ref h9]))] sz) := by
  refine Met.ofW (cc := cX8_againstOnFloor) (maxL := 4) (ret := (some .int)) (by decide) rfl ?_
  intro p e s m args below meth c s₁ B hml hv
  obtain ⟨rfl, hsz, hP, hK, hD0, hE⟩ := hv
  have hx := B.exec
  have hb := B.bytes
  have hr := B.returns
  have hts := atoms_spec (ws := v_X8_againstOnFloor_7) B.pre
  have t_ := t_X8_againstOnFloor_7
  have mw : ∀ w ∈ e_X8_againstOnFloor_7, w ∈ v_X8_againstOnFloor_7 := fun w h => List.mem_cons_of_mem _ (List.mem_append_left _ h)
  have hw := fun w (h : w ∈ e_X8_againstOnFloor_7) => hts w (mw w h)
  have iX0 : ∀ w ∈ wsX00, w ∈ v_X8_againstOnFloor_7 := fun w h => List.mem_cons_of_mem _ (List.mem_append_right _ (List.mem_append_left _ h))
  have iX2 : ∀ w ∈ wsX20, w ∈ v_X8_againstOnFloor_7 := fun w h => List.mem_cons_of_mem _ (List.mem_append_right _ (List.mem_append_right _ (List.mem_append_left _ h)))
  have hown : s.vm.findClass RX8 = some m.cls := findClass_of_methodNamed B.named
  have hlocks := B.notSynchronized
  subst hsz
  have hD := hD0.self (sz := s.heap.size)
  generalize hAe : va_A [(h0, .inr (0, [.ref h1, .ref h2, .ref h3, .ref h4, .ref h5, .ref h6, .ref h7, .int 0, .int 0, .int 0, .null])), (h1, .inr (1, [.int 1, .ref h8, .int 0, .int (-1), .int 0, .int 0, .int (-1), .ref h9]))] s.heap.size = A at hD ⊢
  have hA : ∀ q : Nat, s.heap.size ≤ q → A q := fun q h => by rw [← hAe]; exact Or.inr h
  have hS : va_S A s.heap s.heap [] := va_S.rf
  have hP : va_P G vwCl [(h0, .inr (0, [.ref h1, .ref h2, .ref h3, .ref h4, .ref h5, .ref h6, .ref h7, .int 0, .int 0, .int 0, .null])), (h1, .inr (1, [.int 1, .ref h8, .int 0, .int (-1), .int 0, .int 0, .int (-1), .ref h9]))] s.heap := hP
  have hl := lv_entry ([.ref h0, .int 8, .int 0, .int 0]) (n := 4) (Nat.le_of_ble_eq_true rfl)
  rw [lg_entry_eq]
  generalize (lg_sl ([.ref h0, .int 8, .int 0, .int 0]) ++ List.replicate (4 - (lg_sl ([.ref h0, .int 8, .int 0, .int 0])).length) Slot.unset).toArray = ls at hl ⊢
  have hl : lv_has ls 4 [(0, .ref h0), (1, .int 8), (2, .int 0), (3, .int 0)] := hl
  refine lv_iload_n hx hb dX8_againstOnFloor_0 rfl (lv_at hl 1 rfl) ?_
  refine lv_tableIn (tgt := 157) hx hb dX8_againstOnFloor_1 (by decide) (by decide) (by decide) (by decide) ?_
  refine lv_aload_n hx hb dX8_againstOnFloor_157 rfl (lv_at hl 0 rfl) ?_
  refine va_get (D := G) (ci := 0) (v := .ref h1) (C := RX0) (T := TX0) (N := 11) hx hb hts iX0 hown hK hP 0 rfl rfl 0 (by decide) (hw (.fieldLink RX8 34 "MotionFloor$Assembly" "house" "LMotionFloor$House;") (List.mem_of_getElem? (i := 0) rfl)) (fun _ h9 => h9) rfl dX8_againstOnFloor_158 ?_
  refine va_get (D := G) (ci := 1) (v := .int (-1)) (C := RX2) (T := TX2) (N := 8) hx hb hts iX2 hown hK hP 1 rfl rfl 6 (by decide) (hw (.fieldLink RX8 53 "MotionFloor$House" "speaker" "I") (List.mem_of_getElem? (i := 1) rfl)) (fun _ h9 => h9) rfl dX8_againstOnFloor_161 ?_
  refine lv_iconst (v := (-1)) hx hb dX8_againstOnFloor_164 (by decide) ?_
  refine lv_icmp_ne (tgt := 172) hx hb dX8_againstOnFloor_165 (by decide) (fun c_ => absurd c_ (by decide)) (fun _ => ?_)
  refine lv_iconst (v := 2) hx hb dX8_againstOnFloor_168 (by decide) ?_
  refine lv_goto (tgt := 173) hx hb dX8_againstOnFloor_169 (by decide) ?_
  have hP9 : va_P G vwCl [(h0, .inr (0, [.ref h1, .ref h2, .ref h3, .ref h4, .ref h5, .ref h6, .ref h7, .int 0, .int 0, .int 0, .null])), (h1, .inr (1, [.int 1, .ref h8, .int 0, .int (-1), .int 0, .int 0, .int (-1), .ref h9]))] _ := hP
  have hD9 : va_D A [(h0, .inr (0, [.ref h1, .ref h2, .ref h3, .ref h4, .ref h5, .ref h6, .ref h7, .int 0, .int 0, .int 0, .null])), (h1, .inr (1, [.int 1, .ref h8, .int 0, .int (-1), .int 0, .int 0, .int (-1), .ref h9]))] := hD
  exact W.iret (v := 2) hx hb hr (fun t ht hW => ⟨⟨2, _, rfl, ⟨rfl, rfl⟩, by rw [ht]; exact hP9, hD9⟩, hS.F ht⟩) hS.2.2 dX8_againstOnFloor_173
def e_X8_against_7 : List Cond := [.methodLink RX8 9 yX8_againstOnFloor, .static yX8_againstOnFloor, .initialized RX8]
def v_X8_against_7 : List Cond := .code yX8_against cX8_against 7 (some .int) :: (e_X8_against_7 ++ (v_X8_againstOnFloor_7 ++ []))
theorem te_X8_against_7 : GoodIn lw_tbl e_X8_against_7 := wGc z169 (wGc z168 (wGc z157 (wG0)))
theorem t_X8_against_7 : GoodIn lw_tbl v_X8_against_7 := wGc z170 (wGa te_X8_against_7 (wGa t_X8_againstOnFloor_7 (wG0)))
set_option maxHeartbeats 4000000 in
set_option maxRecDepth 100000 in
theorem m_X8_against_7 (l : Launch) (G : va_G) (K : Nat → ClassId) (h0 h1 h2 h3 h4 h5 h6 h7 h8 h9 : Nat) (sz : Nat) : Met l yX8_against v_X8_against_7 ({ frames := 1, cells := 0, slots := 0, locals := 23 }) (va_Pc [.ref h0, .int 8, .int 0, .int 0, .int 0, .int 0] (wS G K sz [(h0, .inr (0, [.ref h1, .ref h2, .ref h3, .ref h4, .ref h5, .ref h6, .ref h7, .int 0, .int 0, .int 0, .null])), (h1, .inr (1, [.int 1, .ref h8, .int 0, .int (-1), .int 0, .int 0, .int (-1), .ref h9]))])) (va_Qi (fun (r : Int32) (u : va_W) => (r = 2 ∧ u = [(h0, .inr (0, [.ref h1, .ref h2, .ref h3, .ref h4, .ref h5, .ref h6, .ref h7, .int 0, .int 0, .int 0, .null])), (h1, .inr (1, [.int 1, .ref h8, .int 0, .int (-1), .int 0, .int 0, .int (-1), .ref h9]))])) (wB G (va_A [(h0, .inr (0, [.ref h1, .ref h2, .ref h3, .ref h4, .ref h5, .ref h6, .ref h7, .int 0, .int 0, .int 0, .null])), (h1, .inr (1, [.int 1, .ref h8, .int 0, .int (-1), .int 0, .int 0, .int (-1), .ref h9]))] sz)) (va_A [(h0, .inr (0, [.ref h1, .ref h2, .ref h3, .ref h4, .ref h5, .ref h6, .ref h7, .int 0, .int 0, .int 0, .null])), (h1, .inr (1, [.int 1, .ref h8, .int 0, .int (-1), .int 0, .int 0, .int (-1), .ref h9]))] sz)) 0 0 (va_A [(h0, .inr (0, [.ref h1, .ref h2, .ref h3, .ref h4, .ref h5, .ref h6, .ref h7, .int 0, .int 0, .int 0, .null])), (h1, .inr (1, [.int 1, .ref h8, .int 0, .int (-1), .int 0, .int 0, .int (-1), .ref h9]))] sz) := by
  refine Met.ofW (cc := cX8_against) (maxL := 7) (ret := (some .int)) (by decide) rfl ?_
  intro p e s m args below meth c s₁ B hml hv
  obtain ⟨rfl, hsz, hP, hK, hD0, hE⟩ := hv
  have hx := B.exec
  have hb := B.bytes
  have hr := B.returns
  have hts := atoms_spec (ws := v_X8_against_7) B.pre
  have t_ := t_X8_against_7
  have mw : ∀ w ∈ e_X8_against_7, w ∈ v_X8_against_7 := fun w h => List.mem_cons_of_mem _ (List.mem_append_left _ h)
  have hw := fun w (h : w ∈ e_X8_against_7) => hts w (mw w h)
  have j_X8_againstOnFloor_7 : ∀ w ∈ v_X8_againstOnFloor_7, w ∈ v_X8_against_7 := fun w h => List.mem_cons_of_mem _ (List.mem_append_right _ (List.mem_append_left _ h))
  have hown : s.vm.findClass RX8 = some m.cls := findClass_of_methodNamed B.named
  have hlocks := B.notSynchronized
  subst hsz
  have hD := hD0.self (sz := s.heap.size)
  generalize hAe : va_A [(h0, .inr (0, [.ref h1, .ref h2, .ref h3, .ref h4, .ref h5, .ref h6, .ref h7, .int 0, .int 0, .int 0, .null])), (h1, .inr (1, [.int 1, .ref h8, .int 0, .int (-1), .int 0, .int 0, .int (-1), .ref h9]))] s.heap.size = A at hD ⊢
  have hA : ∀ q : Nat, s.heap.size ≤ q → A q := fun q h => by rw [← hAe]; exact Or.inr h
  have hS : va_S A s.heap s.heap [] := va_S.rf
  have hP : va_P G vwCl [(h0, .inr (0, [.ref h1, .ref h2, .ref h3, .ref h4, .ref h5, .ref h6, .ref h7, .int 0, .int 0, .int 0, .null])), (h1, .inr (1, [.int 1, .ref h8, .int 0, .int (-1), .int 0, .int 0, .int (-1), .ref h9]))] s.heap := hP
  have hl := lv_entry ([.ref h0, .int 8, .int 0, .int 0, .int 0, .int 0]) (n := 7) (Nat.le_of_ble_eq_true rfl)
  rw [lg_entry_eq]
  generalize (lg_sl ([.ref h0, .int 8, .int 0, .int 0, .int 0, .int 0]) ++ List.replicate (7 - (lg_sl ([.ref h0, .int 8, .int 0, .int 0, .int 0, .int 0])).length) Slot.unset).toArray = ls at hl ⊢
  have hl : lv_has ls 7 [(0, .ref h0), (1, .int 8), (2, .int 0), (3, .int 0), (4, .int 0), (5, .int 0)] := hl
  refine lv_iload_n hx hb dX8_against_0 rfl (lv_at hl 1 rfl) ?_
  refine lv_bipush (v := 9) hx hb dX8_against_1 (by decide) ?_
  refine lv_icmp_gt (tgt := 18) hx hb dX8_against_3 (by decide) (fun c_ => absurd c_ (by decide)) (fun _ => ?_)
  refine lv_aload_n hx hb dX8_against_6 rfl (lv_at hl 0 rfl) ?_
  refine lv_iload_n hx hb dX8_against_7 rfl (lv_at hl 1 rfl) ?_
  refine lv_iload_n hx hb dX8_against_8 rfl (lv_at hl 2 rfl) ?_
  refine lv_iload_n hx hb dX8_against_9 rfl (lv_at hl 3 rfl) ?_
  have hPc := hP.sub (ws' := [(h0, .inr (0, [.ref h1, .ref h2, .ref h3, .ref h4, .ref h5, .ref h6, .ref h7, .int 0, .int 0, .int 0, .null])), (h1, .inr (1, [.int 1, .ref h8, .int 0, .int (-1), .int 0, .int 0, .int (-1), .ref h9]))]) [0, 1] rfl
  have hDc := hD.sub (ws' := [(h0, .inr (0, [.ref h1, .ref h2, .ref h3, .ref h4, .ref h5, .ref h6, .ref h7, .int 0, .int 0, .int 0, .null])), (h1, .inr (1, [.int 1, .ref h8, .int 0, .int (-1), .int 0, .int 0, .int (-1), .ref h9]))]) [0, 1] (by decide) rfl
  refine wGoi (wc := [(h0, .inr (0, [.ref h1, .ref h2, .ref h3, .ref h4, .ref h5, .ref h6, .ref h7, .int 0, .int 0, .int 0, .null])), (h1, .inr (1, [.int 1, .ref h8, .int 0, .int (-1), .int 0, .int 0, .int (-1), .ref h9]))]) (wr := []) (va_runS (As := [.ref h0, .int 8, .int 0, .int 0]) (rest := []) ⟨hx, hb, hml, hown, hts⟩ (m_X8_againstOnFloor_7 l G K h0 h1 h2 h3 h4 h5 h6 h7 h8 h9 _) (va_cwS 4 hts (wGS t_ (mw (.methodLink RX8 9 yX8_againstOnFloor) (List.mem_of_getElem? (i := 0) rfl)) (mw (.static yX8_againstOnFloor) (List.mem_of_getElem? (i := 1) rfl)) (mw (.initialized RX8) (List.mem_of_getElem? (i := 2) rfl)) j_X8_againstOnFloor_7) rfl rfl rfl (by decide +kernel) ⟨Nat.le_of_ble_eq_true rfl, Nat.le_of_ble_eq_true rfl⟩) (wPS hK hE hPc hDc) rfl rfl hl.1 rfl (lv_room (Nat.le_of_ble_eq_true rfl)) dX8_against_10 ⟨Nat.le_of_ble_eq_true rfl, Nat.le_of_ble_eq_true rfl⟩) hP hD hS hA [0, 1] [] rfl rfl rfl (by decide) (fun r u H locs hw hP hD hS => ?_)
  rcases hw with ⟨rfl, rfl⟩
  have hP : va_P G vwCl [(h0, .inr (0, [.ref h1, .ref h2, .ref h3, .ref h4, .ref h5, .ref h6, .ref h7, .int 0, .int 0, .int 0, .null])), (h1, .inr (1, [.int 1, .ref h8, .int 0, .int (-1), .int 0, .int 0, .int (-1), .ref h9]))] _ := hP
  have hD : va_D A [(h0, .inr (0, [.ref h1, .ref h2, .ref h3, .ref h4, .ref h5, .ref h6, .ref h7, .int 0, .int 0, .int 0, .null])), (h1, .inr (1, [.int 1, .ref h8, .int 0, .int (-1), .int 0, .int 0, .int (-1), .ref h9]))] := hD
  refine lv_istore (lv' := [(6, .int 2), (0, .ref h0), (1, .int 8), (2, .int 0), (3, .int 0), (4, .int 0), (5, .int 0)]) hx hb dX8_against_13 hl (by decide) rfl (fun ls hl => ?_)
  refine lv_goto (tgt := 49) hx hb dX8_against_15 (by decide) ?_
  refine lv_iload hx hb dX8_against_49 (lv_at hl 0 rfl) ?_
  refine lv_if_ne (tgt := 69) hx hb dX8_against_51 (by decide) (fun _ => ?_) (fun c_ => absurd c_ (by decide))
  refine lv_iload hx hb dX8_against_69 (lv_at hl 0 rfl) ?_
  have hP9 : va_P G vwCl [(h0, .inr (0, [.ref h1, .ref h2, .ref h3, .ref h4, .ref h5, .ref h6, .ref h7, .int 0, .int 0, .int 0, .null])), (h1, .inr (1, [.int 1, .ref h8, .int 0, .int (-1), .int 0, .int 0, .int (-1), .ref h9]))] _ := hP
  have hD9 : va_D A [(h0, .inr (0, [.ref h1, .ref h2, .ref h3, .ref h4, .ref h5, .ref h6, .ref h7, .int 0, .int 0, .int 0, .null])), (h1, .inr (1, [.int 1, .ref h8, .int 0, .int (-1), .int 0, .int 0, .int (-1), .ref h9]))] := hD
  exact W.iret (v := 2) hx hb hr (fun t ht hW => ⟨⟨2, _, rfl, ⟨rfl, rfl⟩, by rw [ht]; exact hP9, hD9⟩, hS.F ht⟩) hS.2.2 dX8_against_71
def e_X0_enact_7 : List Cond := [.methodLink RX0 155 yX8_against, .static yX8_against, .initialized RX8, .fieldLink RX0 73 "MotionFloor$Assembly" "reason" "I"]
def v_X0_enact_7 : List Cond := .code yX0_enact cX0_enact 7 (some .int) :: (e_X0_enact_7 ++ (wsX00 ++ (v_X8_against_7 ++ [])))
theorem te_X0_enact_7 : GoodIn lw_tbl e_X0_enact_7 := wGc z205 (wGc z204 (wGc z157 (wGc z135 (wG0))))
theorem t_X0_enact_7 : GoodIn lw_tbl v_X0_enact_7 := wGc z206 (wGa te_X0_enact_7 (wGa zcX0 (wGa t_X8_against_7 (wG0))))
set_option maxHeartbeats 4000000 in
set_option maxRecDepth 100000 in
theorem m_X0_enact_7 (l : Launch) (G : va_G) (K : Nat → ClassId) (h0 h1 h2 h3 h4 h5 h6 h7 h8 h9 : Nat) (sz : Nat) : Met l yX0_enact v_X0_enact_7 ({ frames := 2, cells := 0, slots := 0, locals := 49 }) (va_Pc [.ref h0, .int 8, .int 0, .int 0, .int 0, .int 0] (wS G K sz [(h0, .inr (0, [.ref h1, .ref h2, .ref h3, .ref h4, .ref h5, .ref h6, .ref h7, .int 0, .int 0, .int 0, .null])), (h1, .inr (1, [.int 1, .ref h8, .int 0, .int (-1), .int 0, .int 0, .int (-1), .ref h9]))])) (va_Qi (fun (r : Int32) (u : va_W) => (r = (-2) ∧ u = [(h0, .inr (0, [.ref h1, .ref h2, .ref h3, .ref h4, .ref h5, .ref h6, .ref h7, .int 0, .int 0, .int 2, .null])), (h1, .inr (1, [.int 1, .ref h8, .int 0, .int (-1), .int 0, .int 0, .int (-1), .ref h9]))])) (wB G (va_A [(h0, .inr (0, [.ref h1, .ref h2, .ref h3, .ref h4, .ref h5, .ref h6, .ref h7, .int 0, .int 0, .int 0, .null])), (h1, .inr (1, [.int 1, .ref h8, .int 0, .int (-1), .int 0, .int 0, .int (-1), .ref h9]))] sz)) (va_A [(h0, .inr (0, [.ref h1, .ref h2, .ref h3, .ref h4, .ref h5, .ref h6, .ref h7, .int 0, .int 0, .int 0, .null])), (h1, .inr (1, [.int 1, .ref h8, .int 0, .int (-1), .int 0, .int 0, .int (-1), .ref h9]))] sz)) 0 0 (va_A [(h0, .inr (0, [.ref h1, .ref h2, .ref h3, .ref h4, .ref h5, .ref h6, .ref h7, .int 0, .int 0, .int 0, .null])), (h1, .inr (1, [.int 1, .ref h8, .int 0, .int (-1), .int 0, .int 0, .int (-1), .ref h9]))] sz) := by
  refine Met.ofW (cc := cX0_enact) (maxL := 7) (ret := (some .int)) (by decide) rfl ?_
  intro p e s m args below meth c s₁ B hml hv
  obtain ⟨rfl, hsz, hP, hK, hD0, hE⟩ := hv
  have hx := B.exec
  have hb := B.bytes
  have hr := B.returns
  have hts := atoms_spec (ws := v_X0_enact_7) B.pre
  have t_ := t_X0_enact_7
  have mw : ∀ w ∈ e_X0_enact_7, w ∈ v_X0_enact_7 := fun w h => List.mem_cons_of_mem _ (List.mem_append_left _ h)
  have hw := fun w (h : w ∈ e_X0_enact_7) => hts w (mw w h)
  have iX0 : ∀ w ∈ wsX00, w ∈ v_X0_enact_7 := fun w h => List.mem_cons_of_mem _ (List.mem_append_right _ (List.mem_append_left _ h))
  have j_X8_against_7 : ∀ w ∈ v_X8_against_7, w ∈ v_X0_enact_7 := fun w h => List.mem_cons_of_mem _ (List.mem_append_right _ (List.mem_append_right _ (List.mem_append_left _ h)))
  have hown : s.vm.findClass RX0 = some m.cls := findClass_of_methodNamed B.named
  have hlocks := B.notSynchronized
  subst hsz
  have hD := hD0.self (sz := s.heap.size)
  generalize hAe : va_A [(h0, .inr (0, [.ref h1, .ref h2, .ref h3, .ref h4, .ref h5, .ref h6, .ref h7, .int 0, .int 0, .int 0, .null])), (h1, .inr (1, [.int 1, .ref h8, .int 0, .int (-1), .int 0, .int 0, .int (-1), .ref h9]))] s.heap.size = A at hD ⊢
  have hA : ∀ q : Nat, s.heap.size ≤ q → A q := fun q h => by rw [← hAe]; exact Or.inr h
  have hS : va_S A s.heap s.heap [] := va_S.rf
  have hP : va_P G vwCl [(h0, .inr (0, [.ref h1, .ref h2, .ref h3, .ref h4, .ref h5, .ref h6, .ref h7, .int 0, .int 0, .int 0, .null])), (h1, .inr (1, [.int 1, .ref h8, .int 0, .int (-1), .int 0, .int 0, .int (-1), .ref h9]))] s.heap := hP
  have hl := lv_entry ([.ref h0, .int 8, .int 0, .int 0, .int 0, .int 0]) (n := 7) (Nat.le_of_ble_eq_true rfl)
  rw [lg_entry_eq]
  generalize (lg_sl ([.ref h0, .int 8, .int 0, .int 0, .int 0, .int 0]) ++ List.replicate (7 - (lg_sl ([.ref h0, .int 8, .int 0, .int 0, .int 0, .int 0])).length) Slot.unset).toArray = ls at hl ⊢
  have hl : lv_has ls 7 [(0, .ref h0), (1, .int 8), (2, .int 0), (3, .int 0), (4, .int 0), (5, .int 0)] := hl
  refine lv_aload_n hx hb dX0_enact_0 rfl (lv_at hl 0 rfl) ?_
  refine lv_aload_n hx hb dX0_enact_1 rfl (lv_at hl 0 rfl) ?_
  refine lv_iload_n hx hb dX0_enact_2 rfl (lv_at hl 1 rfl) ?_
  refine lv_iload_n hx hb dX0_enact_3 rfl (lv_at hl 2 rfl) ?_
  refine lv_iload_n hx hb dX0_enact_4 rfl (lv_at hl 3 rfl) ?_
  refine lv_iload hx hb dX0_enact_5 (lv_at hl 4 rfl) ?_
  refine lv_iload hx hb dX0_enact_7 (lv_at hl 5 rfl) ?_
  have hPc := hP.sub (ws' := [(h0, .inr (0, [.ref h1, .ref h2, .ref h3, .ref h4, .ref h5, .ref h6, .ref h7, .int 0, .int 0, .int 0, .null])), (h1, .inr (1, [.int 1, .ref h8, .int 0, .int (-1), .int 0, .int 0, .int (-1), .ref h9]))]) [0, 1] rfl
  have hDc := hD.sub (ws' := [(h0, .inr (0, [.ref h1, .ref h2, .ref h3, .ref h4, .ref h5, .ref h6, .ref h7, .int 0, .int 0, .int 0, .null])), (h1, .inr (1, [.int 1, .ref h8, .int 0, .int (-1), .int 0, .int 0, .int (-1), .ref h9]))]) [0, 1] (by decide) rfl
  refine wGoi (wc := [(h0, .inr (0, [.ref h1, .ref h2, .ref h3, .ref h4, .ref h5, .ref h6, .ref h7, .int 0, .int 0, .int 0, .null])), (h1, .inr (1, [.int 1, .ref h8, .int 0, .int (-1), .int 0, .int 0, .int (-1), .ref h9]))]) (wr := []) (va_runS (As := [.ref h0, .int 8, .int 0, .int 0, .int 0, .int 0]) (rest := [.ref h0]) ⟨hx, hb, hml, hown, hts⟩ (m_X8_against_7 l G K h0 h1 h2 h3 h4 h5 h6 h7 h8 h9 _) (va_cwS 6 hts (wGS t_ (mw (.methodLink RX0 155 yX8_against) (List.mem_of_getElem? (i := 0) rfl)) (mw (.static yX8_against) (List.mem_of_getElem? (i := 1) rfl)) (mw (.initialized RX8) (List.mem_of_getElem? (i := 2) rfl)) j_X8_against_7) rfl rfl rfl (by decide +kernel) ⟨Nat.le_of_ble_eq_true rfl, Nat.le_of_ble_eq_true rfl⟩) (wPS hK hE hPc hDc) rfl rfl hl.1 rfl (lv_room (Nat.le_of_ble_eq_true rfl)) dX0_enact_9 ⟨Nat.le_of_ble_eq_true rfl, Nat.le_of_ble_eq_true rfl⟩) hP hD hS hA [0, 1] [] rfl rfl rfl (by decide) (fun r u H locs hw hP hD hS => ?_)
  rcases hw with ⟨rfl, rfl⟩
  have hP : va_P G vwCl [(h0, .inr (0, [.ref h1, .ref h2, .ref h3, .ref h4, .ref h5, .ref h6, .ref h7, .int 0, .int 0, .int 0, .null])), (h1, .inr (1, [.int 1, .ref h8, .int 0, .int (-1), .int 0, .int 0, .int (-1), .ref h9]))] _ := hP
  have hD : va_D A [(h0, .inr (0, [.ref h1, .ref h2, .ref h3, .ref h4, .ref h5, .ref h6, .ref h7, .int 0, .int 0, .int 0, .null])), (h1, .inr (1, [.int 1, .ref h8, .int 0, .int (-1), .int 0, .int 0, .int (-1), .ref h9]))] := hD
  refine va_put (D := G) (ci := 0) (v := .int 2) (ty := .int) (C := RX0) (T := TX0) (N := 11) hx hb hts iX0 tyX0 tyX0_ok nmX0 hown hK hP hD hS 0 rfl rfl 9 (by decide) (hw (.fieldLink RX0 73 "MotionFloor$Assembly" "reason" "I") (List.mem_of_getElem? (i := 3) rfl)) (fun _ h9 => h9) rfl (by decide +kernel) rfl rfl (Nat.le_of_ble_eq_true rfl) dX0_enact_12 (fun H locs hP hD hS => ?_)
  have hP : va_P G vwCl [(h0, .inr (0, [.ref h1, .ref h2, .ref h3, .ref h4, .ref h5, .ref h6, .ref h7, .int 0, .int 0, .int 2, .null])), (h1, .inr (1, [.int 1, .ref h8, .int 0, .int (-1), .int 0, .int 0, .int (-1), .ref h9]))] _ := hP
  have hD : va_D A [(h0, .inr (0, [.ref h1, .ref h2, .ref h3, .ref h4, .ref h5, .ref h6, .ref h7, .int 0, .int 0, .int 2, .null])), (h1, .inr (1, [.int 1, .ref h8, .int 0, .int (-1), .int 0, .int 0, .int (-1), .ref h9]))] := hD
  refine lv_aload_n hx hb dX0_enact_15 rfl (lv_at hl 0 rfl) ?_
  refine va_get (D := G) (ci := 0) (v := .int 2) (C := RX0) (T := TX0) (N := 11) hx hb hts iX0 hown hK hP 0 rfl rfl 9 (by decide) (hw (.fieldLink RX0 73 "MotionFloor$Assembly" "reason" "I") (List.mem_of_getElem? (i := 3) rfl)) (fun _ h9 => h9) rfl dX0_enact_16 ?_
  refine lv_if_eq (tgt := 28) hx hb dX0_enact_19 (by decide) (fun c_ => absurd c_ (by decide)) (fun _ => ?_)
  refine lv_aload_n hx hb dX0_enact_22 rfl (lv_at hl 0 rfl) ?_
  refine va_get (D := G) (ci := 0) (v := .int 2) (C := RX0) (T := TX0) (N := 11) hx hb hts iX0 hown hK hP 0 rfl rfl 9 (by decide) (hw (.fieldLink RX0 73 "MotionFloor$Assembly" "reason" "I") (List.mem_of_getElem? (i := 3) rfl)) (fun _ h9 => h9) rfl dX0_enact_23 ?_
  refine lv_ineg hx hb dX0_enact_26 ?_
  refine wTop (v1 := .int (-2)) (congrArg Value.int (by decide)) ?_
  have hP9 : va_P G vwCl [(h0, .inr (0, [.ref h1, .ref h2, .ref h3, .ref h4, .ref h5, .ref h6, .ref h7, .int 0, .int 0, .int 2, .null])), (h1, .inr (1, [.int 1, .ref h8, .int 0, .int (-1), .int 0, .int 0, .int (-1), .ref h9]))] _ := hP
  have hD9 : va_D A [(h0, .inr (0, [.ref h1, .ref h2, .ref h3, .ref h4, .ref h5, .ref h6, .ref h7, .int 0, .int 0, .int 2, .null])), (h1, .inr (1, [.int 1, .ref h8, .int 0, .int (-1), .int 0, .int 0, .int (-1), .ref h9]))] := hD
  exact W.iret (v := (-2)) hx hb hr (fun t ht hW => ⟨⟨(-2), _, rfl, ⟨rfl, rfl⟩, by rw [ht]; exact hP9, hD9⟩, hS.F ht⟩) hS.2.2 dX0_enact_27
def e_X10_cede_0 : List Cond := [.fieldLink RX10 10 "MotionFloor" "now" "LMotionFloor$Assembly;", .methodLink RX10 32 yX0_enact, .instanceMethod yX0_enact, .selects RX0 yX0_enact yX0_enact, .initialized RX0]
def v_X10_cede_0 : List Cond := .code yX10_cede cX10_cede 1 (some .int) :: (e_X10_cede_0 ++ (wsX100 ++ (v_X0_enact_7 ++ [])))
theorem te_X10_cede_0 : GoodIn lw_tbl e_X10_cede_0 := wGc z115 (wGc z209 (wGc z208 (wGc z207 (wGc z118 (wG0)))))
theorem t_X10_cede_0 : GoodIn lw_tbl v_X10_cede_0 := wGc z235 (wGa te_X10_cede_0 (wGa zcX10 (wGa t_X0_enact_7 (wG0))))
set_option maxHeartbeats 4000000 in
set_option maxRecDepth 100000 in
theorem m_X10_cede_0 (l : Launch) (G : va_G) (K : Nat → ClassId) (h0 h1 h2 h3 h4 h5 h6 h7 h8 h9 h10 h11 h12 : Nat) (sz : Nat) : Met l yX10_cede v_X10_cede_0 ({ frames := 3, cells := 0, slots := 0, locals := 75 }) (va_Pc [.ref h0] (wS G K sz [(h0, .inr (7, [.ref h1, .ref h3, .null, .null, .ref h4])), (h1, .inr (0, [.ref h2, .ref h5, .ref h6, .ref h7, .ref h8, .ref h9, .ref h10, .int 0, .int 0, .int 0, .null])), (h2, .inr (1, [.int 1, .ref h11, .int 0, .int (-1), .int 0, .int 0, .int (-1), .ref h12]))])) (va_Qi (fun (r : Int32) (u : va_W) => (r = (-2) ∧ u = [(h0, .inr (7, [.ref h1, .ref h3, .null, .null, .ref h4])), (h1, .inr (0, [.ref h2, .ref h5, .ref h6, .ref h7, .ref h8, .ref h9, .ref h10, .int 0, .int 0, .int 2, .null])), (h2, .inr (1, [.int 1, .ref h11, .int 0, .int (-1), .int 0, .int 0, .int (-1), .ref h12]))])) (wB G (va_A [(h0, .inr (7, [.ref h1, .ref h3, .null, .null, .ref h4])), (h1, .inr (0, [.ref h2, .ref h5, .ref h6, .ref h7, .ref h8, .ref h9, .ref h10, .int 0, .int 0, .int 0, .null])), (h2, .inr (1, [.int 1, .ref h11, .int 0, .int (-1), .int 0, .int 0, .int (-1), .ref h12]))] sz)) (va_A [(h0, .inr (7, [.ref h1, .ref h3, .null, .null, .ref h4])), (h1, .inr (0, [.ref h2, .ref h5, .ref h6, .ref h7, .ref h8, .ref h9, .ref h10, .int 0, .int 0, .int 0, .null])), (h2, .inr (1, [.int 1, .ref h11, .int 0, .int (-1), .int 0, .int 0, .int (-1), .ref h12]))] sz)) 0 0 (va_A [(h0, .inr (7, [.ref h1, .ref h3, .null, .null, .ref h4])), (h1, .inr (0, [.ref h2, .ref h5, .ref h6, .ref h7, .ref h8, .ref h9, .ref h10, .int 0, .int 0, .int 0, .null])), (h2, .inr (1, [.int 1, .ref h11, .int 0, .int (-1), .int 0, .int 0, .int (-1), .ref h12]))] sz) := by
  refine Met.ofW (cc := cX10_cede) (maxL := 1) (ret := (some .int)) (by decide) rfl ?_
  intro p e s m args below meth c s₁ B hml hv
  obtain ⟨rfl, hsz, hP, hK, hD0, hE⟩ := hv
  have hx := B.exec
  have hb := B.bytes
  have hr := B.returns
  have hts := atoms_spec (ws := v_X10_cede_0) B.pre
  have t_ := t_X10_cede_0
  have mw : ∀ w ∈ e_X10_cede_0, w ∈ v_X10_cede_0 := fun w h => List.mem_cons_of_mem _ (List.mem_append_left _ h)
  have hw := fun w (h : w ∈ e_X10_cede_0) => hts w (mw w h)
  have iX10 : ∀ w ∈ wsX100, w ∈ v_X10_cede_0 := fun w h => List.mem_cons_of_mem _ (List.mem_append_right _ (List.mem_append_left _ h))
  have j_X0_enact_7 : ∀ w ∈ v_X0_enact_7, w ∈ v_X10_cede_0 := fun w h => List.mem_cons_of_mem _ (List.mem_append_right _ (List.mem_append_right _ (List.mem_append_left _ h)))
  have hown : s.vm.findClass RX10 = some m.cls := findClass_of_methodNamed B.named
  have hlocks := B.notSynchronized
  subst hsz
  have hD := hD0.self (sz := s.heap.size)
  generalize hAe : va_A [(h0, .inr (7, [.ref h1, .ref h3, .null, .null, .ref h4])), (h1, .inr (0, [.ref h2, .ref h5, .ref h6, .ref h7, .ref h8, .ref h9, .ref h10, .int 0, .int 0, .int 0, .null])), (h2, .inr (1, [.int 1, .ref h11, .int 0, .int (-1), .int 0, .int 0, .int (-1), .ref h12]))] s.heap.size = A at hD ⊢
  have hA : ∀ q : Nat, s.heap.size ≤ q → A q := fun q h => by rw [← hAe]; exact Or.inr h
  have hS : va_S A s.heap s.heap [] := va_S.rf
  have hP : va_P G vwCl [(h0, .inr (7, [.ref h1, .ref h3, .null, .null, .ref h4])), (h1, .inr (0, [.ref h2, .ref h5, .ref h6, .ref h7, .ref h8, .ref h9, .ref h10, .int 0, .int 0, .int 0, .null])), (h2, .inr (1, [.int 1, .ref h11, .int 0, .int (-1), .int 0, .int 0, .int (-1), .ref h12]))] s.heap := hP
  have hl := lv_entry ([.ref h0]) (n := 1) (Nat.le_of_ble_eq_true rfl)
  rw [lg_entry_eq]
  generalize (lg_sl ([.ref h0]) ++ List.replicate (1 - (lg_sl ([.ref h0])).length) Slot.unset).toArray = ls at hl ⊢
  have hl : lv_has ls 1 [(0, .ref h0)] := hl
  refine lv_aload_n hx hb dX10_cede_0 rfl (lv_at hl 0 rfl) ?_
  refine va_get (D := G) (ci := 7) (v := .ref h1) (C := RX10) (T := TX10) (N := 5) hx hb hts iX10 hown hK hP 0 rfl rfl 0 (by decide) (hw (.fieldLink RX10 10 "MotionFloor" "now" "LMotionFloor$Assembly;") (List.mem_of_getElem? (i := 0) rfl)) (fun _ h9 => h9) rfl dX10_cede_1 ?_
  refine lv_bipush (v := 8) hx hb dX10_cede_4 (by decide) ?_
  refine lv_iconst (v := 0) hx hb dX10_cede_6 (by decide) ?_
  refine lv_iconst (v := 0) hx hb dX10_cede_7 (by decide) ?_
  refine lv_iconst (v := 0) hx hb dX10_cede_8 (by decide) ?_
  refine lv_iconst (v := 0) hx hb dX10_cede_9 (by decide) ?_
  have hPc := hP.sub (ws' := [(h1, .inr (0, [.ref h2, .ref h5, .ref h6, .ref h7, .ref h8, .ref h9, .ref h10, .int 0, .int 0, .int 0, .null])), (h2, .inr (1, [.int 1, .ref h11, .int 0, .int (-1), .int 0, .int 0, .int (-1), .ref h12]))]) [1, 2] rfl
  have hDc := hD.sub (ws' := [(h1, .inr (0, [.ref h2, .ref h5, .ref h6, .ref h7, .ref h8, .ref h9, .ref h10, .int 0, .int 0, .int 0, .null])), (h2, .inr (1, [.int 1, .ref h11, .int 0, .int (-1), .int 0, .int 0, .int (-1), .ref h12]))]) [1, 2] (by decide) rfl
  refine wGoi (wc := [(h1, .inr (0, [.ref h2, .ref h5, .ref h6, .ref h7, .ref h8, .ref h9, .ref h10, .int 0, .int 0, .int 0, .null])), (h2, .inr (1, [.int 1, .ref h11, .int 0, .int (-1), .int 0, .int 0, .int (-1), .ref h12]))]) (wr := [(h0, .inr (7, [.ref h1, .ref h3, .null, .null, .ref h4]))]) (va_runV (As := [.int 8, .int 0, .int 0, .int 0, .int 0]) (rest := []) ⟨hx, hb, hml, hown, hts⟩ (m_X0_enact_7 l G K h1 h2 h5 h6 h7 h8 h9 h10 h11 h12 _) (cwV 5 hts (wGV t_ (mw (.methodLink RX10 32 yX0_enact) (List.mem_of_getElem? (i := 1) rfl)) (mw (.instanceMethod yX0_enact) (List.mem_of_getElem? (i := 2) rfl)) (mw (.selects RX0 yX0_enact yX0_enact) (List.mem_of_getElem? (i := 3) rfl)) (mw (.initialized RX0) (List.mem_of_getElem? (i := 4) rfl)) j_X0_enact_7) rfl rfl rfl (by decide +kernel) ⟨Nat.le_of_ble_eq_true rfl, Nat.le_of_ble_eq_true rfl⟩) (wPV hK hE hPc hDc 0 0 rfl rfl) rfl rfl hl.1 rfl (lv_room (Nat.le_of_ble_eq_true rfl)) dX10_cede_10 ⟨Nat.le_of_ble_eq_true rfl, Nat.le_of_ble_eq_true rfl⟩) hP hD hS hA [1, 2] [0] rfl rfl rfl (by decide) (fun r u H locs hw hP hD hS => ?_)
  rcases hw with ⟨rfl, rfl⟩
  have hP : va_P G vwCl [(h0, .inr (7, [.ref h1, .ref h3, .null, .null, .ref h4])), (h1, .inr (0, [.ref h2, .ref h5, .ref h6, .ref h7, .ref h8, .ref h9, .ref h10, .int 0, .int 0, .int 2, .null])), (h2, .inr (1, [.int 1, .ref h11, .int 0, .int (-1), .int 0, .int 0, .int (-1), .ref h12]))] _ := hP
  have hD : va_D A [(h0, .inr (7, [.ref h1, .ref h3, .null, .null, .ref h4])), (h1, .inr (0, [.ref h2, .ref h5, .ref h6, .ref h7, .ref h8, .ref h9, .ref h10, .int 0, .int 0, .int 2, .null])), (h2, .inr (1, [.int 1, .ref h11, .int 0, .int (-1), .int 0, .int 0, .int (-1), .ref h12]))] := hD
  have hP9 : va_P G vwCl [(h0, .inr (7, [.ref h1, .ref h3, .null, .null, .ref h4])), (h1, .inr (0, [.ref h2, .ref h5, .ref h6, .ref h7, .ref h8, .ref h9, .ref h10, .int 0, .int 0, .int 2, .null])), (h2, .inr (1, [.int 1, .ref h11, .int 0, .int (-1), .int 0, .int 0, .int (-1), .ref h12]))] _ := hP
  have hD9 : va_D A [(h0, .inr (7, [.ref h1, .ref h3, .null, .null, .ref h4])), (h1, .inr (0, [.ref h2, .ref h5, .ref h6, .ref h7, .ref h8, .ref h9, .ref h10, .int 0, .int 0, .int 2, .null])), (h2, .inr (1, [.int 1, .ref h11, .int 0, .int (-1), .int 0, .int 0, .int (-1), .ref h12]))] := hD
  exact W.iret (v := (-2)) hx hb hr (fun t ht hW => ⟨⟨(-2), _, rfl, ⟨rfl, rfl⟩, by rw [ht]; exact hP9, hD9⟩, hS.F ht⟩) hS.2.2 dX10_cede_13
def e_X8_againstDebate_0 : List Cond := [.fieldLink RX8 86 "MotionFloor$Assembly" "pending" "LMotionFloor$Pile;", .methodLink RX8 90 yX5_top, .instanceMethod yX5_top, .selects RX5 yX5_top yX5_top, .initialized RX5]
def v_X8_againstDebate_0 : List Cond := .code yX8_againstDebate cX8_againstDebate 3 (some .int) :: (e_X8_againstDebate_0 ++ (wsX00 ++ (v_X5_top_0 ++ [])))
theorem te_X8_againstDebate_0 : GoodIn lw_tbl e_X8_againstDebate_0 := wGc z217 (wGc z236 (wGc z184 (wGc z183 (wGc z26 (wG0)))))
theorem t_X8_againstDebate_0 : GoodIn lw_tbl v_X8_againstDebate_0 := wGc z237 (wGa te_X8_againstDebate_0 (wGa zcX0 (wGa t_X5_top_0 (wG0))))
set_option maxHeartbeats 4000000 in
set_option maxRecDepth 100000 in
theorem m_X8_againstDebate_0 (l : Launch) (G : va_G) (K : Nat → ClassId) (h0 h1 h2 h3 h4 h5 h6 h7 h8 : Nat) (p0 : Int32) (sz : Nat) : Met l yX8_againstDebate v_X8_againstDebate_0 ({ frames := 2, cells := 0, slots := 0, locals := 41 }) (va_Pc [.ref h0, .int p0] (wS G K sz [(h0, .inr (0, [.ref h2, .ref h1, .ref h3, .ref h4, .ref h5, .ref h6, .ref h7, .int 0, .int 0, .int 0, .null])), (h1, .inr (4, [.ref h8, .int 0]))])) (va_Qi (fun (r : Int32) (u : va_W) => (r = 7 ∧ u = [(h0, .inr (0, [.ref h2, .ref h1, .ref h3, .ref h4, .ref h5, .ref h6, .ref h7, .int 0, .int 0, .int 0, .null])), (h1, .inr (4, [.ref h8, .int 0]))])) (wB G (va_A [(h0, .inr (0, [.ref h2, .ref h1, .ref h3, .ref h4, .ref h5, .ref h6, .ref h7, .int 0, .int 0, .int 0, .null])), (h1, .inr (4, [.ref h8, .int 0]))] sz)) (va_A [(h0, .inr (0, [.ref h2, .ref h1, .ref h3, .ref h4, .ref h5, .ref h6, .ref h7, .int 0, .int 0, .int 0, .null])), (h1, .inr (4, [.ref h8, .int 0]))] sz)) 0 0 (va_A [(h0, .inr (0, [.ref h2, .ref h1, .ref h3, .ref h4, .ref h5, .ref h6, .ref h7, .int 0, .int 0, .int 0, .null])), (h1, .inr (4, [.ref h8, .int 0]))] sz) := by
  refine Met.ofW (cc := cX8_againstDebate) (maxL := 3) (ret := (some .int)) (by decide) rfl ?_
  intro p e s m args below meth c s₁ B hml hv
  obtain ⟨rfl, hsz, hP, hK, hD0, hE⟩ := hv
  have hx := B.exec
  have hb := B.bytes
  have hr := B.returns
  have hts := atoms_spec (ws := v_X8_againstDebate_0) B.pre
  have t_ := t_X8_againstDebate_0
  have mw : ∀ w ∈ e_X8_againstDebate_0, w ∈ v_X8_againstDebate_0 := fun w h => List.mem_cons_of_mem _ (List.mem_append_left _ h)
  have hw := fun w (h : w ∈ e_X8_againstDebate_0) => hts w (mw w h)
  have iX0 : ∀ w ∈ wsX00, w ∈ v_X8_againstDebate_0 := fun w h => List.mem_cons_of_mem _ (List.mem_append_right _ (List.mem_append_left _ h))
  have j_X5_top_0 : ∀ w ∈ v_X5_top_0, w ∈ v_X8_againstDebate_0 := fun w h => List.mem_cons_of_mem _ (List.mem_append_right _ (List.mem_append_right _ (List.mem_append_left _ h)))
  have hown : s.vm.findClass RX8 = some m.cls := findClass_of_methodNamed B.named
  have hlocks := B.notSynchronized
  subst hsz
  have hD := hD0.self (sz := s.heap.size)
  generalize hAe : va_A [(h0, .inr (0, [.ref h2, .ref h1, .ref h3, .ref h4, .ref h5, .ref h6, .ref h7, .int 0, .int 0, .int 0, .null])), (h1, .inr (4, [.ref h8, .int 0]))] s.heap.size = A at hD ⊢
  have hA : ∀ q : Nat, s.heap.size ≤ q → A q := fun q h => by rw [← hAe]; exact Or.inr h
  have hS : va_S A s.heap s.heap [] := va_S.rf
  have hP : va_P G vwCl [(h0, .inr (0, [.ref h2, .ref h1, .ref h3, .ref h4, .ref h5, .ref h6, .ref h7, .int 0, .int 0, .int 0, .null])), (h1, .inr (4, [.ref h8, .int 0]))] s.heap := hP
  have hl := lv_entry ([.ref h0, .int p0]) (n := 3) (Nat.le_of_ble_eq_true rfl)
  rw [lg_entry_eq]
  generalize (lg_sl ([.ref h0, .int p0]) ++ List.replicate (3 - (lg_sl ([.ref h0, .int p0])).length) Slot.unset).toArray = ls at hl ⊢
  have hl : lv_has ls 3 [(0, .ref h0), (1, .int p0)] := hl
  refine lv_aload_n hx hb dX8_againstDebate_0 rfl (lv_at hl 0 rfl) ?_
  refine va_get (D := G) (ci := 0) (v := .ref h1) (C := RX0) (T := TX0) (N := 11) hx hb hts iX0 hown hK hP 0 rfl rfl 1 (by decide) (hw (.fieldLink RX8 86 "MotionFloor$Assembly" "pending" "LMotionFloor$Pile;") (List.mem_of_getElem? (i := 0) rfl)) (fun _ h9 => h9) rfl dX8_againstDebate_1 ?_
  have hPc := hP.sub (ws' := [(h1, .inr (4, [.ref h8, .int 0]))]) [1] rfl
  have hDc := hD.sub (ws' := [(h1, .inr (4, [.ref h8, .int 0]))]) [1] (by decide) rfl
  refine wGoq (wc := [(h1, .inr (4, [.ref h8, .int 0]))]) (wr := [(h0, .inr (0, [.ref h2, .ref h1, .ref h3, .ref h4, .ref h5, .ref h6, .ref h7, .int 0, .int 0, .int 0, .null]))]) (va_runV (As := []) (rest := []) ⟨hx, hb, hml, hown, hts⟩ (m_X5_top_0 l G K h1 h8 _) (cwV 0 hts (wGV t_ (mw (.methodLink RX8 90 yX5_top) (List.mem_of_getElem? (i := 1) rfl)) (mw (.instanceMethod yX5_top) (List.mem_of_getElem? (i := 2) rfl)) (mw (.selects RX5 yX5_top yX5_top) (List.mem_of_getElem? (i := 3) rfl)) (mw (.initialized RX5) (List.mem_of_getElem? (i := 4) rfl)) j_X5_top_0) rfl rfl rfl (by decide +kernel) ⟨Nat.le_of_ble_eq_true rfl, Nat.le_of_ble_eq_true rfl⟩) (wPV hK hE hPc hDc 4 0 rfl rfl) rfl rfl hl.1 rfl (lv_room (Nat.le_of_ble_eq_true rfl)) dX8_againstDebate_4 ⟨Nat.le_of_ble_eq_true rfl, Nat.le_of_ble_eq_true rfl⟩) hP hD hS hA [1] [0] rfl rfl rfl (by decide) (fun r u H locs hw hP hD hS => ?_)
  rcases hw with ⟨rfl, rfl⟩
  have hP : va_P G vwCl [(h0, .inr (0, [.ref h2, .ref h1, .ref h3, .ref h4, .ref h5, .ref h6, .ref h7, .int 0, .int 0, .int 0, .null])), (h1, .inr (4, [.ref h8, .int 0]))] _ := hP
  have hD : va_D A [(h0, .inr (0, [.ref h2, .ref h1, .ref h3, .ref h4, .ref h5, .ref h6, .ref h7, .int 0, .int 0, .int 0, .null])), (h1, .inr (4, [.ref h8, .int 0]))] := hD
  refine wTop (v1 := .null) rfl ?_
  refine lv_astore_nN (lv' := [(2, .null), (0, .ref h0), (1, .int p0)]) hx hb dX8_againstDebate_7 rfl hl (by decide) rfl (fun ls hl => ?_)
  refine lv_aload_nN hx hb dX8_againstDebate_8 rfl (lv_at hl 0 rfl) ?_
  refine lv_ifnonnullN hx hb dX8_againstDebate_9 ?_
  refine lv_bipush (v := 7) hx hb dX8_againstDebate_12 (by decide) ?_
  have hP9 : va_P G vwCl [(h0, .inr (0, [.ref h2, .ref h1, .ref h3, .ref h4, .ref h5, .ref h6, .ref h7, .int 0, .int 0, .int 0, .null])), (h1, .inr (4, [.ref h8, .int 0]))] _ := hP
  have hD9 : va_D A [(h0, .inr (0, [.ref h2, .ref h1, .ref h3, .ref h4, .ref h5, .ref h6, .ref h7, .int 0, .int 0, .int 0, .null])), (h1, .inr (4, [.ref h8, .int 0]))] := hD
  exact W.iret (v := 7) hx hb hr (fun t ht hW => ⟨⟨7, _, rfl, ⟨rfl, rfl⟩, by rw [ht]; exact hP9, hD9⟩, hS.F ht⟩) hS.2.2 dX8_againstDebate_14
def e_X8_againstOnFloor_8 : List Cond := [.methodLink RX8 59 yX8_againstDebate, .static yX8_againstDebate, .initialized RX8]
def v_X8_againstOnFloor_8 : List Cond := .code yX8_againstOnFloor cX8_againstOnFloor 4 (some .int) :: (e_X8_againstOnFloor_8 ++ (v_X8_againstDebate_0 ++ []))
theorem te_X8_againstOnFloor_8 : GoodIn lw_tbl e_X8_againstOnFloor_8 := wGc z239 (wGc z238 (wGc z157 (wG0)))
theorem t_X8_againstOnFloor_8 : GoodIn lw_tbl v_X8_againstOnFloor_8 := wGc z161 (wGa te_X8_againstOnFloor_8 (wGa t_X8_againstDebate_0 (wG0)))
set_option maxHeartbeats 4000000 in
set_option maxRecDepth 100000 in
theorem m_X8_againstOnFloor_8 (l : Launch) (G : va_G) (K : Nat → ClassId) (h0 h1 h2 h3 h4 h5 h6 h7 h8 : Nat) (p0 : Int32) (sz : Nat) : Met l yX8_againstOnFloor v_X8_againstOnFloor_8 ({ frames := 3, cells := 0, slots := 0, locals := 63 }) (va_Pc [.ref h0, .int 9, .int p0, .int 0] (wS G K sz [(h0, .inr (0, [.ref h2, .ref h1, .ref h3, .ref h4, .ref h5, .ref h6, .ref h7, .int 0, .int 0, .int 0, .null])), (h1, .inr (4, [.ref h8, .int 0]))])) (va_Qi (fun (r : Int32) (u : va_W) => (r = 7 ∧ u = [(h0, .inr (0, [.ref h2, .ref h1, .ref h3, .ref h4, .ref h5, .ref h6, .ref h7, .int 0, .int 0, .int 0, .null])), (h1, .inr (4, [.ref h8, .int 0]))])) (wB G (va_A [(h0, .inr (0, [.ref h2, .ref h1, .ref h3, .ref h4, .ref h5, .ref h6, .ref h7, .int 0, .int 0, .int 0, .null])), (h1, .inr (4, [.ref h8, .int 0]))] sz)) (va_A [(h0, .inr (0, [.ref h2, .ref h1, .ref h3, .ref h4, .ref h5, .ref h6, .ref h7, .int 0, .int 0, .int 0, .null])), (h1, .inr (4, [.ref h8, .int 0]))] sz)) 0 0 (va_A [(h0, .inr (0, [.ref h2, .ref h1, .ref h3, .ref h4, .ref h5, .ref h6, .ref h7, .int 0, .int 0, .int 0, .null])), (h1, .inr (4, [.ref h8, .int 0]))] sz) := by
  refine Met.ofW (cc := cX8_againstOnFloor) (maxL := 4) (ret := (some .int)) (by decide) rfl ?_
  intro p e s m args below meth c s₁ B hml hv
  obtain ⟨rfl, hsz, hP, hK, hD0, hE⟩ := hv
  have hx := B.exec
  have hb := B.bytes
  have hr := B.returns
  have hts := atoms_spec (ws := v_X8_againstOnFloor_8) B.pre
  have t_ := t_X8_againstOnFloor_8
  have mw : ∀ w ∈ e_X8_againstOnFloor_8, w ∈ v_X8_againstOnFloor_8 := fun w h => List.mem_cons_of_mem _ (List.mem_append_left _ h)
  have hw := fun w (h : w ∈ e_X8_againstOnFloor_8) => hts w (mw w h)
  have j_X8_againstDebate_0 : ∀ w ∈ v_X8_againstDebate_0, w ∈ v_X8_againstOnFloor_8 := fun w h => List.mem_cons_of_mem _ (List.mem_append_right _ (List.mem_append_left _ h))
  have hown : s.vm.findClass RX8 = some m.cls := findClass_of_methodNamed B.named
  have hlocks := B.notSynchronized
  subst hsz
  have hD := hD0.self (sz := s.heap.size)
  generalize hAe : va_A [(h0, .inr (0, [.ref h2, .ref h1, .ref h3, .ref h4, .ref h5, .ref h6, .ref h7, .int 0, .int 0, .int 0, .null])), (h1, .inr (4, [.ref h8, .int 0]))] s.heap.size = A at hD ⊢
  have hA : ∀ q : Nat, s.heap.size ≤ q → A q := fun q h => by rw [← hAe]; exact Or.inr h
  have hS : va_S A s.heap s.heap [] := va_S.rf
  have hP : va_P G vwCl [(h0, .inr (0, [.ref h2, .ref h1, .ref h3, .ref h4, .ref h5, .ref h6, .ref h7, .int 0, .int 0, .int 0, .null])), (h1, .inr (4, [.ref h8, .int 0]))] s.heap := hP
  have hl := lv_entry ([.ref h0, .int 9, .int p0, .int 0]) (n := 4) (Nat.le_of_ble_eq_true rfl)
  rw [lg_entry_eq]
  generalize (lg_sl ([.ref h0, .int 9, .int p0, .int 0]) ++ List.replicate (4 - (lg_sl ([.ref h0, .int 9, .int p0, .int 0])).length) Slot.unset).toArray = ls at hl ⊢
  have hl : lv_has ls 4 [(0, .ref h0), (1, .int 9), (2, .int p0), (3, .int 0)] := hl
  refine lv_iload_n hx hb dX8_againstOnFloor_0 rfl (lv_at hl 1 rfl) ?_
  refine lv_tableIn (tgt := 174) hx hb dX8_againstOnFloor_1 (by decide) (by decide) (by decide) (by decide) ?_
  refine lv_aload_n hx hb dX8_againstOnFloor_174 rfl (lv_at hl 0 rfl) ?_
  refine lv_iload_n hx hb dX8_againstOnFloor_175 rfl (lv_at hl 2 rfl) ?_
  have hPc := hP.sub (ws' := [(h0, .inr (0, [.ref h2, .ref h1, .ref h3, .ref h4, .ref h5, .ref h6, .ref h7, .int 0, .int 0, .int 0, .null])), (h1, .inr (4, [.ref h8, .int 0]))]) [0, 1] rfl
  have hDc := hD.sub (ws' := [(h0, .inr (0, [.ref h2, .ref h1, .ref h3, .ref h4, .ref h5, .ref h6, .ref h7, .int 0, .int 0, .int 0, .null])), (h1, .inr (4, [.ref h8, .int 0]))]) [0, 1] (by decide) rfl
  refine wGoi (wc := [(h0, .inr (0, [.ref h2, .ref h1, .ref h3, .ref h4, .ref h5, .ref h6, .ref h7, .int 0, .int 0, .int 0, .null])), (h1, .inr (4, [.ref h8, .int 0]))]) (wr := []) (va_runS (As := [.ref h0, .int p0]) (rest := []) ⟨hx, hb, hml, hown, hts⟩ (m_X8_againstDebate_0 l G K h0 h1 h2 h3 h4 h5 h6 h7 h8 p0 _) (va_cwS 2 hts (wGS t_ (mw (.methodLink RX8 59 yX8_againstDebate) (List.mem_of_getElem? (i := 0) rfl)) (mw (.static yX8_againstDebate) (List.mem_of_getElem? (i := 1) rfl)) (mw (.initialized RX8) (List.mem_of_getElem? (i := 2) rfl)) j_X8_againstDebate_0) rfl rfl rfl (by decide +kernel) ⟨Nat.le_of_ble_eq_true rfl, Nat.le_of_ble_eq_true rfl⟩) (wPS hK hE hPc hDc) rfl rfl hl.1 rfl (lv_room (Nat.le_of_ble_eq_true rfl)) dX8_againstOnFloor_176 ⟨Nat.le_of_ble_eq_true rfl, Nat.le_of_ble_eq_true rfl⟩) hP hD hS hA [0, 1] [] rfl rfl rfl (by decide) (fun r u H locs hw hP hD hS => ?_)
  rcases hw with ⟨rfl, rfl⟩
  have hP : va_P G vwCl [(h0, .inr (0, [.ref h2, .ref h1, .ref h3, .ref h4, .ref h5, .ref h6, .ref h7, .int 0, .int 0, .int 0, .null])), (h1, .inr (4, [.ref h8, .int 0]))] _ := hP
  have hD : va_D A [(h0, .inr (0, [.ref h2, .ref h1, .ref h3, .ref h4, .ref h5, .ref h6, .ref h7, .int 0, .int 0, .int 0, .null])), (h1, .inr (4, [.ref h8, .int 0]))] := hD
  have hP9 : va_P G vwCl [(h0, .inr (0, [.ref h2, .ref h1, .ref h3, .ref h4, .ref h5, .ref h6, .ref h7, .int 0, .int 0, .int 0, .null])), (h1, .inr (4, [.ref h8, .int 0]))] _ := hP
  have hD9 : va_D A [(h0, .inr (0, [.ref h2, .ref h1, .ref h3, .ref h4, .ref h5, .ref h6, .ref h7, .int 0, .int 0, .int 0, .null])), (h1, .inr (4, [.ref h8, .int 0]))] := hD
  exact W.iret (v := 7) hx hb hr (fun t ht hW => ⟨⟨7, _, rfl, ⟨rfl, rfl⟩, by rw [ht]; exact hP9, hD9⟩, hS.F ht⟩) hS.2.2 dX8_againstOnFloor_179
def e_X8_against_8 : List Cond := [.methodLink RX8 9 yX8_againstOnFloor, .static yX8_againstOnFloor, .initialized RX8]
def v_X8_against_8 : List Cond := .code yX8_against cX8_against 7 (some .int) :: (e_X8_against_8 ++ (v_X8_againstOnFloor_8 ++ []))
theorem te_X8_against_8 : GoodIn lw_tbl e_X8_against_8 := wGc z169 (wGc z168 (wGc z157 (wG0)))
theorem t_X8_against_8 : GoodIn lw_tbl v_X8_against_8 := wGc z170 (wGa te_X8_against_8 (wGa t_X8_againstOnFloor_8 (wG0)))
set_option maxHeartbeats 4000000 in
set_option maxRecDepth 100000 in
theorem m_X8_against_8 (l : Launch) (G : va_G) (K : Nat → ClassId) (h0 h1 h2 h3 h4 h5 h6 h7 h8 : Nat) (p0 : Int32) (sz : Nat) : Met l yX8_against v_X8_against_8 ({ frames := 4, cells := 0, slots := 0, locals := 86 }) (va_Pc [.ref h0, .int 9, .int p0, .int 0, .int 0, .int 0] (wS G K sz [(h0, .inr (0, [.ref h2, .ref h1, .ref h3, .ref h4, .ref h5, .ref h6, .ref h7, .int 0, .int 0, .int 0, .null])), (h1, .inr (4, [.ref h8, .int 0]))])) (va_Qi (fun (r : Int32) (u : va_W) => (r = 7 ∧ u = [(h0, .inr (0, [.ref h2, .ref h1, .ref h3, .ref h4, .ref h5, .ref h6, .ref h7, .int 0, .int 0, .int 0, .null])), (h1, .inr (4, [.ref h8, .int 0]))])) (wB G (va_A [(h0, .inr (0, [.ref h2, .ref h1, .ref h3, .ref h4, .ref h5, .ref h6, .ref h7, .int 0, .int 0, .int 0, .null])), (h1, .inr (4, [.ref h8, .int 0]))] sz)) (va_A [(h0, .inr (0, [.ref h2, .ref h1, .ref h3, .ref h4, .ref h5, .ref h6, .ref h7, .int 0, .int 0, .int 0, .null])), (h1, .inr (4, [.ref h8, .int 0]))] sz)) 0 0 (va_A [(h0, .inr (0, [.ref h2, .ref h1, .ref h3, .ref h4, .ref h5, .ref h6, .ref h7, .int 0, .int 0, .int 0, .null])), (h1, .inr (4, [.ref h8, .int 0]))] sz) := by
  refine Met.ofW (cc := cX8_against) (maxL := 7) (ret := (some .int)) (by decide) rfl ?_
  intro p e s m args below meth c s₁ B hml hv
  obtain ⟨rfl, hsz, hP, hK, hD0, hE⟩ := hv
  have hx := B.exec
  have hb := B.bytes
  have hr := B.returns
  have hts := atoms_spec (ws := v_X8_against_8) B.pre
  have t_ := t_X8_against_8
  have mw : ∀ w ∈ e_X8_against_8, w ∈ v_X8_against_8 := fun w h => List.mem_cons_of_mem _ (List.mem_append_left _ h)
  have hw := fun w (h : w ∈ e_X8_against_8) => hts w (mw w h)
  have j_X8_againstOnFloor_8 : ∀ w ∈ v_X8_againstOnFloor_8, w ∈ v_X8_against_8 := fun w h => List.mem_cons_of_mem _ (List.mem_append_right _ (List.mem_append_left _ h))
  have hown : s.vm.findClass RX8 = some m.cls := findClass_of_methodNamed B.named
  have hlocks := B.notSynchronized
  subst hsz
  have hD := hD0.self (sz := s.heap.size)
  generalize hAe : va_A [(h0, .inr (0, [.ref h2, .ref h1, .ref h3, .ref h4, .ref h5, .ref h6, .ref h7, .int 0, .int 0, .int 0, .null])), (h1, .inr (4, [.ref h8, .int 0]))] s.heap.size = A at hD ⊢
  have hA : ∀ q : Nat, s.heap.size ≤ q → A q := fun q h => by rw [← hAe]; exact Or.inr h
  have hS : va_S A s.heap s.heap [] := va_S.rf
  have hP : va_P G vwCl [(h0, .inr (0, [.ref h2, .ref h1, .ref h3, .ref h4, .ref h5, .ref h6, .ref h7, .int 0, .int 0, .int 0, .null])), (h1, .inr (4, [.ref h8, .int 0]))] s.heap := hP
  have hl := lv_entry ([.ref h0, .int 9, .int p0, .int 0, .int 0, .int 0]) (n := 7) (Nat.le_of_ble_eq_true rfl)
  rw [lg_entry_eq]
  generalize (lg_sl ([.ref h0, .int 9, .int p0, .int 0, .int 0, .int 0]) ++ List.replicate (7 - (lg_sl ([.ref h0, .int 9, .int p0, .int 0, .int 0, .int 0])).length) Slot.unset).toArray = ls at hl ⊢
  have hl : lv_has ls 7 [(0, .ref h0), (1, .int 9), (2, .int p0), (3, .int 0), (4, .int 0), (5, .int 0)] := hl
  refine lv_iload_n hx hb dX8_against_0 rfl (lv_at hl 1 rfl) ?_
  refine lv_bipush (v := 9) hx hb dX8_against_1 (by decide) ?_
  refine lv_icmp_gt (tgt := 18) hx hb dX8_against_3 (by decide) (fun c_ => absurd c_ (by decide)) (fun _ => ?_)
  refine lv_aload_n hx hb dX8_against_6 rfl (lv_at hl 0 rfl) ?_
  refine lv_iload_n hx hb dX8_against_7 rfl (lv_at hl 1 rfl) ?_
  refine lv_iload_n hx hb dX8_against_8 rfl (lv_at hl 2 rfl) ?_
  refine lv_iload_n hx hb dX8_against_9 rfl (lv_at hl 3 rfl) ?_
  have hPc := hP.sub (ws' := [(h0, .inr (0, [.ref h2, .ref h1, .ref h3, .ref h4, .ref h5, .ref h6, .ref h7, .int 0, .int 0, .int 0, .null])), (h1, .inr (4, [.ref h8, .int 0]))]) [0, 1] rfl
  have hDc := hD.sub (ws' := [(h0, .inr (0, [.ref h2, .ref h1, .ref h3, .ref h4, .ref h5, .ref h6, .ref h7, .int 0, .int 0, .int 0, .null])), (h1, .inr (4, [.ref h8, .int 0]))]) [0, 1] (by decide) rfl
  refine wGoi (wc := [(h0, .inr (0, [.ref h2, .ref h1, .ref h3, .ref h4, .ref h5, .ref h6, .ref h7, .int 0, .int 0, .int 0, .null])), (h1, .inr (4, [.ref h8, .int 0]))]) (wr := []) (va_runS (As := [.ref h0, .int 9, .int p0, .int 0]) (rest := []) ⟨hx, hb, hml, hown, hts⟩ (m_X8_againstOnFloor_8 l G K h0 h1 h2 h3 h4 h5 h6 h7 h8 p0 _) (va_cwS 4 hts (wGS t_ (mw (.methodLink RX8 9 yX8_againstOnFloor) (List.mem_of_getElem? (i := 0) rfl)) (mw (.static yX8_againstOnFloor) (List.mem_of_getElem? (i := 1) rfl)) (mw (.initialized RX8) (List.mem_of_getElem? (i := 2) rfl)) j_X8_againstOnFloor_8) rfl rfl rfl (by decide +kernel) ⟨Nat.le_of_ble_eq_true rfl, Nat.le_of_ble_eq_true rfl⟩) (wPS hK hE hPc hDc) rfl rfl hl.1 rfl (lv_room (Nat.le_of_ble_eq_true rfl)) dX8_against_10 ⟨Nat.le_of_ble_eq_true rfl, Nat.le_of_ble_eq_true rfl⟩) hP hD hS hA [0, 1] [] rfl rfl rfl (by decide) (fun r u H locs hw hP hD hS => ?_)
  rcases hw with ⟨rfl, rfl⟩
  have hP : va_P G vwCl [(h0, .inr (0, [.ref h2, .ref h1, .ref h3, .ref h4, .ref h5, .ref h6, .ref h7, .int 0, .int 0, .int 0, .null])), (h1, .inr (4, [.ref h8, .int 0]))] _ := hP
  have hD : va_D A [(h0, .inr (0, [.ref h2, .ref h1, .ref h3, .ref h4, .ref h5, .ref h6, .ref h7, .int 0, .int 0, .int 0, .null])), (h1, .inr (4, [.ref h8, .int 0]))] := hD
  refine lv_istore (lv' := [(6, .int 7), (0, .ref h0), (1, .int 9), (2, .int p0), (3, .int 0), (4, .int 0), (5, .int 0)]) hx hb dX8_against_13 hl (by decide) rfl (fun ls hl => ?_)
  refine lv_goto (tgt := 49) hx hb dX8_against_15 (by decide) ?_
  refine lv_iload hx hb dX8_against_49 (lv_at hl 0 rfl) ?_
  refine lv_if_ne (tgt := 69) hx hb dX8_against_51 (by decide) (fun _ => ?_) (fun c_ => absurd c_ (by decide))
  refine lv_iload hx hb dX8_against_69 (lv_at hl 0 rfl) ?_
  have hP9 : va_P G vwCl [(h0, .inr (0, [.ref h2, .ref h1, .ref h3, .ref h4, .ref h5, .ref h6, .ref h7, .int 0, .int 0, .int 0, .null])), (h1, .inr (4, [.ref h8, .int 0]))] _ := hP
  have hD9 : va_D A [(h0, .inr (0, [.ref h2, .ref h1, .ref h3, .ref h4, .ref h5, .ref h6, .ref h7, .int 0, .int 0, .int 0, .null])), (h1, .inr (4, [.ref h8, .int 0]))] := hD
  exact W.iret (v := 7) hx hb hr (fun t ht hW => ⟨⟨7, _, rfl, ⟨rfl, rfl⟩, by rw [ht]; exact hP9, hD9⟩, hS.F ht⟩) hS.2.2 dX8_against_71
def e_X0_enact_8 : List Cond := [.methodLink RX0 155 yX8_against, .static yX8_against, .initialized RX8, .fieldLink RX0 73 "MotionFloor$Assembly" "reason" "I"]
def v_X0_enact_8 : List Cond := .code yX0_enact cX0_enact 7 (some .int) :: (e_X0_enact_8 ++ (wsX00 ++ (v_X8_against_8 ++ [])))
theorem te_X0_enact_8 : GoodIn lw_tbl e_X0_enact_8 := wGc z205 (wGc z204 (wGc z157 (wGc z135 (wG0))))
theorem t_X0_enact_8 : GoodIn lw_tbl v_X0_enact_8 := wGc z206 (wGa te_X0_enact_8 (wGa zcX0 (wGa t_X8_against_8 (wG0))))
set_option maxHeartbeats 4000000 in
set_option maxRecDepth 100000 in
theorem m_X0_enact_8 (l : Launch) (G : va_G) (K : Nat → ClassId) (h0 h1 h2 h3 h4 h5 h6 h7 h8 : Nat) (p0 : Int32) (sz : Nat) : Met l yX0_enact v_X0_enact_8 ({ frames := 5, cells := 0, slots := 0, locals := 112 }) (va_Pc [.ref h0, .int 9, .int p0, .int 0, .int 0, .int 0] (wS G K sz [(h0, .inr (0, [.ref h2, .ref h1, .ref h3, .ref h4, .ref h5, .ref h6, .ref h7, .int 0, .int 0, .int 0, .null])), (h1, .inr (4, [.ref h8, .int 0]))])) (va_Qi (fun (r : Int32) (u : va_W) => (r = (-7) ∧ u = [(h0, .inr (0, [.ref h2, .ref h1, .ref h3, .ref h4, .ref h5, .ref h6, .ref h7, .int 0, .int 0, .int 7, .null])), (h1, .inr (4, [.ref h8, .int 0]))])) (wB G (va_A [(h0, .inr (0, [.ref h2, .ref h1, .ref h3, .ref h4, .ref h5, .ref h6, .ref h7, .int 0, .int 0, .int 0, .null])), (h1, .inr (4, [.ref h8, .int 0]))] sz)) (va_A [(h0, .inr (0, [.ref h2, .ref h1, .ref h3, .ref h4, .ref h5, .ref h6, .ref h7, .int 0, .int 0, .int 0, .null])), (h1, .inr (4, [.ref h8, .int 0]))] sz)) 0 0 (va_A [(h0, .inr (0, [.ref h2, .ref h1, .ref h3, .ref h4, .ref h5, .ref h6, .ref h7, .int 0, .int 0, .int 0, .null])), (h1, .inr (4, [.ref h8, .int 0]))] sz) := by
  refine Met.ofW (cc := cX0_enact) (maxL := 7) (ret := (some .int)) (by decide) rfl ?_
  intro p e s m args below meth c s₁ B hml hv
  obtain ⟨rfl, hsz, hP, hK, hD0, hE⟩ := hv
  have hx := B.exec
  have hb := B.bytes
  have hr := B.returns
  have hts := atoms_spec (ws := v_X0_enact_8) B.pre
  have t_ := t_X0_enact_8
  have mw : ∀ w ∈ e_X0_enact_8, w ∈ v_X0_enact_8 := fun w h => List.mem_cons_of_mem _ (List.mem_append_left _ h)
  have hw := fun w (h : w ∈ e_X0_enact_8) => hts w (mw w h)
  have iX0 : ∀ w ∈ wsX00, w ∈ v_X0_enact_8 := fun w h => List.mem_cons_of_mem _ (List.mem_append_right _ (List.mem_append_left _ h))
  have j_X8_against_8 : ∀ w ∈ v_X8_against_8, w ∈ v_X0_enact_8 := fun w h => List.mem_cons_of_mem _ (List.mem_append_right _ (List.mem_append_right _ (List.mem_append_left _ h)))
  have hown : s.vm.findClass RX0 = some m.cls := findClass_of_methodNamed B.named
  have hlocks := B.notSynchronized
  subst hsz
  have hD := hD0.self (sz := s.heap.size)
  generalize hAe : va_A [(h0, .inr (0, [.ref h2, .ref h1, .ref h3, .ref h4, .ref h5, .ref h6, .ref h7, .int 0, .int 0, .int 0, .null])), (h1, .inr (4, [.ref h8, .int 0]))] s.heap.size = A at hD ⊢
  have hA : ∀ q : Nat, s.heap.size ≤ q → A q := fun q h => by rw [← hAe]; exact Or.inr h
  have hS : va_S A s.heap s.heap [] := va_S.rf
  have hP : va_P G vwCl [(h0, .inr (0, [.ref h2, .ref h1, .ref h3, .ref h4, .ref h5, .ref h6, .ref h7, .int 0, .int 0, .int 0, .null])), (h1, .inr (4, [.ref h8, .int 0]))] s.heap := hP
  have hl := lv_entry ([.ref h0, .int 9, .int p0, .int 0, .int 0, .int 0]) (n := 7) (Nat.le_of_ble_eq_true rfl)
  rw [lg_entry_eq]
  generalize (lg_sl ([.ref h0, .int 9, .int p0, .int 0, .int 0, .int 0]) ++ List.replicate (7 - (lg_sl ([.ref h0, .int 9, .int p0, .int 0, .int 0, .int 0])).length) Slot.unset).toArray = ls at hl ⊢
  have hl : lv_has ls 7 [(0, .ref h0), (1, .int 9), (2, .int p0), (3, .int 0), (4, .int 0), (5, .int 0)] := hl
  refine lv_aload_n hx hb dX0_enact_0 rfl (lv_at hl 0 rfl) ?_
  refine lv_aload_n hx hb dX0_enact_1 rfl (lv_at hl 0 rfl) ?_
  refine lv_iload_n hx hb dX0_enact_2 rfl (lv_at hl 1 rfl) ?_
  refine lv_iload_n hx hb dX0_enact_3 rfl (lv_at hl 2 rfl) ?_
  refine lv_iload_n hx hb dX0_enact_4 rfl (lv_at hl 3 rfl) ?_
  refine lv_iload hx hb dX0_enact_5 (lv_at hl 4 rfl) ?_
  refine lv_iload hx hb dX0_enact_7 (lv_at hl 5 rfl) ?_
  have hPc := hP.sub (ws' := [(h0, .inr (0, [.ref h2, .ref h1, .ref h3, .ref h4, .ref h5, .ref h6, .ref h7, .int 0, .int 0, .int 0, .null])), (h1, .inr (4, [.ref h8, .int 0]))]) [0, 1] rfl
  have hDc := hD.sub (ws' := [(h0, .inr (0, [.ref h2, .ref h1, .ref h3, .ref h4, .ref h5, .ref h6, .ref h7, .int 0, .int 0, .int 0, .null])), (h1, .inr (4, [.ref h8, .int 0]))]) [0, 1] (by decide) rfl
  refine wGoi (wc := [(h0, .inr (0, [.ref h2, .ref h1, .ref h3, .ref h4, .ref h5, .ref h6, .ref h7, .int 0, .int 0, .int 0, .null])), (h1, .inr (4, [.ref h8, .int 0]))]) (wr := []) (va_runS (As := [.ref h0, .int 9, .int p0, .int 0, .int 0, .int 0]) (rest := [.ref h0]) ⟨hx, hb, hml, hown, hts⟩ (m_X8_against_8 l G K h0 h1 h2 h3 h4 h5 h6 h7 h8 p0 _) (va_cwS 6 hts (wGS t_ (mw (.methodLink RX0 155 yX8_against) (List.mem_of_getElem? (i := 0) rfl)) (mw (.static yX8_against) (List.mem_of_getElem? (i := 1) rfl)) (mw (.initialized RX8) (List.mem_of_getElem? (i := 2) rfl)) j_X8_against_8) rfl rfl rfl (by decide +kernel) ⟨Nat.le_of_ble_eq_true rfl, Nat.le_of_ble_eq_true rfl⟩) (wPS hK hE hPc hDc) rfl rfl hl.1 rfl (lv_room (Nat.le_of_ble_eq_true rfl)) dX0_enact_9 ⟨Nat.le_of_ble_eq_true rfl, Nat.le_of_ble_eq_true rfl⟩) hP hD hS hA [0, 1] [] rfl rfl rfl (by decide) (fun r u H locs hw hP hD hS => ?_)
  rcases hw with ⟨rfl, rfl⟩
  have hP : va_P G vwCl [(h0, .inr (0, [.ref h2, .ref h1, .ref h3, .ref h4, .ref h5, .ref h6, .ref h7, .int 0, .int 0, .int 0, .null])), (h1, .inr (4, [.ref h8, .int 0]))] _ := hP
  have hD : va_D A [(h0, .inr (0, [.ref h2, .ref h1, .ref h3, .ref h4, .ref h5, .ref h6, .ref h7, .int 0, .int 0, .int 0, .null])), (h1, .inr (4, [.ref h8, .int 0]))] := hD
  refine va_put (D := G) (ci := 0) (v := .int 7) (ty := .int) (C := RX0) (T := TX0) (N := 11) hx hb hts iX0 tyX0 tyX0_ok nmX0 hown hK hP hD hS 0 rfl rfl 9 (by decide) (hw (.fieldLink RX0 73 "MotionFloor$Assembly" "reason" "I") (List.mem_of_getElem? (i := 3) rfl)) (fun _ h9 => h9) rfl (by decide +kernel) rfl rfl (Nat.le_of_ble_eq_true rfl) dX0_enact_12 (fun H locs hP hD hS => ?_)
  have hP : va_P G vwCl [(h0, .inr (0, [.ref h2, .ref h1, .ref h3, .ref h4, .ref h5, .ref h6, .ref h7, .int 0, .int 0, .int 7, .null])), (h1, .inr (4, [.ref h8, .int 0]))] _ := hP
  have hD : va_D A [(h0, .inr (0, [.ref h2, .ref h1, .ref h3, .ref h4, .ref h5, .ref h6, .ref h7, .int 0, .int 0, .int 7, .null])), (h1, .inr (4, [.ref h8, .int 0]))] := hD
  refine lv_aload_n hx hb dX0_enact_15 rfl (lv_at hl 0 rfl) ?_
  refine va_get (D := G) (ci := 0) (v := .int 7) (C := RX0) (T := TX0) (N := 11) hx hb hts iX0 hown hK hP 0 rfl rfl 9 (by decide) (hw (.fieldLink RX0 73 "MotionFloor$Assembly" "reason" "I") (List.mem_of_getElem? (i := 3) rfl)) (fun _ h9 => h9) rfl dX0_enact_16 ?_
  refine lv_if_eq (tgt := 28) hx hb dX0_enact_19 (by decide) (fun c_ => absurd c_ (by decide)) (fun _ => ?_)
  refine lv_aload_n hx hb dX0_enact_22 rfl (lv_at hl 0 rfl) ?_
  refine va_get (D := G) (ci := 0) (v := .int 7) (C := RX0) (T := TX0) (N := 11) hx hb hts iX0 hown hK hP 0 rfl rfl 9 (by decide) (hw (.fieldLink RX0 73 "MotionFloor$Assembly" "reason" "I") (List.mem_of_getElem? (i := 3) rfl)) (fun _ h9 => h9) rfl dX0_enact_23 ?_
  refine lv_ineg hx hb dX0_enact_26 ?_
  refine wTop (v1 := .int (-7)) (congrArg Value.int (by decide)) ?_
  have hP9 : va_P G vwCl [(h0, .inr (0, [.ref h2, .ref h1, .ref h3, .ref h4, .ref h5, .ref h6, .ref h7, .int 0, .int 0, .int 7, .null])), (h1, .inr (4, [.ref h8, .int 0]))] _ := hP
  have hD9 : va_D A [(h0, .inr (0, [.ref h2, .ref h1, .ref h3, .ref h4, .ref h5, .ref h6, .ref h7, .int 0, .int 0, .int 7, .null])), (h1, .inr (4, [.ref h8, .int 0]))] := hD
  exact W.iret (v := (-7)) hx hb hr (fun t ht hW => ⟨⟨(-7), _, rfl, ⟨rfl, rfl⟩, by rw [ht]; exact hP9, hD9⟩, hS.F ht⟩) hS.2.2 dX0_enact_27
def e_X10_debate_0 : List Cond := [.fieldLink RX10 10 "MotionFloor" "now" "LMotionFloor$Assembly;", .methodLink RX10 32 yX0_enact, .instanceMethod yX0_enact, .selects RX0 yX0_enact yX0_enact, .initialized RX0]
def v_X10_debate_0 : List Cond := .code yX10_debate cX10_debate 2 (some .int) :: (e_X10_debate_0 ++ (wsX100 ++ (v_X0_enact_8 ++ [])))
theorem te_X10_debate_0 : GoodIn lw_tbl e_X10_debate_0 := wGc z115 (wGc z209 (wGc z208 (wGc z207 (wGc z118 (wG0)))))
theorem t_X10_debate_0 : GoodIn lw_tbl v_X10_debate_0 := wGc z240 (wGa te_X10_debate_0 (wGa zcX10 (wGa t_X0_enact_8 (wG0))))
set_option maxHeartbeats 4000000 in
set_option maxRecDepth 100000 in
theorem m_X10_debate_0 (l : Launch) (G : va_G) (K : Nat → ClassId) (h0 h1 h2 h3 h4 h5 h6 h7 h8 h9 h10 h11 : Nat) (p0 : Int32) (sz : Nat) : Met l yX10_debate v_X10_debate_0 ({ frames := 6, cells := 0, slots := 0, locals := 138 }) (va_Pc [.ref h0, .int p0] (wS G K sz [(h0, .inr (7, [.ref h1, .ref h3, .null, .null, .ref h4])), (h1, .inr (0, [.ref h5, .ref h2, .ref h6, .ref h7, .ref h8, .ref h9, .ref h10, .int 0, .int 0, .int 0, .null])), (h2, .inr (4, [.ref h11, .int 0]))])) (va_Qi (fun (r : Int32) (u : va_W) => (r = (-7) ∧ u = [(h0, .inr (7, [.ref h1, .ref h3, .null, .null, .ref h4])), (h1, .inr (0, [.ref h5, .ref h2, .ref h6, .ref h7, .ref h8, .ref h9, .ref h10, .int 0, .int 0, .int 7, .null])), (h2, .inr (4, [.ref h11, .int 0]))])) (wB G (va_A [(h0, .inr (7, [.ref h1, .ref h3, .null, .null, .ref h4])), (h1, .inr (0, [.ref h5, .ref h2, .ref h6, .ref h7, .ref h8, .ref h9, .ref h10, .int 0, .int 0, .int 0, .null])), (h2, .inr (4, [.ref h11, .int 0]))] sz)) (va_A [(h0, .inr (7, [.ref h1, .ref h3, .null, .null, .ref h4])), (h1, .inr (0, [.ref h5, .ref h2, .ref h6, .ref h7, .ref h8, .ref h9, .ref h10, .int 0, .int 0, .int 0, .null])), (h2, .inr (4, [.ref h11, .int 0]))] sz)) 0 0 (va_A [(h0, .inr (7, [.ref h1, .ref h3, .null, .null, .ref h4])), (h1, .inr (0, [.ref h5, .ref h2, .ref h6, .ref h7, .ref h8, .ref h9, .ref h10, .int 0, .int 0, .int 0, .null])), (h2, .inr (4, [.ref h11, .int 0]))] sz) := by
  refine Met.ofW (cc := cX10_debate) (maxL := 2) (ret := (some .int)) (by decide) rfl ?_
  intro p e s m args below meth c s₁ B hml hv
  obtain ⟨rfl, hsz, hP, hK, hD0, hE⟩ := hv
  have hx := B.exec
  have hb := B.bytes
  have hr := B.returns
  have hts := atoms_spec (ws := v_X10_debate_0) B.pre
  have t_ := t_X10_debate_0
  have mw : ∀ w ∈ e_X10_debate_0, w ∈ v_X10_debate_0 := fun w h => List.mem_cons_of_mem _ (List.mem_append_left _ h)
  have hw := fun w (h : w ∈ e_X10_debate_0) => hts w (mw w h)
  have iX10 : ∀ w ∈ wsX100, w ∈ v_X10_debate_0 := fun w h => List.mem_cons_of_mem _ (List.mem_append_right _ (List.mem_append_left _ h))
  have j_X0_enact_8 : ∀ w ∈ v_X0_enact_8, w ∈ v_X10_debate_0 := fun w h => List.mem_cons_of_mem _ (List.mem_append_right _ (List.mem_append_right _ (List.mem_append_left _ h)))
  have hown : s.vm.findClass RX10 = some m.cls := findClass_of_methodNamed B.named
  have hlocks := B.notSynchronized
  subst hsz
  have hD := hD0.self (sz := s.heap.size)
  generalize hAe : va_A [(h0, .inr (7, [.ref h1, .ref h3, .null, .null, .ref h4])), (h1, .inr (0, [.ref h5, .ref h2, .ref h6, .ref h7, .ref h8, .ref h9, .ref h10, .int 0, .int 0, .int 0, .null])), (h2, .inr (4, [.ref h11, .int 0]))] s.heap.size = A at hD ⊢
  have hA : ∀ q : Nat, s.heap.size ≤ q → A q := fun q h => by rw [← hAe]; exact Or.inr h
  have hS : va_S A s.heap s.heap [] := va_S.rf
  have hP : va_P G vwCl [(h0, .inr (7, [.ref h1, .ref h3, .null, .null, .ref h4])), (h1, .inr (0, [.ref h5, .ref h2, .ref h6, .ref h7, .ref h8, .ref h9, .ref h10, .int 0, .int 0, .int 0, .null])), (h2, .inr (4, [.ref h11, .int 0]))] s.heap := hP
  have hl := lv_entry ([.ref h0, .int p0]) (n := 2) (Nat.le_of_ble_eq_true rfl)
  rw [lg_entry_eq]
  generalize (lg_sl ([.ref h0, .int p0]) ++ List.replicate (2 - (lg_sl ([.ref h0, .int p0])).length) Slot.unset).toArray = ls at hl ⊢
  have hl : lv_has ls 2 [(0, .ref h0), (1, .int p0)] := hl
  refine lv_aload_n hx hb dX10_debate_0 rfl (lv_at hl 0 rfl) ?_
  refine va_get (D := G) (ci := 7) (v := .ref h1) (C := RX10) (T := TX10) (N := 5) hx hb hts iX10 hown hK hP 0 rfl rfl 0 (by decide) (hw (.fieldLink RX10 10 "MotionFloor" "now" "LMotionFloor$Assembly;") (List.mem_of_getElem? (i := 0) rfl)) (fun _ h9 => h9) rfl dX10_debate_1 ?_
  refine lv_bipush (v := 9) hx hb dX10_debate_4 (by decide) ?_
  refine lv_iload_n hx hb dX10_debate_6 rfl (lv_at hl 1 rfl) ?_
  refine lv_iconst (v := 0) hx hb dX10_debate_7 (by decide) ?_
  refine lv_iconst (v := 0) hx hb dX10_debate_8 (by decide) ?_
  refine lv_iconst (v := 0) hx hb dX10_debate_9 (by decide) ?_
  have hPc := hP.sub (ws' := [(h1, .inr (0, [.ref h5, .ref h2, .ref h6, .ref h7, .ref h8, .ref h9, .ref h10, .int 0, .int 0, .int 0, .null])), (h2, .inr (4, [.ref h11, .int 0]))]) [1, 2] rfl
  have hDc := hD.sub (ws' := [(h1, .inr (0, [.ref h5, .ref h2, .ref h6, .ref h7, .ref h8, .ref h9, .ref h10, .int 0, .int 0, .int 0, .null])), (h2, .inr (4, [.ref h11, .int 0]))]) [1, 2] (by decide) rfl
  refine wGoi (wc := [(h1, .inr (0, [.ref h5, .ref h2, .ref h6, .ref h7, .ref h8, .ref h9, .ref h10, .int 0, .int 0, .int 0, .null])), (h2, .inr (4, [.ref h11, .int 0]))]) (wr := [(h0, .inr (7, [.ref h1, .ref h3, .null, .null, .ref h4]))]) (va_runV (As := [.int 9, .int p0, .int 0, .int 0, .int 0]) (rest := []) ⟨hx, hb, hml, hown, hts⟩ (m_X0_enact_8 l G K h1 h2 h5 h6 h7 h8 h9 h10 h11 p0 _) (cwV 5 hts (wGV t_ (mw (.methodLink RX10 32 yX0_enact) (List.mem_of_getElem? (i := 1) rfl)) (mw (.instanceMethod yX0_enact) (List.mem_of_getElem? (i := 2) rfl)) (mw (.selects RX0 yX0_enact yX0_enact) (List.mem_of_getElem? (i := 3) rfl)) (mw (.initialized RX0) (List.mem_of_getElem? (i := 4) rfl)) j_X0_enact_8) rfl rfl rfl (by decide +kernel) ⟨Nat.le_of_ble_eq_true rfl, Nat.le_of_ble_eq_true rfl⟩) (wPV hK hE hPc hDc 0 0 rfl rfl) rfl rfl hl.1 rfl (lv_room (Nat.le_of_ble_eq_true rfl)) dX10_debate_10 ⟨Nat.le_of_ble_eq_true rfl, Nat.le_of_ble_eq_true rfl⟩) hP hD hS hA [1, 2] [0] rfl rfl rfl (by decide) (fun r u H locs hw hP hD hS => ?_)
  rcases hw with ⟨rfl, rfl⟩
  have hP : va_P G vwCl [(h0, .inr (7, [.ref h1, .ref h3, .null, .null, .ref h4])), (h1, .inr (0, [.ref h5, .ref h2, .ref h6, .ref h7, .ref h8, .ref h9, .ref h10, .int 0, .int 0, .int 7, .null])), (h2, .inr (4, [.ref h11, .int 0]))] _ := hP
  have hD : va_D A [(h0, .inr (7, [.ref h1, .ref h3, .null, .null, .ref h4])), (h1, .inr (0, [.ref h5, .ref h2, .ref h6, .ref h7, .ref h8, .ref h9, .ref h10, .int 0, .int 0, .int 7, .null])), (h2, .inr (4, [.ref h11, .int 0]))] := hD
  have hP9 : va_P G vwCl [(h0, .inr (7, [.ref h1, .ref h3, .null, .null, .ref h4])), (h1, .inr (0, [.ref h5, .ref h2, .ref h6, .ref h7, .ref h8, .ref h9, .ref h10, .int 0, .int 0, .int 7, .null])), (h2, .inr (4, [.ref h11, .int 0]))] _ := hP
  have hD9 : va_D A [(h0, .inr (7, [.ref h1, .ref h3, .null, .null, .ref h4])), (h1, .inr (0, [.ref h5, .ref h2, .ref h6, .ref h7, .ref h8, .ref h9, .ref h10, .int 0, .int 0, .int 7, .null])), (h2, .inr (4, [.ref h11, .int 0]))] := hD
  exact W.iret (v := (-7)) hx hb hr (fun t ht hW => ⟨⟨(-7), _, rfl, ⟨rfl, rfl⟩, by rw [ht]; exact hP9, hD9⟩, hS.F ht⟩) hS.2.2 dX10_debate_13
def e_X8_againstOnPaper_0 : List Cond := []
def v_X8_againstOnPaper_0 : List Cond := .code yX8_againstOnPaper cX8_againstOnPaper 6 (some .int) :: (e_X8_againstOnPaper_0 ++ [])
theorem te_X8_againstOnPaper_0 : GoodIn lw_tbl e_X8_againstOnPaper_0 := wG0
theorem t_X8_againstOnPaper_0 : GoodIn lw_tbl v_X8_againstOnPaper_0 := wGc z241 (wGa te_X8_againstOnPaper_0 (wG0))
set_option maxHeartbeats 4000000 in
set_option maxRecDepth 100000 in
theorem m_X8_againstOnPaper_0 (l : Launch) (G : va_G) (K : Nat → ClassId) (h0 : Nat) (p0 : Int32) (sz : Nat) : Met l yX8_againstOnPaper v_X8_againstOnPaper_0 ({ frames := 0, cells := 0, slots := 0, locals := 0 }) (va_Pc [.ref h0, .int 10, .int p0, .int 0, .int 0, .int 0] (wS G K sz [])) (va_Qi (fun (r : Int32) (u : va_W) => ((p0.toInt < 1 ∨ (p0.toInt ≥ 1 ∧ p0.toInt > 8)) ∧ r = 9 ∧ u = []) ∨ (((p0.toInt ≥ 1 ∧ p0.toInt ≤ 8)) ∧ r = 0 ∧ u = [])) (wB G (va_A [] sz)) (va_A [] sz)) 0 0 (va_A [] sz) := by
  refine Met.ofW (cc := cX8_againstOnPaper) (maxL := 6) (ret := (some .int)) (by decide) rfl ?_
  intro p e s m args below meth c s₁ B hml hv
  obtain ⟨rfl, hsz, hP, hK, hD0, hE⟩ := hv
  have hx := B.exec
  have hb := B.bytes
  have hr := B.returns
  have hts := atoms_spec (ws := v_X8_againstOnPaper_0) B.pre
  have t_ := t_X8_againstOnPaper_0
  have mw : ∀ w ∈ e_X8_againstOnPaper_0, w ∈ v_X8_againstOnPaper_0 := fun w h => List.mem_cons_of_mem _ (List.mem_append_left _ h)
  have hw := fun w (h : w ∈ e_X8_againstOnPaper_0) => hts w (mw w h)
  have hown : s.vm.findClass RX8 = some m.cls := findClass_of_methodNamed B.named
  have hlocks := B.notSynchronized
  subst hsz
  have hD := hD0.self (sz := s.heap.size)
  generalize hAe : va_A [] s.heap.size = A at hD ⊢
  have hA : ∀ q : Nat, s.heap.size ≤ q → A q := fun q h => by rw [← hAe]; exact Or.inr h
  have hS : va_S A s.heap s.heap [] := va_S.rf
  have hP : va_P G vwCl [] s.heap := hP
  have hl := lv_entry ([.ref h0, .int 10, .int p0, .int 0, .int 0, .int 0]) (n := 6) (Nat.le_of_ble_eq_true rfl)
  rw [lg_entry_eq]
  generalize (lg_sl ([.ref h0, .int 10, .int p0, .int 0, .int 0, .int 0]) ++ List.replicate (6 - (lg_sl ([.ref h0, .int 10, .int p0, .int 0, .int 0, .int 0])).length) Slot.unset).toArray = ls at hl ⊢
  have hl : lv_has ls 6 [(0, .ref h0), (1, .int 10), (2, .int p0), (3, .int 0), (4, .int 0), (5, .int 0)] := hl
  refine lv_iload_n hx hb dX8_againstOnPaper_0 rfl (lv_at hl 1 rfl) ?_
  refine lv_tableIn (tgt := 36) hx hb dX8_againstOnPaper_1 (by decide) (by decide) (by decide) (by decide) ?_
  refine lv_iload_n hx hb dX8_againstOnPaper_36 rfl (lv_at hl 2 rfl) ?_
  refine lv_iconst (v := 1) hx hb dX8_againstOnPaper_37 (by decide) ?_
  refine lv_icmp_lt (tgt := 47) hx hb dX8_againstOnPaper_38 (by decide) (fun c1 => ?_) (fun c1 => ?_)
  · have c1 : p0.toInt < 1 := wLt rfl (by decide) c1
    refine lv_bipush (v := 9) hx hb dX8_againstOnPaper_47 (by decide) ?_
    refine lv_goto (tgt := 53) hx hb dX8_againstOnPaper_49 (by decide) ?_
    have hP9 : va_P G vwCl [] _ := hP
    have hD9 : va_D A [] := hD
    exact W.iret (v := 9) hx hb hr (fun t ht hW => ⟨⟨9, _, rfl, Or.inl ⟨(by first | omega | decide | simp), rfl, rfl⟩, by rw [ht]; exact hP9, hD9⟩, hS.F ht⟩) hS.2.2 dX8_againstOnPaper_53
  · have c1 : p0.toInt ≥ 1 := wNlt rfl (by decide) c1
    refine lv_iload_n hx hb dX8_againstOnPaper_41 rfl (lv_at hl 2 rfl) ?_
    refine lv_bipush (v := 8) hx hb dX8_againstOnPaper_42 (by decide) ?_
    refine lv_icmp_le (tgt := 52) hx hb dX8_againstOnPaper_44 (by decide) (fun c2 => ?_) (fun c2 => ?_)
    · have c2 : p0.toInt ≤ 8 := wLe rfl (by decide) c2
      refine lv_iconst (v := 0) hx hb dX8_againstOnPaper_52 (by decide) ?_
      have hP9 : va_P G vwCl [] _ := hP
      have hD9 : va_D A [] := hD
      exact W.iret (v := 0) hx hb hr (fun t ht hW => ⟨⟨0, _, rfl, Or.inr (⟨(by first | omega | decide | simp), rfl, rfl⟩), by rw [ht]; exact hP9, hD9⟩, hS.F ht⟩) hS.2.2 dX8_againstOnPaper_53
    · have c2 : p0.toInt > 8 := wNle rfl (by decide) c2
      refine lv_bipush (v := 9) hx hb dX8_againstOnPaper_47 (by decide) ?_
      refine lv_goto (tgt := 53) hx hb dX8_againstOnPaper_49 (by decide) ?_
      have hP9 : va_P G vwCl [] _ := hP
      have hD9 : va_D A [] := hD
      exact W.iret (v := 9) hx hb hr (fun t ht hW => ⟨⟨9, _, rfl, Or.inl ⟨(by first | omega | decide | simp), rfl, rfl⟩, by rw [ht]; exact hP9, hD9⟩, hS.F ht⟩) hS.2.2 dX8_againstOnPaper_53
def e_X8_against_9 : List Cond := [.methodLink RX8 15 yX8_againstOnPaper, .static yX8_againstOnPaper, .initialized RX8, .fieldLink RX8 22 "MotionFloor$Assembly" "minutes" "LMotionFloor$Ledger;", .methodLink RX8 28 yX3_isFull, .instanceMethod yX3_isFull, .selects RX3 yX3_isFull yX3_isFull, .initialized RX3]
def v_X8_against_9 : List Cond := .code yX8_against cX8_against 7 (some .int) :: (e_X8_against_9 ++ (wsX00 ++ (v_X8_againstOnPaper_0 ++ (v_X3_isFull_0 ++ []))))
theorem te_X8_against_9 : GoodIn lw_tbl e_X8_against_9 := wGc z243 (wGc z242 (wGc z157 (wGc z167 (wGc z166 (wGc z165 (wGc z164 (wGc z89 (wG0))))))))
theorem t_X8_against_9 : GoodIn lw_tbl v_X8_against_9 := wGc z170 (wGa te_X8_against_9 (wGa zcX0 (wGa t_X8_againstOnPaper_0 (wGa t_X3_isFull_0 (wG0)))))
set_option maxHeartbeats 4000000 in
set_option maxRecDepth 100000 in
theorem m_X8_against_9 (l : Launch) (G : va_G) (K : Nat → ClassId) (h0 h1 h2 h3 h4 h5 h6 h7 h8 : Nat) (p0 : Int32) (sz : Nat) : Met l yX8_against v_X8_against_9 ({ frames := 1, cells := 0, slots := 0, locals := 25 }) (va_Pc [.ref h0, .int 10, .int p0, .int 0, .int 0, .int 0] (wS G K sz [(h0, .inr (0, [.ref h2, .ref h3, .ref h4, .ref h5, .ref h1, .ref h6, .ref h7, .int 0, .int 0, .int 0, .null])), (h1, .inr (2, [.int 7, .int 600, .ref h8, .int 0]))])) (va_Qi (fun (r : Int32) (u : va_W) => (((p0.toInt < 1 ∨ (p0.toInt ≥ 1 ∧ p0.toInt > 8))) ∧ r = 9 ∧ u = [(h0, .inr (0, [.ref h2, .ref h3, .ref h4, .ref h5, .ref h1, .ref h6, .ref h7, .int 0, .int 0, .int 0, .null])), (h1, .inr (2, [.int 7, .int 600, .ref h8, .int 0]))]) ∨ ((((p0.toInt ≥ 1 ∧ p0.toInt ≤ 8))) ∧ r = 0 ∧ u = [(h0, .inr (0, [.ref h2, .ref h3, .ref h4, .ref h5, .ref h1, .ref h6, .ref h7, .int 0, .int 0, .int 0, .null])), (h1, .inr (2, [.int 7, .int 600, .ref h8, .int 0]))])) (wB G (va_A [(h0, .inr (0, [.ref h2, .ref h3, .ref h4, .ref h5, .ref h1, .ref h6, .ref h7, .int 0, .int 0, .int 0, .null])), (h1, .inr (2, [.int 7, .int 600, .ref h8, .int 0]))] sz)) (va_A [(h0, .inr (0, [.ref h2, .ref h3, .ref h4, .ref h5, .ref h1, .ref h6, .ref h7, .int 0, .int 0, .int 0, .null])), (h1, .inr (2, [.int 7, .int 600, .ref h8, .int 0]))] sz)) 0 0 (va_A [(h0, .inr (0, [.ref h2, .ref h3, .ref h4, .ref h5, .ref h1, .ref h6, .ref h7, .int 0, .int 0, .int 0, .null])), (h1, .inr (2, [.int 7, .int 600, .ref h8, .int 0]))] sz) := by
  refine Met.ofW (cc := cX8_against) (maxL := 7) (ret := (some .int)) (by decide) rfl ?_
  intro p e s m args below meth c s₁ B hml hv
  obtain ⟨rfl, hsz, hP, hK, hD0, hE⟩ := hv
  have hx := B.exec
  have hb := B.bytes
  have hr := B.returns
  have hts := atoms_spec (ws := v_X8_against_9) B.pre
  have t_ := t_X8_against_9
  have mw : ∀ w ∈ e_X8_against_9, w ∈ v_X8_against_9 := fun w h => List.mem_cons_of_mem _ (List.mem_append_left _ h)
  have hw := fun w (h : w ∈ e_X8_against_9) => hts w (mw w h)
  have iX0 : ∀ w ∈ wsX00, w ∈ v_X8_against_9 := fun w h => List.mem_cons_of_mem _ (List.mem_append_right _ (List.mem_append_left _ h))
  have j_X8_againstOnPaper_0 : ∀ w ∈ v_X8_againstOnPaper_0, w ∈ v_X8_against_9 := fun w h => List.mem_cons_of_mem _ (List.mem_append_right _ (List.mem_append_right _ (List.mem_append_left _ h)))
  have j_X3_isFull_0 : ∀ w ∈ v_X3_isFull_0, w ∈ v_X8_against_9 := fun w h => List.mem_cons_of_mem _ (List.mem_append_right _ (List.mem_append_right _ (List.mem_append_right _ (List.mem_append_left _ h))))
  have hown : s.vm.findClass RX8 = some m.cls := findClass_of_methodNamed B.named
  have hlocks := B.notSynchronized
  subst hsz
  have hD := hD0.self (sz := s.heap.size)
  generalize hAe : va_A [(h0, .inr (0, [.ref h2, .ref h3, .ref h4, .ref h5, .ref h1, .ref h6, .ref h7, .int 0, .int 0, .int 0, .null])), (h1, .inr (2, [.int 7, .int 600, .ref h8, .int 0]))] s.heap.size = A at hD ⊢
  have hA : ∀ q : Nat, s.heap.size ≤ q → A q := fun q h => by rw [← hAe]; exact Or.inr h
  have hS : va_S A s.heap s.heap [] := va_S.rf
  have hP : va_P G vwCl [(h0, .inr (0, [.ref h2, .ref h3, .ref h4, .ref h5, .ref h1, .ref h6, .ref h7, .int 0, .int 0, .int 0, .null])), (h1, .inr (2, [.int 7, .int 600, .ref h8, .int 0]))] s.heap := hP
  have hl := lv_entry ([.ref h0, .int 10, .int p0, .int 0, .int 0, .int 0]) (n := 7) (Nat.le_of_ble_eq_true rfl)
  rw [lg_entry_eq]
  generalize (lg_sl ([.ref h0, .int 10, .int p0, .int 0, .int 0, .int 0]) ++ List.replicate (7 - (lg_sl ([.ref h0, .int 10, .int p0, .int 0, .int 0, .int 0])).length) Slot.unset).toArray = ls at hl ⊢
  have hl : lv_has ls 7 [(0, .ref h0), (1, .int 10), (2, .int p0), (3, .int 0), (4, .int 0), (5, .int 0)] := hl
  refine lv_iload_n hx hb dX8_against_0 rfl (lv_at hl 1 rfl) ?_
  refine lv_bipush (v := 9) hx hb dX8_against_1 (by decide) ?_
  refine lv_icmp_gt (tgt := 18) hx hb dX8_against_3 (by decide) (fun _ => ?_) (fun c_ => absurd c_ (by decide))
  refine lv_iload_n hx hb dX8_against_18 rfl (lv_at hl 1 rfl) ?_
  refine lv_bipush (v := 14) hx hb dX8_against_19 (by decide) ?_
  refine lv_icmp_gt (tgt := 40) hx hb dX8_against_21 (by decide) (fun c_ => absurd c_ (by decide)) (fun _ => ?_)
  refine lv_aload_n hx hb dX8_against_24 rfl (lv_at hl 0 rfl) ?_
  refine lv_iload_n hx hb dX8_against_25 rfl (lv_at hl 1 rfl) ?_
  refine lv_iload_n hx hb dX8_against_26 rfl (lv_at hl 2 rfl) ?_
  refine lv_iload_n hx hb dX8_against_27 rfl (lv_at hl 3 rfl) ?_
  refine lv_iload hx hb dX8_against_28 (lv_at hl 4 rfl) ?_
  refine lv_iload hx hb dX8_against_30 (lv_at hl 5 rfl) ?_
  have hPc := hP.sub (ws' := []) [] rfl
  have hDc := hD.sub (ws' := []) [] (by decide) rfl
  refine wGoi (wc := []) (wr := [(h0, .inr (0, [.ref h2, .ref h3, .ref h4, .ref h5, .ref h1, .ref h6, .ref h7, .int 0, .int 0, .int 0, .null])), (h1, .inr (2, [.int 7, .int 600, .ref h8, .int 0]))]) (va_runS (As := [.ref h0, .int 10, .int p0, .int 0, .int 0, .int 0]) (rest := []) ⟨hx, hb, hml, hown, hts⟩ (m_X8_againstOnPaper_0 l G K h0 p0 _) (va_cwS 6 hts (wGS t_ (mw (.methodLink RX8 15 yX8_againstOnPaper) (List.mem_of_getElem? (i := 0) rfl)) (mw (.static yX8_againstOnPaper) (List.mem_of_getElem? (i := 1) rfl)) (mw (.initialized RX8) (List.mem_of_getElem? (i := 2) rfl)) j_X8_againstOnPaper_0) rfl rfl rfl (by decide +kernel) ⟨Nat.le_of_ble_eq_true rfl, Nat.le_of_ble_eq_true rfl⟩) (wPS hK hE hPc hDc) rfl rfl hl.1 rfl (lv_room (Nat.le_of_ble_eq_true rfl)) dX8_against_32 ⟨Nat.le_of_ble_eq_true rfl, Nat.le_of_ble_eq_true rfl⟩) hP hD hS hA [] [0, 1] rfl rfl rfl (by decide) (fun r u H locs hw hP hD hS => ?_)
  rcases hw with ⟨c_w, rfl, rfl⟩ | ⟨c_w, rfl, rfl⟩
  · have c1 := c_w
    have hP : va_P G vwCl [(h0, .inr (0, [.ref h2, .ref h3, .ref h4, .ref h5, .ref h1, .ref h6, .ref h7, .int 0, .int 0, .int 0, .null])), (h1, .inr (2, [.int 7, .int 600, .ref h8, .int 0]))] _ := hP
    have hD : va_D A [(h0, .inr (0, [.ref h2, .ref h3, .ref h4, .ref h5, .ref h1, .ref h6, .ref h7, .int 0, .int 0, .int 0, .null])), (h1, .inr (2, [.int 7, .int 600, .ref h8, .int 0]))] := hD
    refine lv_istore (lv' := [(6, .int 9), (0, .ref h0), (1, .int 10), (2, .int p0), (3, .int 0), (4, .int 0), (5, .int 0)]) hx hb dX8_against_35 hl (by decide) rfl (fun ls hl => ?_)
    refine lv_goto (tgt := 49) hx hb dX8_against_37 (by decide) ?_
    refine lv_iload hx hb dX8_against_49 (lv_at hl 0 rfl) ?_
    refine lv_if_ne (tgt := 69) hx hb dX8_against_51 (by decide) (fun _ => ?_) (fun c_ => absurd c_ (by decide))
    refine lv_iload hx hb dX8_against_69 (lv_at hl 0 rfl) ?_
    have hP9 : va_P G vwCl [(h0, .inr (0, [.ref h2, .ref h3, .ref h4, .ref h5, .ref h1, .ref h6, .ref h7, .int 0, .int 0, .int 0, .null])), (h1, .inr (2, [.int 7, .int 600, .ref h8, .int 0]))] _ := hP
    have hD9 : va_D A [(h0, .inr (0, [.ref h2, .ref h3, .ref h4, .ref h5, .ref h1, .ref h6, .ref h7, .int 0, .int 0, .int 0, .null])), (h1, .inr (2, [.int 7, .int 600, .ref h8, .int 0]))] := hD
    exact W.iret (v := 9) hx hb hr (fun t ht hW => ⟨⟨9, _, rfl, Or.inl ⟨(by first | omega | decide | simp), rfl, rfl⟩, by rw [ht]; exact hP9, hD9⟩, hS.F ht⟩) hS.2.2 dX8_against_71
  · have c2 := c_w
    have hP : va_P G vwCl [(h0, .inr (0, [.ref h2, .ref h3, .ref h4, .ref h5, .ref h1, .ref h6, .ref h7, .int 0, .int 0, .int 0, .null])), (h1, .inr (2, [.int 7, .int 600, .ref h8, .int 0]))] _ := hP
    have hD : va_D A [(h0, .inr (0, [.ref h2, .ref h3, .ref h4, .ref h5, .ref h1, .ref h6, .ref h7, .int 0, .int 0, .int 0, .null])), (h1, .inr (2, [.int 7, .int 600, .ref h8, .int 0]))] := hD
    refine lv_istore (lv' := [(6, .int 0), (0, .ref h0), (1, .int 10), (2, .int p0), (3, .int 0), (4, .int 0), (5, .int 0)]) hx hb dX8_against_35 hl (by decide) rfl (fun ls hl => ?_)
    refine lv_goto (tgt := 49) hx hb dX8_against_37 (by decide) ?_
    refine lv_iload hx hb dX8_against_49 (lv_at hl 0 rfl) ?_
    refine lv_if_ne (tgt := 69) hx hb dX8_against_51 (by decide) (fun c_ => absurd c_ (by decide)) (fun _ => ?_)
    refine lv_aload_n hx hb dX8_against_54 rfl (lv_at hl 1 rfl) ?_
    refine va_get (D := G) (ci := 0) (v := .ref h1) (C := RX0) (T := TX0) (N := 11) hx hb hts iX0 hown hK hP 0 rfl rfl 4 (by decide) (hw (.fieldLink RX8 22 "MotionFloor$Assembly" "minutes" "LMotionFloor$Ledger;") (List.mem_of_getElem? (i := 3) rfl)) (fun _ h9 => h9) rfl dX8_against_55 ?_
    have hPc := hP.sub (ws' := [(h1, .inr (2, [.int 7, .int 600, .ref h8, .int 0]))]) [1] rfl
    have hDc := hD.sub (ws' := [(h1, .inr (2, [.int 7, .int 600, .ref h8, .int 0]))]) [1] (by decide) rfl
    refine wGoi (wc := [(h1, .inr (2, [.int 7, .int 600, .ref h8, .int 0]))]) (wr := [(h0, .inr (0, [.ref h2, .ref h3, .ref h4, .ref h5, .ref h1, .ref h6, .ref h7, .int 0, .int 0, .int 0, .null]))]) (va_runV (As := []) (rest := []) ⟨hx, hb, hml, hown, hts⟩ (m_X3_isFull_0 l G K h1 h8 _) (cwV 0 hts (wGV t_ (mw (.methodLink RX8 28 yX3_isFull) (List.mem_of_getElem? (i := 4) rfl)) (mw (.instanceMethod yX3_isFull) (List.mem_of_getElem? (i := 5) rfl)) (mw (.selects RX3 yX3_isFull yX3_isFull) (List.mem_of_getElem? (i := 6) rfl)) (mw (.initialized RX3) (List.mem_of_getElem? (i := 7) rfl)) j_X3_isFull_0) rfl rfl rfl (by decide +kernel) ⟨Nat.le_of_ble_eq_true rfl, Nat.le_of_ble_eq_true rfl⟩) (wPV hK hE hPc hDc 2 0 rfl rfl) rfl rfl hl.1 rfl (lv_room (Nat.le_of_ble_eq_true rfl)) dX8_against_58 ⟨Nat.le_of_ble_eq_true rfl, Nat.le_of_ble_eq_true rfl⟩) hP hD hS hA [1] [0] rfl rfl rfl (by decide) (fun r u H locs hw hP hD hS => ?_)
    rcases hw with ⟨rfl, rfl⟩
    have hP : va_P G vwCl [(h0, .inr (0, [.ref h2, .ref h3, .ref h4, .ref h5, .ref h1, .ref h6, .ref h7, .int 0, .int 0, .int 0, .null])), (h1, .inr (2, [.int 7, .int 600, .ref h8, .int 0]))] _ := hP
    have hD : va_D A [(h0, .inr (0, [.ref h2, .ref h3, .ref h4, .ref h5, .ref h1, .ref h6, .ref h7, .int 0, .int 0, .int 0, .null])), (h1, .inr (2, [.int 7, .int 600, .ref h8, .int 0]))] := hD
    refine lv_if_eq (tgt := 69) hx hb dX8_against_61 (by decide) (fun _ => ?_) (fun c_ => absurd c_ (by decide))
    refine lv_iload hx hb dX8_against_69 (lv_at hl 0 rfl) ?_
    have hP9 : va_P G vwCl [(h0, .inr (0, [.ref h2, .ref h3, .ref h4, .ref h5, .ref h1, .ref h6, .ref h7, .int 0, .int 0, .int 0, .null])), (h1, .inr (2, [.int 7, .int 600, .ref h8, .int 0]))] _ := hP
    have hD9 : va_D A [(h0, .inr (0, [.ref h2, .ref h3, .ref h4, .ref h5, .ref h1, .ref h6, .ref h7, .int 0, .int 0, .int 0, .null])), (h1, .inr (2, [.int 7, .int 600, .ref h8, .int 0]))] := hD
    exact W.iret (v := 0) hx hb hr (fun t ht hW => ⟨⟨0, _, rfl, Or.inr (⟨(by first | omega | decide | simp), rfl, rfl⟩), by rw [ht]; exact hP9, hD9⟩, hS.F ht⟩) hS.2.2 dX8_against_71
def e_X4_init_0 : List Cond := [.methodLink RX4 3 objectInit, .instanceMethod objectInit, .code objectInit ⟨#[0xb1]⟩ 1 none, .classLink RX4 9 RX9, .instantiable RX9 2, .initialized RX9, .instanceMethod yX9_init, .fieldLink RX4 12 "MotionFloor$Motion" "text" "LMotionFloor$Text;", .arrayClass .byte, .fieldLink RX4 18 "MotionFloor$Motion" "votes" "[B"]
def v_X4_init_0 : List Cond := .code yX4_init cX4_init 1 none :: (e_X4_init_0 ++ (wsX90 ++ (wsX40 ++ (v_X9_init_0 ++ []))))
theorem te_X4_init_0 : GoodIn lw_tbl e_X4_init_0 := wGc z264 (wGc z13 (wGc z12 (wGc z263 (wGc z83 (wGc z82 (wGc z81 (wGc z262 (wGc z261 (wGc z260 (wG0))))))))))
theorem t_X4_init_0 : GoodIn lw_tbl v_X4_init_0 := wGc z265 (wGa te_X4_init_0 (wGa zcX9 (wGa zcX4 (wGa t_X9_init_0 (wG0)))))
set_option maxHeartbeats 4000000 in
set_option maxRecDepth 100000 in
theorem m_X4_init_0 (l : Launch) (G : va_G) (K : Nat → ClassId) (h0 : Nat) (sz : Nat) : Met l yX4_init v_X4_init_0 ({ frames := 2, cells := 3, slots := 602, locals := 32 }) (va_Pc [.ref h0] (wS G K sz [(h0, .inr (3, [.int 0, .int 0, .int 0, .int 0, .int 0, .int 0, .int 0, .int 0, .int 0, .int 0, .int 0, .int 0, .null, .null, .int 0, .null]))])) (va_Qv (fun u : va_W => (∃ n0 n1 n2 : Nat, u = [(h0, .inr (3, [.int 0, .int 0, .int 0, .int 0, .int 0, .int 0, .int 0, .int 0, .int 0, .int 0, .int 0, .int 0, .ref n0, .ref n2, .int 0, .null])), (n0, .inr (6, [.ref n1, .int 0])), (n1, .inl (K 0, 400, .inl (fun _ => 0))), (n2, .inl (K 2, 200, .inl (fun _ => 0)))])) (wB G (va_A [(h0, .inr (3, [.int 0, .int 0, .int 0, .int 0, .int 0, .int 0, .int 0, .int 0, .int 0, .int 0, .int 0, .int 0, .null, .null, .int 0, .null]))] sz)) (va_A [(h0, .inr (3, [.int 0, .int 0, .int 0, .int 0, .int 0, .int 0, .int 0, .int 0, .int 0, .int 0, .int 0, .int 0, .null, .null, .int 0, .null]))] sz)) 3 602 (va_A [(h0, .inr (3, [.int 0, .int 0, .int 0, .int 0, .int 0, .int 0, .int 0, .int 0, .int 0, .int 0, .int 0, .int 0, .null, .null, .int 0, .null]))] sz) := by
  refine Met.ofW (cc := cX4_init) (maxL := 1) (ret := none) (by decide) rfl ?_
  intro p e s m args below meth c s₁ B hml hv
  obtain ⟨rfl, hsz, hP, hK, hD0, hE⟩ := hv
  have hx := B.exec
  have hb := B.bytes
  have hr := B.returns
  have hts := atoms_spec (ws := v_X4_init_0) B.pre
  have t_ := t_X4_init_0
  have mw : ∀ w ∈ e_X4_init_0, w ∈ v_X4_init_0 := fun w h => List.mem_cons_of_mem _ (List.mem_append_left _ h)
  have hw := fun w (h : w ∈ e_X4_init_0) => hts w (mw w h)
  have iX9 : ∀ w ∈ wsX90, w ∈ v_X4_init_0 := fun w h => List.mem_cons_of_mem _ (List.mem_append_right _ (List.mem_append_left _ h))
  have iX4 : ∀ w ∈ wsX40, w ∈ v_X4_init_0 := fun w h => List.mem_cons_of_mem _ (List.mem_append_right _ (List.mem_append_right _ (List.mem_append_left _ h)))
  have j_X9_init_0 : ∀ w ∈ v_X9_init_0, w ∈ v_X4_init_0 := fun w h => List.mem_cons_of_mem _ (List.mem_append_right _ (List.mem_append_right _ (List.mem_append_right _ (List.mem_append_left _ h))))
  have hown : s.vm.findClass RX4 = some m.cls := findClass_of_methodNamed B.named
  have hlocks := B.notSynchronized
  have hin : meth.name = "<init>" := (name_of_methodNamed B.named B.method).1
  subst hsz
  have hD := hD0.self (sz := s.heap.size)
  generalize hAe : va_A [(h0, .inr (3, [.int 0, .int 0, .int 0, .int 0, .int 0, .int 0, .int 0, .int 0, .int 0, .int 0, .int 0, .int 0, .null, .null, .int 0, .null]))] s.heap.size = A at hD ⊢
  have hA : ∀ q : Nat, s.heap.size ≤ q → A q := fun q h => by rw [← hAe]; exact Or.inr h
  have hS : va_S A s.heap s.heap [] := va_S.rf
  have hP : va_P G vwCl [(h0, .inr (3, [.int 0, .int 0, .int 0, .int 0, .int 0, .int 0, .int 0, .int 0, .int 0, .int 0, .int 0, .int 0, .null, .null, .int 0, .null]))] s.heap := hP
  have hl := lv_entry ([.ref h0]) (n := 1) (Nat.le_of_ble_eq_true rfl)
  rw [lg_entry_eq]
  generalize (lg_sl ([.ref h0]) ++ List.replicate (1 - (lg_sl ([.ref h0])).length) Slot.unset).toArray = ls at hl ⊢
  have hl : lv_has ls 1 [(0, .ref h0)] := hl
  refine lv_aload_n hx hb dX4_init_0 rfl (lv_at hl 0 rfl) ?_
  refine W.objInit hx hb hown (hw (.methodLink RX4 3 objectInit) (List.mem_of_getElem? (i := 0) rfl)) (hw (.instanceMethod objectInit) (List.mem_of_getElem? (i := 1) rfl)) (hw (.code objectInit ⟨#[0xb1]⟩ 1 none) (List.mem_of_getElem? (i := 2) rfl)) rfl (by rw [hml]; exact hl.1) rfl dX4_init_1 (Nat.le_of_ble_eq_true rfl) (Nat.le_of_ble_eq_true rfl) ?_
  refine W.eq (g2 := F0 m 4 ls []) rfl ?_
  refine lv_aload_n hx hb dX4_init_4 rfl (lv_at hl 0 rfl) ?_
  refine va_new (ci := 6) (fs := [.null, .int 0]) (C := RX9) (T := TX9) (N := 2) hx hb hts iX9 tyX9 tyX9_ok hown (hw (.classLink RX4 9 RX9) (List.mem_of_getElem? (i := 3) rfl)) (hw (.instantiable RX9 2) (List.mem_of_getElem? (i := 4) rfl)) (hw (.initialized RX9) (List.mem_of_getElem? (i := 5) rfl)) hK hP hD hS hA rfl (fun j hj => by rcases (show j = 0 ∨ j = 1 by omega) with rfl | rfl <;> rfl) (Nat.le_of_ble_eq_true rfl) (Nat.le_of_ble_eq_true rfl) dX4_init_5 (fun q1 H hP hD hS => ?_)
  have hP : va_P G vwCl [(h0, .inr (3, [.int 0, .int 0, .int 0, .int 0, .int 0, .int 0, .int 0, .int 0, .int 0, .int 0, .int 0, .int 0, .null, .null, .int 0, .null])), (q1, .inr (6, [.null, .int 0]))] _ := hP
  have hD : va_D A [(h0, .inr (3, [.int 0, .int 0, .int 0, .int 0, .int 0, .int 0, .int 0, .int 0, .int 0, .int 0, .int 0, .int 0, .null, .null, .int 0, .null])), (q1, .inr (6, [.null, .int 0]))] := hD
  refine lv_dup hx hb dX4_init_8 rfl ?_
  have hPc := hP.sub (ws' := [(q1, .inr (6, [.null, .int 0]))]) [1] rfl
  have hDc := hD.sub (ws' := [(q1, .inr (6, [.null, .int 0]))]) [1] (by decide) rfl
  refine wGov (wc := [(q1, .inr (6, [.null, .int 0]))]) (wr := [(h0, .inr (3, [.int 0, .int 0, .int 0, .int 0, .int 0, .int 0, .int 0, .int 0, .int 0, .int 0, .int 0, .int 0, .null, .null, .int 0, .null]))]) (va_runIN (As := []) (rest := [.ref q1, .ref h0]) ⟨hx, hb, hml, hown, hts⟩ (m_X9_init_0 l G K q1 _) ⟨va_cnB (host := "MotionFloor") 0 hts (wGP t_ j_X9_init_0) rfl rfl rfl hE.2.2.2.2.2.2.2.1 (hw (.initialized RX9) (List.mem_of_getElem? (i := 5) rfl)) (by decide +kernel) ⟨Nat.le_of_ble_eq_true rfl, Nat.le_of_ble_eq_true rfl⟩, rfl, (hw (.instanceMethod yX9_init) (List.mem_of_getElem? (i := 6) rfl))⟩ (wPS hK hE hPc hDc) rfl rfl hl.1 rfl (lv_room (Nat.le_of_ble_eq_true rfl)) dX4_init_9 ⟨Nat.le_of_ble_eq_true rfl, Nat.le_of_ble_eq_true rfl⟩) hP hD hS hA [1] [0] rfl rfl rfl (by decide) (fun u H locs hw hP hD hS => ?_)
  rcases hw with ⟨q2, rfl⟩
  have hP : va_P G vwCl [(h0, .inr (3, [.int 0, .int 0, .int 0, .int 0, .int 0, .int 0, .int 0, .int 0, .int 0, .int 0, .int 0, .int 0, .null, .null, .int 0, .null])), (q1, .inr (6, [.ref q2, .int 0])), (q2, .inl (K 0, 400, .inl (fun _ => 0)))] _ := hP
  have hD : va_D A [(h0, .inr (3, [.int 0, .int 0, .int 0, .int 0, .int 0, .int 0, .int 0, .int 0, .int 0, .int 0, .int 0, .int 0, .null, .null, .int 0, .null])), (q1, .inr (6, [.ref q2, .int 0])), (q2, .inl (K 0, 400, .inl (fun _ => 0)))] := hD
  refine va_putF (D := G) (ci := 3) (v := .ref q1) (ty := .object "MotionFloor$Text") (C := RX4) (T := TX4) (N := 16) hx hb hts iX4 tyX4 tyX4_ok nmX4 hown hK hP hD hS 0 rfl rfl 12 (by decide) (hw (.fieldLink RX4 12 "MotionFloor$Motion" "text" "LMotionFloor$Text;") (List.mem_of_getElem? (i := 7) rfl)) (fun _ h9 => h9) rfl hin rfl (by decide +kernel) rfl rfl (Nat.le_of_ble_eq_true rfl) dX4_init_12 (fun H locs hP hD hS => ?_)
  have hP : va_P G vwCl [(h0, .inr (3, [.int 0, .int 0, .int 0, .int 0, .int 0, .int 0, .int 0, .int 0, .int 0, .int 0, .int 0, .int 0, .ref q1, .null, .int 0, .null])), (q1, .inr (6, [.ref q2, .int 0])), (q2, .inl (K 0, 400, .inl (fun _ => 0)))] _ := hP
  have hD : va_D A [(h0, .inr (3, [.int 0, .int 0, .int 0, .int 0, .int 0, .int 0, .int 0, .int 0, .int 0, .int 0, .int 0, .int 0, .ref q1, .null, .int 0, .null])), (q1, .inr (6, [.ref q2, .int 0])), (q2, .inl (K 0, 400, .inl (fun _ => 0)))] := hD
  refine lv_aload_n hx hb dX4_init_15 rfl (lv_at hl 0 rfl) ?_
  refine lv_sipush (v := 200) hx hb dX4_init_16 (by decide) ?_
  refine va_newa (atype := .byte) (ty := .byte) (a0 := (200, .inl (fun _ => 0))) (N' := 200) hx hb (hw (.arrayClass .byte) (List.mem_of_getElem? (i := 8) rfl)) rfl hK hP hD hS hA (fun _ => rfl) (by decide) (by decide) (Nat.le_of_ble_eq_true rfl) (Nat.le_of_ble_eq_true rfl) (Nat.le_of_ble_eq_true rfl) dX4_init_19 (fun q3 cA H hK5 hP hD hS => ?_)
  obtain rfl : cA = K 2 := wTyI hK5 5 2 rfl rfl
  have hP : va_P G vwCl [(h0, .inr (3, [.int 0, .int 0, .int 0, .int 0, .int 0, .int 0, .int 0, .int 0, .int 0, .int 0, .int 0, .int 0, .ref q1, .null, .int 0, .null])), (q1, .inr (6, [.ref q2, .int 0])), (q2, .inl (K 0, 400, .inl (fun _ => 0))), (q3, .inl (K 2, 200, .inl (fun _ => 0)))] _ := hP
  have hD : va_D A [(h0, .inr (3, [.int 0, .int 0, .int 0, .int 0, .int 0, .int 0, .int 0, .int 0, .int 0, .int 0, .int 0, .int 0, .ref q1, .null, .int 0, .null])), (q1, .inr (6, [.ref q2, .int 0])), (q2, .inl (K 0, 400, .inl (fun _ => 0))), (q3, .inl (K 2, 200, .inl (fun _ => 0)))] := hD
  refine va_putF (D := G) (ci := 3) (v := .ref q3) (ty := .array .byte) (C := RX4) (T := TX4) (N := 16) hx hb hts iX4 tyX4 tyX4_ok nmX4 hown hK hP hD hS 0 rfl rfl 13 (by decide) (hw (.fieldLink RX4 18 "MotionFloor$Motion" "votes" "[B") (List.mem_of_getElem? (i := 9) rfl)) (fun _ h9 => h9) rfl hin rfl (by decide +kernel) rfl rfl (Nat.le_of_ble_eq_true rfl) dX4_init_21 (fun H locs hP hD hS => ?_)
  have hP : va_P G vwCl [(h0, .inr (3, [.int 0, .int 0, .int 0, .int 0, .int 0, .int 0, .int 0, .int 0, .int 0, .int 0, .int 0, .int 0, .ref q1, .ref q3, .int 0, .null])), (q1, .inr (6, [.ref q2, .int 0])), (q2, .inl (K 0, 400, .inl (fun _ => 0))), (q3, .inl (K 2, 200, .inl (fun _ => 0)))] _ := hP
  have hD : va_D A [(h0, .inr (3, [.int 0, .int 0, .int 0, .int 0, .int 0, .int 0, .int 0, .int 0, .int 0, .int 0, .int 0, .int 0, .ref q1, .ref q3, .int 0, .null])), (q1, .inr (6, [.ref q2, .int 0])), (q2, .inl (K 0, 400, .inl (fun _ => 0))), (q3, .inl (K 2, 200, .inl (fun _ => 0)))] := hD
  have hP9 : va_P G vwCl [(h0, .inr (3, [.int 0, .int 0, .int 0, .int 0, .int 0, .int 0, .int 0, .int 0, .int 0, .int 0, .int 0, .int 0, .ref q1, .ref q3, .int 0, .null])), (q1, .inr (6, [.ref q2, .int 0])), (q2, .inl (K 0, 400, .inl (fun _ => 0))), (q3, .inl (K 2, 200, .inl (fun _ => 0)))] _ := hP
  have hD9 : va_D A [(h0, .inr (3, [.int 0, .int 0, .int 0, .int 0, .int 0, .int 0, .int 0, .int 0, .int 0, .int 0, .int 0, .int 0, .ref q1, .ref q3, .int 0, .null])), (q1, .inr (6, [.ref q2, .int 0])), (q2, .inl (K 0, 400, .inl (fun _ => 0))), (q3, .inl (K 2, 200, .inl (fun _ => 0)))] := hD
  refine W.widen (k := 3) (n := 602) (Nat.le_of_ble_eq_true rfl) (Nat.le_of_ble_eq_true rfl) ?_
  exact W.vret hx hb hr (fun t ht hW => ⟨⟨_, rfl, ⟨q1, q2, q3, rfl⟩, by rw [ht]; exact hP9, hD9⟩, hS.F ht⟩) hS.2.2 dX4_init_24
def e_X4_keepTextAs_0 : List Cond := [.fieldLink RX4 30 "MotionFloor$Motion" "name" "I", .fieldLink RX4 33 "MotionFloor$Motion" "subject" "I", .fieldLink RX4 36 "MotionFloor$Motion" "kind" "I", .fieldLink RX4 39 "MotionFloor$Motion" "mover" "I", .fieldLink RX4 42 "MotionFloor$Motion" "seconder" "I", .fieldLink RX4 45 "MotionFloor$Motion" "floors" "I", .fieldLink RX4 48 "MotionFloor$Motion" "speeches" "I", .fieldLink RX4 51 "MotionFloor$Motion" "closed" "Z", .fieldLink RX4 55 "MotionFloor$Motion" "from" "I", .fieldLink RX4 58 "MotionFloor$Motion" "to" "I", .fieldLink RX4 61 "MotionFloor$Motion" "laid" "Z", .fieldLink RX4 64 "MotionFloor$Motion" "outOfOrder" "Z", .fieldLink RX4 67 "MotionFloor$Motion" "voters" "I"]
def v_X4_keepTextAs_0 : List Cond := .code yX4_keepTextAs cX4_keepTextAs 2 none :: (e_X4_keepTextAs_0 ++ (wsX40 ++ []))
theorem te_X4_keepTextAs_0 : GoodIn lw_tbl e_X4_keepTextAs_0 := wGc z278 (wGc z277 (wGc z276 (wGc z275 (wGc z274 (wGc z273 (wGc z272 (wGc z271 (wGc z270 (wGc z269 (wGc z268 (wGc z267 (wGc z266 (wG0)))))))))))))
theorem t_X4_keepTextAs_0 : GoodIn lw_tbl v_X4_keepTextAs_0 := wGc z279 (wGa te_X4_keepTextAs_0 (wGa zcX4 (wG0)))
set_option maxHeartbeats 4000000 in
set_option maxRecDepth 100000 in
theorem m_X4_keepTextAs_0 (l : Launch) (G : va_G) (K : Nat → ClassId) (h0 h1 h2 : Nat) (p0 : Int32) (sz : Nat) (bp0 : 1 ≤ p0.toInt ∧ p0.toInt ≤ 8) : Met l yX4_keepTextAs v_X4_keepTextAs_0 ({ frames := 0, cells := 0, slots := 0, locals := 0 }) (va_Pc [.ref h0, .int p0] (wS G K sz [(h0, .inr (3, [.int 0, .int 0, .int 0, .int 0, .int 0, .int 0, .int 0, .int 0, .int 0, .int 0, .int 0, .int 0, .ref h1, .ref h2, .int 0, .null]))])) (va_Qv (fun u : va_W => (u = [(h0, .inr (3, [.int 0, .int 0, .int p0, .int (-1), .int (-1), .int 0, .int 0, .int 0, .int 0, .int 0, .int 0, .int 0, .ref h1, .ref h2, .int 0, .null]))])) (wB G (va_A [(h0, .inr (3, [.int 0, .int 0, .int 0, .int 0, .int 0, .int 0, .int 0, .int 0, .int 0, .int 0, .int 0, .int 0, .ref h1, .ref h2, .int 0, .null]))] sz)) (va_A [(h0, .inr (3, [.int 0, .int 0, .int 0, .int 0, .int 0, .int 0, .int 0, .int 0, .int 0, .int 0, .int 0, .int 0, .ref h1, .ref h2, .int 0, .null]))] sz)) 0 0 (va_A [(h0, .inr (3, [.int 0, .int 0, .int 0, .int 0, .int 0, .int 0, .int 0, .int 0, .int 0, .int 0, .int 0, .int 0, .ref h1, .ref h2, .int 0, .null]))] sz) := by
  refine Met.ofW (cc := cX4_keepTextAs) (maxL := 2) (ret := none) (by decide) rfl ?_
  intro p e s m args below meth c s₁ B hml hv
  obtain ⟨rfl, hsz, hP, hK, hD0, hE⟩ := hv
  have hx := B.exec
  have hb := B.bytes
  have hr := B.returns
  have hts := atoms_spec (ws := v_X4_keepTextAs_0) B.pre
  have t_ := t_X4_keepTextAs_0
  have mw : ∀ w ∈ e_X4_keepTextAs_0, w ∈ v_X4_keepTextAs_0 := fun w h => List.mem_cons_of_mem _ (List.mem_append_left _ h)
  have hw := fun w (h : w ∈ e_X4_keepTextAs_0) => hts w (mw w h)
  have iX4 : ∀ w ∈ wsX40, w ∈ v_X4_keepTextAs_0 := fun w h => List.mem_cons_of_mem _ (List.mem_append_right _ (List.mem_append_left _ h))
  have hown : s.vm.findClass RX4 = some m.cls := findClass_of_methodNamed B.named
  have hlocks := B.notSynchronized
  subst hsz
  have hD := hD0.self (sz := s.heap.size)
  generalize hAe : va_A [(h0, .inr (3, [.int 0, .int 0, .int 0, .int 0, .int 0, .int 0, .int 0, .int 0, .int 0, .int 0, .int 0, .int 0, .ref h1, .ref h2, .int 0, .null]))] s.heap.size = A at hD ⊢
  have hA : ∀ q : Nat, s.heap.size ≤ q → A q := fun q h => by rw [← hAe]; exact Or.inr h
  have hS : va_S A s.heap s.heap [] := va_S.rf
  have hP : va_P G vwCl [(h0, .inr (3, [.int 0, .int 0, .int 0, .int 0, .int 0, .int 0, .int 0, .int 0, .int 0, .int 0, .int 0, .int 0, .ref h1, .ref h2, .int 0, .null]))] s.heap := hP
  have hl := lv_entry ([.ref h0, .int p0]) (n := 2) (Nat.le_of_ble_eq_true rfl)
  rw [lg_entry_eq]
  generalize (lg_sl ([.ref h0, .int p0]) ++ List.replicate (2 - (lg_sl ([.ref h0, .int p0])).length) Slot.unset).toArray = ls at hl ⊢
  have hl : lv_has ls 2 [(0, .ref h0), (1, .int p0)] := hl
  refine lv_aload_n hx hb dX4_keepTextAs_0 rfl (lv_at hl 0 rfl) ?_
  refine lv_iconst (v := 0) hx hb dX4_keepTextAs_1 (by decide) ?_
  refine va_put (D := G) (ci := 3) (v := .int 0) (ty := .int) (C := RX4) (T := TX4) (N := 16) hx hb hts iX4 tyX4 tyX4_ok nmX4 hown hK hP hD hS 0 rfl rfl 0 (by decide) (hw (.fieldLink RX4 30 "MotionFloor$Motion" "name" "I") (List.mem_of_getElem? (i := 0) rfl)) (fun _ h9 => h9) rfl (by decide +kernel) rfl rfl (Nat.le_of_ble_eq_true rfl) dX4_keepTextAs_2 (fun H locs hP hD hS => ?_)
  have hP : va_P G vwCl [(h0, .inr (3, [.int 0, .int 0, .int 0, .int 0, .int 0, .int 0, .int 0, .int 0, .int 0, .int 0, .int 0, .int 0, .ref h1, .ref h2, .int 0, .null]))] _ := hP
  have hD : va_D A [(h0, .inr (3, [.int 0, .int 0, .int 0, .int 0, .int 0, .int 0, .int 0, .int 0, .int 0, .int 0, .int 0, .int 0, .ref h1, .ref h2, .int 0, .null]))] := hD
  refine lv_aload_n hx hb dX4_keepTextAs_5 rfl (lv_at hl 0 rfl) ?_
  refine lv_iconst (v := 0) hx hb dX4_keepTextAs_6 (by decide) ?_
  refine va_put (D := G) (ci := 3) (v := .int 0) (ty := .int) (C := RX4) (T := TX4) (N := 16) hx hb hts iX4 tyX4 tyX4_ok nmX4 hown hK hP hD hS 0 rfl rfl 1 (by decide) (hw (.fieldLink RX4 33 "MotionFloor$Motion" "subject" "I") (List.mem_of_getElem? (i := 1) rfl)) (fun _ h9 => h9) rfl (by decide +kernel) rfl rfl (Nat.le_of_ble_eq_true rfl) dX4_keepTextAs_7 (fun H locs hP hD hS => ?_)
  have hP : va_P G vwCl [(h0, .inr (3, [.int 0, .int 0, .int 0, .int 0, .int 0, .int 0, .int 0, .int 0, .int 0, .int 0, .int 0, .int 0, .ref h1, .ref h2, .int 0, .null]))] _ := hP
  have hD : va_D A [(h0, .inr (3, [.int 0, .int 0, .int 0, .int 0, .int 0, .int 0, .int 0, .int 0, .int 0, .int 0, .int 0, .int 0, .ref h1, .ref h2, .int 0, .null]))] := hD
  refine lv_aload_n hx hb dX4_keepTextAs_10 rfl (lv_at hl 0 rfl) ?_
  refine lv_iload_n hx hb dX4_keepTextAs_11 rfl (lv_at hl 1 rfl) ?_
  refine va_put (D := G) (ci := 3) (v := .int p0) (ty := .int) (C := RX4) (T := TX4) (N := 16) hx hb hts iX4 tyX4 tyX4_ok nmX4 hown hK hP hD hS 0 rfl rfl 2 (by decide) (hw (.fieldLink RX4 36 "MotionFloor$Motion" "kind" "I") (List.mem_of_getElem? (i := 2) rfl)) (fun _ h9 => h9) rfl (by decide +kernel) rfl rfl (Nat.le_of_ble_eq_true rfl) dX4_keepTextAs_12 (fun H locs hP hD hS => ?_)
  have hP : va_P G vwCl [(h0, .inr (3, [.int 0, .int 0, .int p0, .int 0, .int 0, .int 0, .int 0, .int 0, .int 0, .int 0, .int 0, .int 0, .ref h1, .ref h2, .int 0, .null]))] _ := hP
  have hD : va_D A [(h0, .inr (3, [.int 0, .int 0, .int p0, .int 0, .int 0, .int 0, .int 0, .int 0, .int 0, .int 0, .int 0, .int 0, .ref h1, .ref h2, .int 0, .null]))] := hD
  refine lv_aload_n hx hb dX4_keepTextAs_15 rfl (lv_at hl 0 rfl) ?_
  refine lv_iconst (v := (-1)) hx hb dX4_keepTextAs_16 (by decide) ?_
  refine va_put (D := G) (ci := 3) (v := .int (-1)) (ty := .int) (C := RX4) (T := TX4) (N := 16) hx hb hts iX4 tyX4 tyX4_ok nmX4 hown hK hP hD hS 0 rfl rfl 3 (by decide) (hw (.fieldLink RX4 39 "MotionFloor$Motion" "mover" "I") (List.mem_of_getElem? (i := 3) rfl)) (fun _ h9 => h9) rfl (by decide +kernel) rfl rfl (Nat.le_of_ble_eq_true rfl) dX4_keepTextAs_17 (fun H locs hP hD hS => ?_)
  have hP : va_P G vwCl [(h0, .inr (3, [.int 0, .int 0, .int p0, .int (-1), .int 0, .int 0, .int 0, .int 0, .int 0, .int 0, .int 0, .int 0, .ref h1, .ref h2, .int 0, .null]))] _ := hP
  have hD : va_D A [(h0, .inr (3, [.int 0, .int 0, .int p0, .int (-1), .int 0, .int 0, .int 0, .int 0, .int 0, .int 0, .int 0, .int 0, .ref h1, .ref h2, .int 0, .null]))] := hD
  refine lv_aload_n hx hb dX4_keepTextAs_20 rfl (lv_at hl 0 rfl) ?_
  refine lv_iconst (v := (-1)) hx hb dX4_keepTextAs_21 (by decide) ?_
  refine va_put (D := G) (ci := 3) (v := .int (-1)) (ty := .int) (C := RX4) (T := TX4) (N := 16) hx hb hts iX4 tyX4 tyX4_ok nmX4 hown hK hP hD hS 0 rfl rfl 4 (by decide) (hw (.fieldLink RX4 42 "MotionFloor$Motion" "seconder" "I") (List.mem_of_getElem? (i := 4) rfl)) (fun _ h9 => h9) rfl (by decide +kernel) rfl rfl (Nat.le_of_ble_eq_true rfl) dX4_keepTextAs_22 (fun H locs hP hD hS => ?_)
  have hP : va_P G vwCl [(h0, .inr (3, [.int 0, .int 0, .int p0, .int (-1), .int (-1), .int 0, .int 0, .int 0, .int 0, .int 0, .int 0, .int 0, .ref h1, .ref h2, .int 0, .null]))] _ := hP
  have hD : va_D A [(h0, .inr (3, [.int 0, .int 0, .int p0, .int (-1), .int (-1), .int 0, .int 0, .int 0, .int 0, .int 0, .int 0, .int 0, .ref h1, .ref h2, .int 0, .null]))] := hD
  refine lv_aload_n hx hb dX4_keepTextAs_25 rfl (lv_at hl 0 rfl) ?_
  refine lv_iconst (v := 0) hx hb dX4_keepTextAs_26 (by decide) ?_
  refine va_put (D := G) (ci := 3) (v := .int 0) (ty := .int) (C := RX4) (T := TX4) (N := 16) hx hb hts iX4 tyX4 tyX4_ok nmX4 hown hK hP hD hS 0 rfl rfl 5 (by decide) (hw (.fieldLink RX4 45 "MotionFloor$Motion" "floors" "I") (List.mem_of_getElem? (i := 5) rfl)) (fun _ h9 => h9) rfl (by decide +kernel) rfl rfl (Nat.le_of_ble_eq_true rfl) dX4_keepTextAs_27 (fun H locs hP hD hS => ?_)
  have hP : va_P G vwCl [(h0, .inr (3, [.int 0, .int 0, .int p0, .int (-1), .int (-1), .int 0, .int 0, .int 0, .int 0, .int 0, .int 0, .int 0, .ref h1, .ref h2, .int 0, .null]))] _ := hP
  have hD : va_D A [(h0, .inr (3, [.int 0, .int 0, .int p0, .int (-1), .int (-1), .int 0, .int 0, .int 0, .int 0, .int 0, .int 0, .int 0, .ref h1, .ref h2, .int 0, .null]))] := hD
  refine lv_aload_n hx hb dX4_keepTextAs_30 rfl (lv_at hl 0 rfl) ?_
  refine lv_iconst (v := 0) hx hb dX4_keepTextAs_31 (by decide) ?_
  refine va_put (D := G) (ci := 3) (v := .int 0) (ty := .int) (C := RX4) (T := TX4) (N := 16) hx hb hts iX4 tyX4 tyX4_ok nmX4 hown hK hP hD hS 0 rfl rfl 6 (by decide) (hw (.fieldLink RX4 48 "MotionFloor$Motion" "speeches" "I") (List.mem_of_getElem? (i := 6) rfl)) (fun _ h9 => h9) rfl (by decide +kernel) rfl rfl (Nat.le_of_ble_eq_true rfl) dX4_keepTextAs_32 (fun H locs hP hD hS => ?_)
  have hP : va_P G vwCl [(h0, .inr (3, [.int 0, .int 0, .int p0, .int (-1), .int (-1), .int 0, .int 0, .int 0, .int 0, .int 0, .int 0, .int 0, .ref h1, .ref h2, .int 0, .null]))] _ := hP
  have hD : va_D A [(h0, .inr (3, [.int 0, .int 0, .int p0, .int (-1), .int (-1), .int 0, .int 0, .int 0, .int 0, .int 0, .int 0, .int 0, .ref h1, .ref h2, .int 0, .null]))] := hD
  refine lv_aload_n hx hb dX4_keepTextAs_35 rfl (lv_at hl 0 rfl) ?_
  refine lv_iconst (v := 0) hx hb dX4_keepTextAs_36 (by decide) ?_
  refine va_put (D := G) (ci := 3) (v := .int 0) (ty := .boolean) (C := RX4) (T := TX4) (N := 16) hx hb hts iX4 tyX4 tyX4_ok nmX4 hown hK hP hD hS 0 rfl rfl 7 (by decide) (hw (.fieldLink RX4 51 "MotionFloor$Motion" "closed" "Z") (List.mem_of_getElem? (i := 7) rfl)) (fun _ h9 => h9) rfl (by decide +kernel) rfl rfl (Nat.le_of_ble_eq_true rfl) dX4_keepTextAs_37 (fun H locs hP hD hS => ?_)
  have hP : va_P G vwCl [(h0, .inr (3, [.int 0, .int 0, .int p0, .int (-1), .int (-1), .int 0, .int 0, .int 0, .int 0, .int 0, .int 0, .int 0, .ref h1, .ref h2, .int 0, .null]))] _ := hP
  have hD : va_D A [(h0, .inr (3, [.int 0, .int 0, .int p0, .int (-1), .int (-1), .int 0, .int 0, .int 0, .int 0, .int 0, .int 0, .int 0, .ref h1, .ref h2, .int 0, .null]))] := hD
  refine lv_aload_n hx hb dX4_keepTextAs_40 rfl (lv_at hl 0 rfl) ?_
  refine lv_iconst (v := 0) hx hb dX4_keepTextAs_41 (by decide) ?_
  refine va_put (D := G) (ci := 3) (v := .int 0) (ty := .int) (C := RX4) (T := TX4) (N := 16) hx hb hts iX4 tyX4 tyX4_ok nmX4 hown hK hP hD hS 0 rfl rfl 8 (by decide) (hw (.fieldLink RX4 55 "MotionFloor$Motion" "from" "I") (List.mem_of_getElem? (i := 8) rfl)) (fun _ h9 => h9) rfl (by decide +kernel) rfl rfl (Nat.le_of_ble_eq_true rfl) dX4_keepTextAs_42 (fun H locs hP hD hS => ?_)
  have hP : va_P G vwCl [(h0, .inr (3, [.int 0, .int 0, .int p0, .int (-1), .int (-1), .int 0, .int 0, .int 0, .int 0, .int 0, .int 0, .int 0, .ref h1, .ref h2, .int 0, .null]))] _ := hP
  have hD : va_D A [(h0, .inr (3, [.int 0, .int 0, .int p0, .int (-1), .int (-1), .int 0, .int 0, .int 0, .int 0, .int 0, .int 0, .int 0, .ref h1, .ref h2, .int 0, .null]))] := hD
  refine lv_aload_n hx hb dX4_keepTextAs_45 rfl (lv_at hl 0 rfl) ?_
  refine lv_iconst (v := 0) hx hb dX4_keepTextAs_46 (by decide) ?_
  refine va_put (D := G) (ci := 3) (v := .int 0) (ty := .int) (C := RX4) (T := TX4) (N := 16) hx hb hts iX4 tyX4 tyX4_ok nmX4 hown hK hP hD hS 0 rfl rfl 9 (by decide) (hw (.fieldLink RX4 58 "MotionFloor$Motion" "to" "I") (List.mem_of_getElem? (i := 9) rfl)) (fun _ h9 => h9) rfl (by decide +kernel) rfl rfl (Nat.le_of_ble_eq_true rfl) dX4_keepTextAs_47 (fun H locs hP hD hS => ?_)
  have hP : va_P G vwCl [(h0, .inr (3, [.int 0, .int 0, .int p0, .int (-1), .int (-1), .int 0, .int 0, .int 0, .int 0, .int 0, .int 0, .int 0, .ref h1, .ref h2, .int 0, .null]))] _ := hP
  have hD : va_D A [(h0, .inr (3, [.int 0, .int 0, .int p0, .int (-1), .int (-1), .int 0, .int 0, .int 0, .int 0, .int 0, .int 0, .int 0, .ref h1, .ref h2, .int 0, .null]))] := hD
  refine lv_aload_n hx hb dX4_keepTextAs_50 rfl (lv_at hl 0 rfl) ?_
  refine lv_iconst (v := 0) hx hb dX4_keepTextAs_51 (by decide) ?_
  refine va_put (D := G) (ci := 3) (v := .int 0) (ty := .boolean) (C := RX4) (T := TX4) (N := 16) hx hb hts iX4 tyX4 tyX4_ok nmX4 hown hK hP hD hS 0 rfl rfl 10 (by decide) (hw (.fieldLink RX4 61 "MotionFloor$Motion" "laid" "Z") (List.mem_of_getElem? (i := 10) rfl)) (fun _ h9 => h9) rfl (by decide +kernel) rfl rfl (Nat.le_of_ble_eq_true rfl) dX4_keepTextAs_52 (fun H locs hP hD hS => ?_)
  have hP : va_P G vwCl [(h0, .inr (3, [.int 0, .int 0, .int p0, .int (-1), .int (-1), .int 0, .int 0, .int 0, .int 0, .int 0, .int 0, .int 0, .ref h1, .ref h2, .int 0, .null]))] _ := hP
  have hD : va_D A [(h0, .inr (3, [.int 0, .int 0, .int p0, .int (-1), .int (-1), .int 0, .int 0, .int 0, .int 0, .int 0, .int 0, .int 0, .ref h1, .ref h2, .int 0, .null]))] := hD
  refine lv_aload_n hx hb dX4_keepTextAs_55 rfl (lv_at hl 0 rfl) ?_
  refine lv_iconst (v := 0) hx hb dX4_keepTextAs_56 (by decide) ?_
  refine va_put (D := G) (ci := 3) (v := .int 0) (ty := .boolean) (C := RX4) (T := TX4) (N := 16) hx hb hts iX4 tyX4 tyX4_ok nmX4 hown hK hP hD hS 0 rfl rfl 11 (by decide) (hw (.fieldLink RX4 64 "MotionFloor$Motion" "outOfOrder" "Z") (List.mem_of_getElem? (i := 11) rfl)) (fun _ h9 => h9) rfl (by decide +kernel) rfl rfl (Nat.le_of_ble_eq_true rfl) dX4_keepTextAs_57 (fun H locs hP hD hS => ?_)
  have hP : va_P G vwCl [(h0, .inr (3, [.int 0, .int 0, .int p0, .int (-1), .int (-1), .int 0, .int 0, .int 0, .int 0, .int 0, .int 0, .int 0, .ref h1, .ref h2, .int 0, .null]))] _ := hP
  have hD : va_D A [(h0, .inr (3, [.int 0, .int 0, .int p0, .int (-1), .int (-1), .int 0, .int 0, .int 0, .int 0, .int 0, .int 0, .int 0, .ref h1, .ref h2, .int 0, .null]))] := hD
  refine lv_aload_n hx hb dX4_keepTextAs_60 rfl (lv_at hl 0 rfl) ?_
  refine va_get (D := G) (ci := 3) (v := .int 0) (C := RX4) (T := TX4) (N := 16) hx hb hts iX4 hown hK hP 0 rfl rfl 14 (by decide) (hw (.fieldLink RX4 67 "MotionFloor$Motion" "voters" "I") (List.mem_of_getElem? (i := 12) rfl)) (fun _ h9 => h9) rfl dX4_keepTextAs_61 ?_
  refine lv_if_le (tgt := 80) hx hb dX4_keepTextAs_64 (by decide) (fun _ => ?_) (fun c_ => absurd c_ (by decide))
  have hP9 : va_P G vwCl [(h0, .inr (3, [.int 0, .int 0, .int p0, .int (-1), .int (-1), .int 0, .int 0, .int 0, .int 0, .int 0, .int 0, .int 0, .ref h1, .ref h2, .int 0, .null]))] _ := hP
  have hD9 : va_D A [(h0, .inr (3, [.int 0, .int 0, .int p0, .int (-1), .int (-1), .int 0, .int 0, .int 0, .int 0, .int 0, .int 0, .int 0, .ref h1, .ref h2, .int 0, .null]))] := hD
  exact W.vret hx hb hr (fun t ht hW => ⟨⟨_, rfl, rfl, by rw [ht]; exact hP9, hD9⟩, hS.F ht⟩) hS.2.2 dX4_keepTextAs_80
