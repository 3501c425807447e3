def e_X0_begin_0 : List Cond := [.methodLink RX0 59 yX0_clear, .instanceMethod yX0_clear, .selects RX0 yX0_clear yX0_clear, .initialized RX0, .fieldLink RX0 12 "MotionFloor$Assembly" "house" "LMotionFloor$House;", .methodLink RX0 55 yX2_begin, .instanceMethod yX2_begin, .selects RX2 yX2_begin yX2_begin, .initialized RX2, .fieldLink RX0 41 "MotionFloor$Assembly" "minutes" "LMotionFloor$Ledger;", .fieldLink RX0 62 "MotionFloor$Ledger" "size" "I", .fieldLink RX0 45 "MotionFloor$Assembly" "results" "LMotionFloor$Ledger;", .fieldLink RX0 51 "MotionFloor$Assembly" "adopted" "LMotionFloor$Text;", .fieldLink RX0 66 "MotionFloor$Text" "size" "I", .fieldLink RX0 67 "MotionFloor$Assembly" "adoptions" "I", .fieldLink RX0 70 "MotionFloor$Assembly" "names" "I", .fieldLink RX0 73 "MotionFloor$Assembly" "reason" "I"]
def v_X0_begin_0 : List Cond := .code yX0_begin cX0_begin 2 none :: (e_X0_begin_0 ++ (wsX00 ++ (wsX30 ++ (wsX90 ++ (v_X0_clear_0 ++ (v_X2_begin_1 ++ []))))))
theorem te_X0_begin_0 : GoodIn lw_tbl e_X0_begin_0 := wGc z270 (wGc z269 (wGc z268 (wGc z118 (wGc z100 (wGc z79 (wGc z78 (wGc z77 (wGc z57 (wGc z86 (wGc z267 (wGc z85 (wGc z80 (wGc z266 (wGc z265 (wGc z264 (wGc z263 (wG0)))))))))))))))))
theorem t_X0_begin_0 : GoodIn lw_tbl v_X0_begin_0 := wGc z271 (wGa te_X0_begin_0 (wGa zcX0 (wGa zcX3 (wGa zcX9 (wGa t_X0_clear_0 (wGa t_X2_begin_1 (wG0)))))))
set_option maxHeartbeats 4000000 in
set_option maxRecDepth 100000 in
theorem m_X0_begin_0 (l : Launch) (G : va_G) (K : Nat → ClassId) (h0 h1 h2 h3 h4 h5 h6 h7 h8 h9 h10 h11 h12 h13 h14 h15 h16 h17 h18 h19 h20 h21 h22 h23 h24 h25 h26 h27 h28 h29 h30 h31 h32 h33 h34 h35 h36 h37 h38 h39 : Nat) (p0 : Int32) (sz : Nat) (bp0 : 1 ≤ p0.toInt ∧ p0.toInt ≤ 200) : Met l yX0_begin v_X0_begin_0 ({ frames := 3, cells := 0, slots := 0, locals := 64 }) (va_Pc [.ref h0, .int p0] (wS G K sz [(h0, .inr (0, [.ref h1, .ref h2, .ref h3, .ref h4, .ref h5, .ref h6, .ref h7, .int 0, .int 0, .int 0, .null])), (h1, .inr (1, [.int 1, .ref h8, .int 0, .int (-1), .int 0, .int 0, .int (-1), .ref h9])), (h2, .inr (4, [.ref h27, .int 0])), (h3, .inr (5, [.int 0, .ref h10])), (h4, .inl (K 4, 8, .inr (.inr (.inr (.inr (va_up (va_up (va_up (va_up (va_up (va_up (va_up (va_up (fun _ => none) 0 (some h18)) 1 (some h17)) 2 (some h16)) 3 (some h15)) 4 (some h14)) 5 (some h13)) 6 (some h12)) 7 (some h11))))))), (h5, .inr (2, [.int 7, .int 600, .ref h28, .int 0])), (h6, .inr (2, [.int 5, .int 600, .ref h29, .int 0])), (h7, .inr (6, [.ref h30, .int 0])), (h8, .inl (K 1, 200, .inl (fun _ => 0))), (h9, .inl (K 0, 9, .inl (upd (fun _ => 1) 6 2))), (h10, .inr (4, [.ref h31, .int 0])), (h11, .inr (5, [.int 0, .ref h19])), (h12, .inr (5, [.int 0, .ref h20])), (h13, .inr (5, [.int 0, .ref h21])), (h14, .inr (5, [.int 0, .ref h22])), (h15, .inr (5, [.int 0, .ref h23])), (h16, .inr (5, [.int 0, .ref h24])), (h17, .inr (5, [.int 0, .ref h25])), (h18, .inr (5, [.int 0, .ref h26])), (h19, .inr (4, [.ref h32, .int 0])), (h20, .inr (4, [.ref h33, .int 0])), (h21, .inr (4, [.ref h34, .int 0])), (h22, .inr (4, [.ref h35, .int 0])), (h23, .inr (4, [.ref h36, .int 0])), (h24, .inr (4, [.ref h37, .int 0])), (h25, .inr (4, [.ref h38, .int 0])), (h26, .inr (4, [.ref h39, .int 0]))])) (va_Qv (fun u : va_W => (u = [(h0, .inr (0, [.ref h1, .ref h2, .ref h3, .ref h4, .ref h5, .ref h6, .ref h7, .int 0, .int 0, .int 0, .null])), (h1, .inr (1, [.int p0, .ref h8, .int 0, .int (-1), .int 0, .int 0, .int (-1), .ref h9])), (h2, .inr (4, [.ref h27, .int 0])), (h3, .inr (5, [.int 0, .ref h10])), (h4, .inl (K 4, 8, .inr (.inr (.inr (.inr (va_up (va_up (va_up (va_up (va_up (va_up (va_up (va_up (fun _ => none) 0 (some h18)) 1 (some h17)) 2 (some h16)) 3 (some h15)) 4 (some h14)) 5 (some h13)) 6 (some h12)) 7 (some h11))))))), (h5, .inr (2, [.int 7, .int 600, .ref h28, .int 0])), (h6, .inr (2, [.int 5, .int 600, .ref h29, .int 0])), (h7, .inr (6, [.ref h30, .int 0])), (h8, .inl (K 1, 200, .inl (fun _ => 0))), (h9, .inl (K 0, 9, .inl (upd (fun _ => 1) 6 2))), (h10, .inr (4, [.ref h31, .int 0])), (h11, .inr (5, [.int 0, .ref h19])), (h12, .inr (5, [.int 0, .ref h20])), (h13, .inr (5, [.int 0, .ref h21])), (h14, .inr (5, [.int 0, .ref h22])), (h15, .inr (5, [.int 0, .ref h23])), (h16, .inr (5, [.int 0, .ref h24])), (h17, .inr (5, [.int 0, .ref h25])), (h18, .inr (5, [.int 0, .ref h26])), (h19, .inr (4, [.ref h32, .int 0])), (h20, .inr (4, [.ref h33, .int 0])), (h21, .inr (4, [.ref h34, .int 0])), (h22, .inr (4, [.ref h35, .int 0])), (h23, .inr (4, [.ref h36, .int 0])), (h24, .inr (4, [.ref h37, .int 0])), (h25, .inr (4, [.ref h38, .int 0])), (h26, .inr (4, [.ref h39, .int 0]))])) (wB G (va_A [(h0, .inr (0, [.ref h1, .ref h2, .ref h3, .ref h4, .ref h5, .ref h6, .ref h7, .int 0, .int 0, .int 0, .null])), (h1, .inr (1, [.int 1, .ref h8, .int 0, .int (-1), .int 0, .int 0, .int (-1), .ref h9])), (h2, .inr (4, [.ref h27, .int 0])), (h3, .inr (5, [.int 0, .ref h10])), (h4, .inl (K 4, 8, .inr (.inr (.inr (.inr (va_up (va_up (va_up (va_up (va_up (va_up (va_up (va_up (fun _ => none) 0 (some h18)) 1 (some h17)) 2 (some h16)) 3 (some h15)) 4 (some h14)) 5 (some h13)) 6 (some h12)) 7 (some h11))))))), (h5, .inr (2, [.int 7, .int 600, .ref h28, .int 0])), (h6, .inr (2, [.int 5, .int 600, .ref h29, .int 0])), (h7, .inr (6, [.ref h30, .int 0])), (h8, .inl (K 1, 200, .inl (fun _ => 0))), (h9, .inl (K 0, 9, .inl (upd (fun _ => 1) 6 2))), (h10, .inr (4, [.ref h31, .int 0])), (h11, .inr (5, [.int 0, .ref h19])), (h12, .inr (5, [.int 0, .ref h20])), (h13, .inr (5, [.int 0, .ref h21])), (h14, .inr (5, [.int 0, .ref h22])), (h15, .inr (5, [.int 0, .ref h23])), (h16, .inr (5, [.int 0, .ref h24])), (h17, .inr (5, [.int 0, .ref h25])), (h18, .inr (5, [.int 0, .ref h26])), (h19, .inr (4, [.ref h32, .int 0])), (h20, .inr (4, [.ref h33, .int 0])), (h21, .inr (4, [.ref h34, .int 0])), (h22, .inr (4, [.ref h35, .int 0])), (h23, .inr (4, [.ref h36, .int 0])), (h24, .inr (4, [.ref h37, .int 0])), (h25, .inr (4, [.ref h38, .int 0])), (h26, .inr (4, [.ref h39, .int 0]))] sz)) (va_A [(h0, .inr (0, [.ref h1, .ref h2, .ref h3, .ref h4, .ref h5, .ref h6, .ref h7, .int 0, .int 0, .int 0, .null])), (h1, .inr (1, [.int 1, .ref h8, .int 0, .int (-1), .int 0, .int 0, .int (-1), .ref h9])), (h2, .inr (4, [.ref h27, .int 0])), (h3, .inr (5, [.int 0, .ref h10])), (h4, .inl (K 4, 8, .inr (.inr (.inr (.inr (va_up (va_up (va_up (va_up (va_up (va_up (va_up (va_up (fun _ => none) 0 (some h18)) 1 (some h17)) 2 (some h16)) 3 (some h15)) 4 (some h14)) 5 (some h13)) 6 (some h12)) 7 (some h11))))))), (h5, .inr (2, [.int 7, .int 600, .ref h28, .int 0])), (h6, .inr (2, [.int 5, .int 600, .ref h29, .int 0])), (h7, .inr (6, [.ref h30, .int 0])), (h8, .inl (K 1, 200, .inl (fun _ => 0))), (h9, .inl (K 0, 9, .inl (upd (fun _ => 1) 6 2))), (h10, .inr (4, [.ref h31, .int 0])), (h11, .inr (5, [.int 0, .ref h19])), (h12, .inr (5, [.int 0, .ref h20])), (h13, .inr (5, [.int 0, .ref h21])), (h14, .inr (5, [.int 0, .ref h22])), (h15, .inr (5, [.int 0, .ref h23])), (h16, .inr (5, [.int 0, .ref h24])), (h17, .inr (5, [.int 0, .ref h25])), (h18, .inr (5, [.int 0, .ref h26])), (h19, .inr (4, [.ref h32, .int 0])), (h20, .inr (4, [.ref h33, .int 0])), (h21, .inr (4, [.ref h34, .int 0])), (h22, .inr (4, [.ref h35, .int 0])), (h23, .inr (4, [.ref h36, .int 0])), (h24, .inr (4, [.ref h37, .int 0])), (h25, .inr (4, [.ref h38, .int 0])), (h26, .inr (4, [.ref h39, .int 0]))] sz)) 0 0 (va_A [(h0, .inr (0, [.ref h1, .ref h2, .ref h3, .ref h4, .ref h5, .ref h6, .ref h7, .int 0, .int 0, .int 0, .null])), (h1, .inr (1, [.int 1, .ref h8, .int 0, .int (-1), .int 0, .int 0, .int (-1), .ref h9])), (h2, .inr (4, [.ref h27, .int 0])), (h3, .inr (5, [.int 0, .ref h10])), (h4, .inl (K 4, 8, .inr (.inr (.inr (.inr (va_up (va_up (va_up (va_up (va_up (va_up (va_up (va_up (fun _ => none) 0 (some h18)) 1 (some h17)) 2 (some h16)) 3 (some h15)) 4 (some h14)) 5 (some h13)) 6 (some h12)) 7 (some h11))))))), (h5, .inr (2, [.int 7, .int 600, .ref h28, .int 0])), (h6, .inr (2, [.int 5, .int 600, .ref h29, .int 0])), (h7, .inr (6, [.ref h30, .int 0])), (h8, .inl (K 1, 200, .inl (fun _ => 0))), (h9, .inl (K 0, 9, .inl (upd (fun _ => 1) 6 2))), (h10, .inr (4, [.ref h31, .int 0])), (h11, .inr (5, [.int 0, .ref h19])), (h12, .inr (5, [.int 0, .ref h20])), (h13, .inr (5, [.int 0, .ref h21])), (h14, .inr (5, [.int 0, .ref h22])), (h15, .inr (5, [.int 0, .ref h23])), (h16, .inr (5, [.int 0, .ref h24])), (h17, .inr (5, [.int 0, .ref h25])), (h18, .inr (5, [.int 0, .ref h26])), (h19, .inr (4, [.ref h32, .int 0])), (h20, .inr (4, [.ref h33, .int 0])), (h21, .inr (4, [.ref h34, .int 0])), (h22, .inr (4, [.ref h35, .int 0])), (h23, .inr (4, [.ref h36, .int 0])), (h24, .inr (4, [.ref h37, .int 0])), (h25, .inr (4, [.ref h38, .int 0])), (h26, .inr (4, [.ref h39, .int 0]))] sz) := by
  refine Met.ofW (cc := cX0_begin) (maxL := 2) (ret := none) (by decide) rfl ?_
  intro p e s m args below meth c s₁ B hml hv
  obtain ⟨rfl, hsz, hP, hK, hD0, hE⟩ := hv
  have hx := B.exec
  have hb := B.bytes
  have hr := B.returns
  have hts := atoms_spec (ws := v_X0_begin_0) B.pre
  have t_ := t_X0_begin_0
  have mw : ∀ w ∈ e_X0_begin_0, w ∈ v_X0_begin_0 := fun w h => List.mem_cons_of_mem _ (List.mem_append_left _ h)
  have hw := fun w (h : w ∈ e_X0_begin_0) => hts w (mw w h)
  have iX0 : ∀ w ∈ wsX00, w ∈ v_X0_begin_0 := fun w h => List.mem_cons_of_mem _ (List.mem_append_right _ (List.mem_append_left _ h))
  have iX3 : ∀ w ∈ wsX30, w ∈ v_X0_begin_0 := fun w h => List.mem_cons_of_mem _ (List.mem_append_right _ (List.mem_append_right _ (List.mem_append_left _ h)))
  have iX9 : ∀ w ∈ wsX90, w ∈ v_X0_begin_0 := fun w h => List.mem_cons_of_mem _ (List.mem_append_right _ (List.mem_append_right _ (List.mem_append_right _ (List.mem_append_left _ h))))
  have j_X0_clear_0 : ∀ w ∈ v_X0_clear_0, w ∈ v_X0_begin_0 := fun w h => List.mem_cons_of_mem _ (List.mem_append_right _ (List.mem_append_right _ (List.mem_append_right _ (List.mem_append_right _ (List.mem_append_left _ h)))))
  have j_X2_begin_1 : ∀ w ∈ v_X2_begin_1, w ∈ v_X0_begin_0 := fun w h => List.mem_cons_of_mem _ (List.mem_append_right _ (List.mem_append_right _ (List.mem_append_right _ (List.mem_append_right _ (List.mem_append_right _ (List.mem_append_left _ h))))))
  have hown : s.vm.findClass RX0 = some m.cls := findClass_of_methodNamed B.named
  have hlocks := B.notSynchronized
  subst hsz
  have hD := hD0.self (sz := s.heap.size)
  generalize hAe : va_A [(h0, .inr (0, [.ref h1, .ref h2, .ref h3, .ref h4, .ref h5, .ref h6, .ref h7, .int 0, .int 0, .int 0, .null])), (h1, .inr (1, [.int 1, .ref h8, .int 0, .int (-1), .int 0, .int 0, .int (-1), .ref h9])), (h2, .inr (4, [.ref h27, .int 0])), (h3, .inr (5, [.int 0, .ref h10])), (h4, .inl (K 4, 8, .inr (.inr (.inr (.inr (va_up (va_up (va_up (va_up (va_up (va_up (va_up (va_up (fun _ => none) 0 (some h18)) 1 (some h17)) 2 (some h16)) 3 (some h15)) 4 (some h14)) 5 (some h13)) 6 (some h12)) 7 (some h11))))))), (h5, .inr (2, [.int 7, .int 600, .ref h28, .int 0])), (h6, .inr (2, [.int 5, .int 600, .ref h29, .int 0])), (h7, .inr (6, [.ref h30, .int 0])), (h8, .inl (K 1, 200, .inl (fun _ => 0))), (h9, .inl (K 0, 9, .inl (upd (fun _ => 1) 6 2))), (h10, .inr (4, [.ref h31, .int 0])), (h11, .inr (5, [.int 0, .ref h19])), (h12, .inr (5, [.int 0, .ref h20])), (h13, .inr (5, [.int 0, .ref h21])), (h14, .inr (5, [.int 0, .ref h22])), (h15, .inr (5, [.int 0, .ref h23])), (h16, .inr (5, [.int 0, .ref h24])), (h17, .inr (5, [.int 0, .ref h25])), (h18, .inr (5, [.int 0, .ref h26])), (h19, .inr (4, [.ref h32, .int 0])), (h20, .inr (4, [.ref h33, .int 0])), (h21, .inr (4, [.ref h34, .int 0])), (h22, .inr (4, [.ref h35, .int 0])), (h23, .inr (4, [.ref h36, .int 0])), (h24, .inr (4, [.ref h37, .int 0])), (h25, .inr (4, [.ref h38, .int 0])), (h26, .inr (4, [.ref h39, .int 0]))] s.heap.size = A at hD ⊢
  have hA : ∀ q : Nat, s.heap.size ≤ q → A q := fun q h => by rw [← hAe]; exact Or.inr h
  have hS : va_S A s.heap s.heap [] := va_S.rf
  have hP : va_P G vwCl [(h0, .inr (0, [.ref h1, .ref h2, .ref h3, .ref h4, .ref h5, .ref h6, .ref h7, .int 0, .int 0, .int 0, .null])), (h1, .inr (1, [.int 1, .ref h8, .int 0, .int (-1), .int 0, .int 0, .int (-1), .ref h9])), (h2, .inr (4, [.ref h27, .int 0])), (h3, .inr (5, [.int 0, .ref h10])), (h4, .inl (K 4, 8, .inr (.inr (.inr (.inr (va_up (va_up (va_up (va_up (va_up (va_up (va_up (va_up (fun _ => none) 0 (some h18)) 1 (some h17)) 2 (some h16)) 3 (some h15)) 4 (some h14)) 5 (some h13)) 6 (some h12)) 7 (some h11))))))), (h5, .inr (2, [.int 7, .int 600, .ref h28, .int 0])), (h6, .inr (2, [.int 5, .int 600, .ref h29, .int 0])), (h7, .inr (6, [.ref h30, .int 0])), (h8, .inl (K 1, 200, .inl (fun _ => 0))), (h9, .inl (K 0, 9, .inl (upd (fun _ => 1) 6 2))), (h10, .inr (4, [.ref h31, .int 0])), (h11, .inr (5, [.int 0, .ref h19])), (h12, .inr (5, [.int 0, .ref h20])), (h13, .inr (5, [.int 0, .ref h21])), (h14, .inr (5, [.int 0, .ref h22])), (h15, .inr (5, [.int 0, .ref h23])), (h16, .inr (5, [.int 0, .ref h24])), (h17, .inr (5, [.int 0, .ref h25])), (h18, .inr (5, [.int 0, .ref h26])), (h19, .inr (4, [.ref h32, .int 0])), (h20, .inr (4, [.ref h33, .int 0])), (h21, .inr (4, [.ref h34, .int 0])), (h22, .inr (4, [.ref h35, .int 0])), (h23, .inr (4, [.ref h36, .int 0])), (h24, .inr (4, [.ref h37, .int 0])), (h25, .inr (4, [.ref h38, .int 0])), (h26, .inr (4, [.ref h39, .int 0]))] s.heap := hP
  have hl := lv_entry ([.ref h0, .int p0]) (n := 2) (Nat.le_of_ble_eq_true rfl)
  rw [lg_entry_eq]
  generalize (lg_sl ([.ref h0, .int p0]) ++ List.replicate (2 - (lg_sl ([.ref h0, .int p0])).length) Slot.unset).toArray = ls at hl ⊢
  have hl : lv_has ls 2 [(0, .ref h0), (1, .int p0)] := hl
  refine lv_aload_n hx hb dX0_begin_0 rfl (lv_at hl 0 rfl) ?_
  have hPc := hP.sub (ws' := [(h0, .inr (0, [.ref h1, .ref h2, .ref h3, .ref h4, .ref h5, .ref h6, .ref h7, .int 0, .int 0, .int 0, .null])), (h2, .inr (4, [.ref h27, .int 0])), (h3, .inr (5, [.int 0, .ref h10])), (h4, .inl (K 4, 8, .inr (.inr (.inr (.inr (va_up (va_up (va_up (va_up (va_up (va_up (va_up (va_up (fun _ => none) 0 (some h18)) 1 (some h17)) 2 (some h16)) 3 (some h15)) 4 (some h14)) 5 (some h13)) 6 (some h12)) 7 (some h11))))))), (h10, .inr (4, [.ref h31, .int 0])), (h11, .inr (5, [.int 0, .ref h19])), (h12, .inr (5, [.int 0, .ref h20])), (h13, .inr (5, [.int 0, .ref h21])), (h14, .inr (5, [.int 0, .ref h22])), (h15, .inr (5, [.int 0, .ref h23])), (h16, .inr (5, [.int 0, .ref h24])), (h17, .inr (5, [.int 0, .ref h25])), (h18, .inr (5, [.int 0, .ref h26])), (h19, .inr (4, [.ref h32, .int 0])), (h20, .inr (4, [.ref h33, .int 0])), (h21, .inr (4, [.ref h34, .int 0])), (h22, .inr (4, [.ref h35, .int 0])), (h23, .inr (4, [.ref h36, .int 0])), (h24, .inr (4, [.ref h37, .int 0])), (h25, .inr (4, [.ref h38, .int 0])), (h26, .inr (4, [.ref h39, .int 0]))]) [0, 2, 3, 4, 10, 11, 12, 13, 14, 15, 16, 17, 18, 19, 20, 21, 22, 23, 24, 25, 26] rfl
  have hDc := hD.sub (ws' := [(h0, .inr (0, [.ref h1, .ref h2, .ref h3, .ref h4, .ref h5, .ref h6, .ref h7, .int 0, .int 0, .int 0, .null])), (h2, .inr (4, [.ref h27, .int 0])), (h3, .inr (5, [.int 0, .ref h10])), (h4, .inl (K 4, 8, .inr (.inr (.inr (.inr (va_up (va_up (va_up (va_up (va_up (va_up (va_up (va_up (fun _ => none) 0 (some h18)) 1 (some h17)) 2 (some h16)) 3 (some h15)) 4 (some h14)) 5 (some h13)) 6 (some h12)) 7 (some h11))))))), (h10, .inr (4, [.ref h31, .int 0])), (h11, .inr (5, [.int 0, .ref h19])), (h12, .inr (5, [.int 0, .ref h20])), (h13, .inr (5, [.int 0, .ref h21])), (h14, .inr (5, [.int 0, .ref h22])), (h15, .inr (5, [.int 0, .ref h23])), (h16, .inr (5, [.int 0, .ref h24])), (h17, .inr (5, [.int 0, .ref h25])), (h18, .inr (5, [.int 0, .ref h26])), (h19, .inr (4, [.ref h32, .int 0])), (h20, .inr (4, [.ref h33, .int 0])), (h21, .inr (4, [.ref h34, .int 0])), (h22, .inr (4, [.ref h35, .int 0])), (h23, .inr (4, [.ref h36, .int 0])), (h24, .inr (4, [.ref h37, .int 0])), (h25, .inr (4, [.ref h38, .int 0])), (h26, .inr (4, [.ref h39, .int 0]))]) [0, 2, 3, 4, 10, 11, 12, 13, 14, 15, 16, 17, 18, 19, 20, 21, 22, 23, 24, 25, 26] (by decide) rfl
  refine wGov (wc := [(h0, .inr (0, [.ref h1, .ref h2, .ref h3, .ref h4, .ref h5, .ref h6, .ref h7, .int 0, .int 0, .int 0, .null])), (h2, .inr (4, [.ref h27, .int 0])), (h3, .inr (5, [.int 0, .ref h10])), (h4, .inl (K 4, 8, .inr (.inr (.inr (.inr (va_up (va_up (va_up (va_up (va_up (va_up (va_up (va_up (fun _ => none) 0 (some h18)) 1 (some h17)) 2 (some h16)) 3 (some h15)) 4 (some h14)) 5 (some h13)) 6 (some h12)) 7 (some h11))))))), (h10, .inr (4, [.ref h31, .int 0])), (h11, .inr (5, [.int 0, .ref h19])), (h12, .inr (5, [.int 0, .ref h20])), (h13, .inr (5, [.int 0, .ref h21])), (h14, .inr (5, [.int 0, .ref h22])), (h15, .inr (5, [.int 0, .ref h23])), (h16, .inr (5, [.int 0, .ref h24])), (h17, .inr (5, [.int 0, .ref h25])), (h18, .inr (5, [.int 0, .ref h26])), (h19, .inr (4, [.ref h32, .int 0])), (h20, .inr (4, [.ref h33, .int 0])), (h21, .inr (4, [.ref h34, .int 0])), (h22, .inr (4, [.ref h35, .int 0])), (h23, .inr (4, [.ref h36, .int 0])), (h24, .inr (4, [.ref h37, .int 0])), (h25, .inr (4, [.ref h38, .int 0])), (h26, .inr (4, [.ref h39, .int 0]))]) (wr := [(h1, .inr (1, [.int 1, .ref h8, .int 0, .int (-1), .int 0, .int 0, .int (-1), .ref h9])), (h5, .inr (2, [.int 7, .int 600, .ref h28, .int 0])), (h6, .inr (2, [.int 5, .int 600, .ref h29, .int 0])), (h7, .inr (6, [.ref h30, .int 0])), (h8, .inl (K 1, 200, .inl (fun _ => 0))), (h9, .inl (K 0, 9, .inl (upd (fun _ => 1) 6 2)))]) (va_runV (As := []) (rest := []) ⟨hx, hb, hml, hown, hts⟩ (m_X0_clear_0 l G K h0 h2 h3 h4 h10 h11 h12 h13 h14 h15 h16 h17 h18 h19 h20 h21 h22 h23 h24 h25 h26 h1 h5 h6 h7 h27 h31 h32 h33 h34 h35 h36 h37 h38 h39 _) (cwV 0 hts (wGV t_ (mw (.methodLink RX0 59 yX0_clear) (List.mem_of_getElem? (i := 0) rfl)) (mw (.instanceMethod yX0_clear) (List.mem_of_getElem? (i := 1) rfl)) (mw (.selects RX0 yX0_clear yX0_clear) (List.mem_of_getElem? (i := 2) rfl)) (mw (.initialized RX0) (List.mem_of_getElem? (i := 3) rfl)) j_X0_clear_0) rfl rfl rfl (by decide +kernel) ⟨Nat.le_of_ble_eq_true rfl, Nat.le_of_ble_eq_true rfl⟩) (wPV hK hE hPc hDc 0 0 rfl rfl) rfl rfl hl.1 rfl (lv_room (Nat.le_of_ble_eq_true rfl)) dX0_begin_1 ⟨Nat.le_of_ble_eq_true rfl, Nat.le_of_ble_eq_true rfl⟩) hP hD hS hA [0, 2, 3, 4, 10, 11, 12, 13, 14, 15, 16, 17, 18, 19, 20, 21, 22, 23, 24, 25, 26] [1, 5, 6, 7, 8, 9] rfl rfl rfl (by decide) (fun u H locs hw hP hD hS => ?_)
  subst hw
  have hP : va_P G vwCl [(h1, .inr (1, [.int 1, .ref h8, .int 0, .int (-1), .int 0, .int 0, .int (-1), .ref h9])), (h5, .inr (2, [.int 7, .int 600, .ref h28, .int 0])), (h6, .inr (2, [.int 5, .int 600, .ref h29, .int 0])), (h7, .inr (6, [.ref h30, .int 0])), (h8, .inl (K 1, 200, .inl (fun _ => 0))), (h9, .inl (K 0, 9, .inl (upd (fun _ => 1) 6 2))), (h0, .inr (0, [.ref h1, .ref h2, .ref h3, .ref h4, .ref h5, .ref h6, .ref h7, .int 0, .int 0, .int 0, .null])), (h2, .inr (4, [.ref h27, .int 0])), (h3, .inr (5, [.int 0, .ref h10])), (h4, .inl (K 4, 8, .inr (.inr (.inr (.inr (va_up (va_up (va_up (va_up (va_up (va_up (va_up (va_up (fun _ => none) 0 (some h18)) 1 (some h17)) 2 (some h16)) 3 (some h15)) 4 (some h14)) 5 (some h13)) 6 (some h12)) 7 (some h11))))))), (h10, .inr (4, [.ref h31, .int 0])), (h11, .inr (5, [.int 0, .ref h19])), (h12, .inr (5, [.int 0, .ref h20])), (h13, .inr (5, [.int 0, .ref h21])), (h14, .inr (5, [.int 0, .ref h22])), (h15, .inr (5, [.int 0, .ref h23])), (h16, .inr (5, [.int 0, .ref h24])), (h17, .inr (5, [.int 0, .ref h25])), (h18, .inr (5, [.int 0, .ref h26])), (h19, .inr (4, [.ref h32, .int 0])), (h20, .inr (4, [.ref h33, .int 0])), (h21, .inr (4, [.ref h34, .int 0])), (h22, .inr (4, [.ref h35, .int 0])), (h23, .inr (4, [.ref h36, .int 0])), (h24, .inr (4, [.ref h37, .int 0])), (h25, .inr (4, [.ref h38, .int 0])), (h26, .inr (4, [.ref h39, .int 0]))] _ := hP
  have hD : va_D A [(h1, .inr (1, [.int 1, .ref h8, .int 0, .int (-1), .int 0, .int 0, .int (-1), .ref h9])), (h5, .inr (2, [.int 7, .int 600, .ref h28, .int 0])), (h6, .inr (2, [.int 5, .int 600, .ref h29, .int 0])), (h7, .inr (6, [.ref h30, .int 0])), (h8, .inl (K 1, 200, .inl (fun _ => 0))), (h9, .inl (K 0, 9, .inl (upd (fun _ => 1) 6 2))), (h0, .inr (0, [.ref h1, .ref h2, .ref h3, .ref h4, .ref h5, .ref h6, .ref h7, .int 0, .int 0, .int 0, .null])), (h2, .inr (4, [.ref h27, .int 0])), (h3, .inr (5, [.int 0, .ref h10])), (h4, .inl (K 4, 8, .inr (.inr (.inr (.inr (va_up (va_up (va_up (va_up (va_up (va_up (va_up (va_up (fun _ => none) 0 (some h18)) 1 (some h17)) 2 (some h16)) 3 (some h15)) 4 (some h14)) 5 (some h13)) 6 (some h12)) 7 (some h11))))))), (h10, .inr (4, [.ref h31, .int 0])), (h11, .inr (5, [.int 0, .ref h19])), (h12, .inr (5, [.int 0, .ref h20])), (h13, .inr (5, [.int 0, .ref h21])), (h14, .inr (5, [.int 0, .ref h22])), (h15, .inr (5, [.int 0, .ref h23])), (h16, .inr (5, [.int 0, .ref h24])), (h17, .inr (5, [.int 0, .ref h25])), (h18, .inr (5, [.int 0, .ref h26])), (h19, .inr (4, [.ref h32, .int 0])), (h20, .inr (4, [.ref h33, .int 0])), (h21, .inr (4, [.ref h34, .int 0])), (h22, .inr (4, [.ref h35, .int 0])), (h23, .inr (4, [.ref h36, .int 0])), (h24, .inr (4, [.ref h37, .int 0])), (h25, .inr (4, [.ref h38, .int 0])), (h26, .inr (4, [.ref h39, .int 0]))] := hD
  refine lv_aload_n hx hb dX0_begin_4 rfl (lv_at hl 0 rfl) ?_
  refine va_get (D := G) (ci := 0) (v := .ref h1) (C := RX0) (T := TX0) (N := 11) hx hb hts iX0 hown hK hP 6 rfl rfl 0 (by decide) (hw (.fieldLink RX0 12 "MotionFloor$Assembly" "house" "LMotionFloor$House;") (List.mem_of_getElem? (i := 4) rfl)) (fun _ h9 => h9) rfl dX0_begin_5 ?_
  refine lv_iload_n hx hb dX0_begin_8 rfl (lv_at hl 1 rfl) ?_
  have hPc := hP.sub (ws' := [(h1, .inr (1, [.int 1, .ref h8, .int 0, .int (-1), .int 0, .int 0, .int (-1), .ref h9])), (h8, .inl (K 1, 200, .inl (fun _ => 0))), (h9, .inl (K 0, 9, .inl (upd (fun _ => 1) 6 2)))]) [0, 4, 5] rfl
  have hDc := hD.sub (ws' := [(h1, .inr (1, [.int 1, .ref h8, .int 0, .int (-1), .int 0, .int 0, .int (-1), .ref h9])), (h8, .inl (K 1, 200, .inl (fun _ => 0))), (h9, .inl (K 0, 9, .inl (upd (fun _ => 1) 6 2)))]) [0, 4, 5] (by decide) rfl
  refine wGov (wc := [(h1, .inr (1, [.int 1, .ref h8, .int 0, .int (-1), .int 0, .int 0, .int (-1), .ref h9])), (h8, .inl (K 1, 200, .inl (fun _ => 0))), (h9, .inl (K 0, 9, .inl (upd (fun _ => 1) 6 2)))]) (wr := [(h5, .inr (2, [.int 7, .int 600, .ref h28, .int 0])), (h6, .inr (2, [.int 5, .int 600, .ref h29, .int 0])), (h7, .inr (6, [.ref h30, .int 0])), (h0, .inr (0, [.ref h1, .ref h2, .ref h3, .ref h4, .ref h5, .ref h6, .ref h7, .int 0, .int 0, .int 0, .null])), (h2, .inr (4, [.ref h27, .int 0])), (h3, .inr (5, [.int 0, .ref h10])), (h4, .inl (K 4, 8, .inr (.inr (.inr (.inr (va_up (va_up (va_up (va_up (va_up (va_up (va_up (va_up (fun _ => none) 0 (some h18)) 1 (some h17)) 2 (some h16)) 3 (some h15)) 4 (some h14)) 5 (some h13)) 6 (some h12)) 7 (some h11))))))), (h10, .inr (4, [.ref h31, .int 0])), (h11, .inr (5, [.int 0, .ref h19])), (h12, .inr (5, [.int 0, .ref h20])), (h13, .inr (5, [.int 0, .ref h21])), (h14, .inr (5, [.int 0, .ref h22])), (h15, .inr (5, [.int 0, .ref h23])), (h16, .inr (5, [.int 0, .ref h24])), (h17, .inr (5, [.int 0, .ref h25])), (h18, .inr (5, [.int 0, .ref h26])), (h19, .inr (4, [.ref h32, .int 0])), (h20, .inr (4, [.ref h33, .int 0])), (h21, .inr (4, [.ref h34, .int 0])), (h22, .inr (4, [.ref h35, .int 0])), (h23, .inr (4, [.ref h36, .int 0])), (h24, .inr (4, [.ref h37, .int 0])), (h25, .inr (4, [.ref h38, .int 0])), (h26, .inr (4, [.ref h39, .int 0]))]) (va_runV (As := [.int p0]) (rest := []) ⟨hx, hb, hml, hown, hts⟩ (m_X2_begin_1 l G K h1 h8 h9 p0 _ (by omega)) (cwV 1 hts (wGV t_ (mw (.methodLink RX0 55 yX2_begin) (List.mem_of_getElem? (i := 5) rfl)) (mw (.instanceMethod yX2_begin) (List.mem_of_getElem? (i := 6) rfl)) (mw (.selects RX2 yX2_begin yX2_begin) (List.mem_of_getElem? (i := 7) rfl)) (mw (.initialized RX2) (List.mem_of_getElem? (i := 8) rfl)) j_X2_begin_1) rfl rfl rfl (by decide +kernel) ⟨Nat.le_of_ble_eq_true rfl, Nat.le_of_ble_eq_true rfl⟩) (wPV hK hE hPc hDc 1 0 rfl rfl) rfl rfl hl.1 rfl (lv_room (Nat.le_of_ble_eq_true rfl)) dX0_begin_9 ⟨Nat.le_of_ble_eq_true rfl, Nat.le_of_ble_eq_true rfl⟩) hP hD hS hA [0, 4, 5] [1, 2, 3, 6, 7, 8, 9, 10, 11, 12, 13, 14, 15, 16, 17, 18, 19, 20, 21, 22, 23, 24, 25, 26] rfl rfl rfl (by decide) (fun u H locs hw hP hD hS => ?_)
  subst hw
  have hP : va_P G vwCl [(h5, .inr (2, [.int 7, .int 600, .ref h28, .int 0])), (h6, .inr (2, [.int 5, .int 600, .ref h29, .int 0])), (h7, .inr (6, [.ref h30, .int 0])), (h0, .inr (0, [.ref h1, .ref h2, .ref h3, .ref h4, .ref h5, .ref h6, .ref h7, .int 0, .int 0, .int 0, .null])), (h2, .inr (4, [.ref h27, .int 0])), (h3, .inr (5, [.int 0, .ref h10])), (h4, .inl (K 4, 8, .inr (.inr (.inr (.inr (va_up (va_up (va_up (va_up (va_up (va_up (va_up (va_up (fun _ => none) 0 (some h18)) 1 (some h17)) 2 (some h16)) 3 (some h15)) 4 (some h14)) 5 (some h13)) 6 (some h12)) 7 (some h11))))))), (h10, .inr (4, [.ref h31, .int 0])), (h11, .inr (5, [.int 0, .ref h19])), (h12, .inr (5, [.int 0, .ref h20])), (h13, .inr (5, [.int 0, .ref h21])), (h14, .inr (5, [.int 0, .ref h22])), (h15, .inr (5, [.int 0, .ref h23])), (h16, .inr (5, [.int 0, .ref h24])), (h17, .inr (5, [.int 0, .ref h25])), (h18, .inr (5, [.int 0, .ref h26])), (h19, .inr (4, [.ref h32, .int 0])), (h20, .inr (4, [.ref h33, .int 0])), (h21, .inr (4, [.ref h34, .int 0])), (h22, .inr (4, [.ref h35, .int 0])), (h23, .inr (4, [.ref h36, .int 0])), (h24, .inr (4, [.ref h37, .int 0])), (h25, .inr (4, [.ref h38, .int 0])), (h26, .inr (4, [.ref h39, .int 0])), (h1, .inr (1, [.int p0, .ref h8, .int 0, .int (-1), .int 0, .int 0, .int (-1), .ref h9])), (h8, .inl (K 1, 200, .inl (fun _ => 0))), (h9, .inl (K 0, 9, .inl (upd (fun _ => 1) 6 2)))] _ := hP
  have hD : va_D A [(h5, .inr (2, [.int 7, .int 600, .ref h28, .int 0])), (h6, .inr (2, [.int 5, .int 600, .ref h29, .int 0])), (h7, .inr (6, [.ref h30, .int 0])), (h0, .inr (0, [.ref h1, .ref h2, .ref h3, .ref h4, .ref h5, .ref h6, .ref h7, .int 0, .int 0, .int 0, .null])), (h2, .inr (4, [.ref h27, .int 0])), (h3, .inr (5, [.int 0, .ref h10])), (h4, .inl (K 4, 8, .inr (.inr (.inr (.inr (va_up (va_up (va_up (va_up (va_up (va_up (va_up (va_up (fun _ => none) 0 (some h18)) 1 (some h17)) 2 (some h16)) 3 (some h15)) 4 (some h14)) 5 (some h13)) 6 (some h12)) 7 (some h11))))))), (h10, .inr (4, [.ref h31, .int 0])), (h11, .inr (5, [.int 0, .ref h19])), (h12, .inr (5, [.int 0, .ref h20])), (h13, .inr (5, [.int 0, .ref h21])), (h14, .inr (5, [.int 0, .ref h22])), (h15, .inr (5, [.int 0, .ref h23])), (h16, .inr (5, [.int 0, .ref h24])), (h17, .inr (5, [.int 0, .ref h25])), (h18, .inr (5, [.int 0, .ref h26])), (h19, .inr (4, [.ref h32, .int 0])), (h20, .inr (4, [.ref h33, .int 0])), (h21, .inr (4, [.ref h34, .int 0])), (h22, .inr (4, [.ref h35, .int 0])), (h23, .inr (4, [.ref h36, .int 0])), (h24, .inr (4, [.ref h37, .int 0])), (h25, .inr (4, [.ref h38, .int 0])), (h26, .inr (4, [.ref h39, .int 0])), (h1, .inr (1, [.int p0, .ref h8, .int 0, .int (-1), .int 0, .int 0, .int (-1), .ref h9])), (h8, .inl (K 1, 200, .inl (fun _ => 0))), (h9, .inl (K 0, 9, .inl (upd (fun _ => 1) 6 2)))] := hD
  refine lv_aload_n hx hb dX0_begin_12 rfl (lv_at hl 0 rfl) ?_
  refine va_get (D := G) (ci := 0) (v := .ref h5) (C := RX0) (T := TX0) (N := 11) hx hb hts iX0 hown hK hP 3 rfl rfl 4 (by decide) (hw (.fieldLink RX0 41 "MotionFloor$Assembly" "minutes" "LMotionFloor$Ledger;") (List.mem_of_getElem? (i := 9) rfl)) (fun _ h9 => h9) rfl dX0_begin_13 ?_
  refine lv_iconst (v := 0) hx hb dX0_begin_16 (by decide) ?_
  refine va_put (D := G) (ci := 2) (v := .int 0) (ty := .int) (C := RX3) (T := TX3) (N := 4) hx hb hts iX3 tyX3 tyX3_ok nmX3 hown hK hP hD hS 0 rfl rfl 3 (by decide) (hw (.fieldLink RX0 62 "MotionFloor$Ledger" "size" "I") (List.mem_of_getElem? (i := 10) rfl)) (fun _ h9 => h9) rfl (by decide +kernel) rfl rfl (Nat.le_of_ble_eq_true rfl) dX0_begin_17 (fun H locs hP hD hS => ?_)
  have hP : va_P G vwCl [(h5, .inr (2, [.int 7, .int 600, .ref h28, .int 0])), (h6, .inr (2, [.int 5, .int 600, .ref h29, .int 0])), (h7, .inr (6, [.ref h30, .int 0])), (h0, .inr (0, [.ref h1, .ref h2, .ref h3, .ref h4, .ref h5, .ref h6, .ref h7, .int 0, .int 0, .int 0, .null])), (h2, .inr (4, [.ref h27, .int 0])), (h3, .inr (5, [.int 0, .ref h10])), (h4, .inl (K 4, 8, .inr (.inr (.inr (.inr (va_up (va_up (va_up (va_up (va_up (va_up (va_up (va_up (fun _ => none) 0 (some h18)) 1 (some h17)) 2 (some h16)) 3 (some h15)) 4 (some h14)) 5 (some h13)) 6 (some h12)) 7 (some h11))))))), (h10, .inr (4, [.ref h31, .int 0])), (h11, .inr (5, [.int 0, .ref h19])), (h12, .inr (5, [.int 0, .ref h20])), (h13, .inr (5, [.int 0, .ref h21])), (h14, .inr (5, [.int 0, .ref h22])), (h15, .inr (5, [.int 0, .ref h23])), (h16, .inr (5, [.int 0, .ref h24])), (h17, .inr (5, [.int 0, .ref h25])), (h18, .inr (5, [.int 0, .ref h26])), (h19, .inr (4, [.ref h32, .int 0])), (h20, .inr (4, [.ref h33, .int 0])), (h21, .inr (4, [.ref h34, .int 0])), (h22, .inr (4, [.ref h35, .int 0])), (h23, .inr (4, [.ref h36, .int 0])), (h24, .inr (4, [.ref h37, .int 0])), (h25, .inr (4, [.ref h38, .int 0])), (h26, .inr (4, [.ref h39, .int 0])), (h1, .inr (1, [.int p0, .ref h8, .int 0, .int (-1), .int 0, .int 0, .int (-1), .ref h9])), (h8, .inl (K 1, 200, .inl (fun _ => 0))), (h9, .inl (K 0, 9, .inl (upd (fun _ => 1) 6 2)))] _ := hP
  have hD : va_D A [(h5, .inr (2, [.int 7, .int 600, .ref h28, .int 0])), (h6, .inr (2, [.int 5, .int 600, .ref h29, .int 0])), (h7, .inr (6, [.ref h30, .int 0])), (h0, .inr (0, [.ref h1, .ref h2, .ref h3, .ref h4, .ref h5, .ref h6, .ref h7, .int 0, .int 0, .int 0, .null])), (h2, .inr (4, [.ref h27, .int 0])), (h3, .inr (5, [.int 0, .ref h10])), (h4, .inl (K 4, 8, .inr (.inr (.inr (.inr (va_up (va_up (va_up (va_up (va_up (va_up (va_up (va_up (fun _ => none) 0 (some h18)) 1 (some h17)) 2 (some h16)) 3 (some h15)) 4 (some h14)) 5 (some h13)) 6 (some h12)) 7 (some h11))))))), (h10, .inr (4, [.ref h31, .int 0])), (h11, .inr (5, [.int 0, .ref h19])), (h12, .inr (5, [.int 0, .ref h20])), (h13, .inr (5, [.int 0, .ref h21])), (h14, .inr (5, [.int 0, .ref h22])), (h15, .inr (5, [.int 0, .ref h23])), (h16, .inr (5, [.int 0, .ref h24])), (h17, .inr (5, [.int 0, .ref h25])), (h18, .inr (5, [.int 0, .ref h26])), (h19, .inr (4, [.ref h32, .int 0])), (h20, .inr (4, [.ref h33, .int 0])), (h21, .inr (4, [.ref h34, .int 0])), (h22, .inr (4, [.ref h35, .int 0])), (h23, .inr (4, [.ref h36, .int 0])), (h24, .inr (4, [.ref h37, .int 0])), (h25, .inr (4, [.ref h38, .int 0])), (h26, .inr (4, [.ref h39, .int 0])), (h1, .inr (1, [.int p0, .ref h8, .int 0, .int (-1), .int 0, .int 0, .int (-1), .ref h9])), (h8, .inl (K 1, 200, .inl (fun _ => 0))), (h9, .inl (K 0, 9, .inl (upd (fun _ => 1) 6 2)))] := hD
  refine lv_aload_n hx hb dX0_begin_20 rfl (lv_at hl 0 rfl) ?_
  refine va_get (D := G) (ci := 0) (v := .ref h6) (C := RX0) (T := TX0) (N := 11) hx hb hts iX0 hown hK hP 3 rfl rfl 5 (by decide) (hw (.fieldLink RX0 45 "MotionFloor$Assembly" "results" "LMotionFloor$Ledger;") (List.mem_of_getElem? (i := 11) rfl)) (fun _ h9 => h9) rfl dX0_begin_21 ?_
  refine lv_iconst (v := 0) hx hb dX0_begin_24 (by decide) ?_
  refine va_put (D := G) (ci := 2) (v := .int 0) (ty := .int) (C := RX3) (T := TX3) (N := 4) hx hb hts iX3 tyX3 tyX3_ok nmX3 hown hK hP hD hS 1 rfl rfl 3 (by decide) (hw (.fieldLink RX0 62 "MotionFloor$Ledger" "size" "I") (List.mem_of_getElem? (i := 10) rfl)) (fun _ h9 => h9) rfl (by decide +kernel) rfl rfl (Nat.le_of_ble_eq_true rfl) dX0_begin_25 (fun H locs hP hD hS => ?_)
  have hP : va_P G vwCl [(h5, .inr (2, [.int 7, .int 600, .ref h28, .int 0])), (h6, .inr (2, [.int 5, .int 600, .ref h29, .int 0])), (h7, .inr (6, [.ref h30, .int 0])), (h0, .inr (0, [.ref h1, .ref h2, .ref h3, .ref h4, .ref h5, .ref h6, .ref h7, .int 0, .int 0, .int 0, .null])), (h2, .inr (4, [.ref h27, .int 0])), (h3, .inr (5, [.int 0, .ref h10])), (h4, .inl (K 4, 8, .inr (.inr (.inr (.inr (va_up (va_up (va_up (va_up (va_up (va_up (va_up (va_up (fun _ => none) 0 (some h18)) 1 (some h17)) 2 (some h16)) 3 (some h15)) 4 (some h14)) 5 (some h13)) 6 (some h12)) 7 (some h11))))))), (h10, .inr (4, [.ref h31, .int 0])), (h11, .inr (5, [.int 0, .ref h19])), (h12, .inr (5, [.int 0, .ref h20])), (h13, .inr (5, [.int 0, .ref h21])), (h14, .inr (5, [.int 0, .ref h22])), (h15, .inr (5, [.int 0, .ref h23])), (h16, .inr (5, [.int 0, .ref h24])), (h17, .inr (5, [.int 0, .ref h25])), (h18, .inr (5, [.int 0, .ref h26])), (h19, .inr (4, [.ref h32, .int 0])), (h20, .inr (4, [.ref h33, .int 0])), (h21, .inr (4, [.ref h34, .int 0])), (h22, .inr (4, [.ref h35, .int 0])), (h23, .inr (4, [.ref h36, .int 0])), (h24, .inr (4, [.ref h37, .int 0])), (h25, .inr (4, [.ref h38, .int 0])), (h26, .inr (4, [.ref h39, .int 0])), (h1, .inr (1, [.int p0, .ref h8, .int 0, .int (-1), .int 0, .int 0, .int (-1), .ref h9])), (h8, .inl (K 1, 200, .inl (fun _ => 0))), (h9, .inl (K 0, 9, .inl (upd (fun _ => 1) 6 2)))] _ := hP
  have hD : va_D A [(h5, .inr (2, [.int 7, .int 600, .ref h28, .int 0])), (h6, .inr (2, [.int 5, .int 600, .ref h29, .int 0])), (h7, .inr (6, [.ref h30, .int 0])), (h0, .inr (0, [.ref h1, .ref h2, .ref h3, .ref h4, .ref h5, .ref h6, .ref h7, .int 0, .int 0, .int 0, .null])), (h2, .inr (4, [.ref h27, .int 0])), (h3, .inr (5, [.int 0, .ref h10])), (h4, .inl (K 4, 8, .inr (.inr (.inr (.inr (va_up (va_up (va_up (va_up (va_up (va_up (va_up (va_up (fun _ => none) 0 (some h18)) 1 (some h17)) 2 (some h16)) 3 (some h15)) 4 (some h14)) 5 (some h13)) 6 (some h12)) 7 (some h11))))))), (h10, .inr (4, [.ref h31, .int 0])), (h11, .inr (5, [.int 0, .ref h19])), (h12, .inr (5, [.int 0, .ref h20])), (h13, .inr (5, [.int 0, .ref h21])), (h14, .inr (5, [.int 0, .ref h22])), (h15, .inr (5, [.int 0, .ref h23])), (h16, .inr (5, [.int 0, .ref h24])), (h17, .inr (5, [.int 0, .ref h25])), (h18, .inr (5, [.int 0, .ref h26])), (h19, .inr (4, [.ref h32, .int 0])), (h20, .inr (4, [.ref h33, .int 0])), (h21, .inr (4, [.ref h34, .int 0])), (h22, .inr (4, [.ref h35, .int 0])), (h23, .inr (4, [.ref h36, .int 0])), (h24, .inr (4, [.ref h37, .int 0])), (h25, .inr (4, [.ref h38, .int 0])), (h26, .inr (4, [.ref h39, .int 0])), (h1, .inr (1, [.int p0, .ref h8, .int 0, .int (-1), .int 0, .int 0, .int (-1), .ref h9])), (h8, .inl (K 1, 200, .inl (fun _ => 0))), (h9, .inl (K 0, 9, .inl (upd (fun _ => 1) 6 2)))] := hD
  refine lv_aload_n hx hb dX0_begin_28 rfl (lv_at hl 0 rfl) ?_
  refine va_get (D := G) (ci := 0) (v := .ref h7) (C := RX0) (T := TX0) (N := 11) hx hb hts iX0 hown hK hP 3 rfl rfl 6 (by decide) (hw (.fieldLink RX0 51 "MotionFloor$Assembly" "adopted" "LMotionFloor$Text;") (List.mem_of_getElem? (i := 12) rfl)) (fun _ h9 => h9) rfl dX0_begin_29 ?_
  refine lv_iconst (v := 0) hx hb dX0_begin_32 (by decide) ?_
  refine va_put (D := G) (ci := 6) (v := .int 0) (ty := .int) (C := RX9) (T := TX9) (N := 2) hx hb hts iX9 tyX9 tyX9_ok nmX9 hown hK hP hD hS 2 rfl rfl 1 (by decide) (hw (.fieldLink RX0 66 "MotionFloor$Text" "size" "I") (List.mem_of_getElem? (i := 13) rfl)) (fun _ h9 => h9) rfl (by decide +kernel) rfl rfl (Nat.le_of_ble_eq_true rfl) dX0_begin_33 (fun H locs hP hD hS => ?_)
  have hP : va_P G vwCl [(h5, .inr (2, [.int 7, .int 600, .ref h28, .int 0])), (h6, .inr (2, [.int 5, .int 600, .ref h29, .int 0])), (h7, .inr (6, [.ref h30, .int 0])), (h0, .inr (0, [.ref h1, .ref h2, .ref h3, .ref h4, .ref h5, .ref h6, .ref h7, .int 0, .int 0, .int 0, .null])), (h2, .inr (4, [.ref h27, .int 0])), (h3, .inr (5, [.int 0, .ref h10])), (h4, .inl (K 4, 8, .inr (.inr (.inr (.inr (va_up (va_up (va_up (va_up (va_up (va_up (va_up (va_up (fun _ => none) 0 (some h18)) 1 (some h17)) 2 (some h16)) 3 (some h15)) 4 (some h14)) 5 (some h13)) 6 (some h12)) 7 (some h11))))))), (h10, .inr (4, [.ref h31, .int 0])), (h11, .inr (5, [.int 0, .ref h19])), (h12, .inr (5, [.int 0, .ref h20])), (h13, .inr (5, [.int 0, .ref h21])), (h14, .inr (5, [.int 0, .ref h22])), (h15, .inr (5, [.int 0, .ref h23])), (h16, .inr (5, [.int 0, .ref h24])), (h17, .inr (5, [.int 0, .ref h25])), (h18, .inr (5, [.int 0, .ref h26])), (h19, .inr (4, [.ref h32, .int 0])), (h20, .inr (4, [.ref h33, .int 0])), (h21, .inr (4, [.ref h34, .int 0])), (h22, .inr (4, [.ref h35, .int 0])), (h23, .inr (4, [.ref h36, .int 0])), (h24, .inr (4, [.ref h37, .int 0])), (h25, .inr (4, [.ref h38, .int 0])), (h26, .inr (4, [.ref h39, .int 0])), (h1, .inr (1, [.int p0, .ref h8, .int 0, .int (-1), .int 0, .int 0, .int (-1), .ref h9])), (h8, .inl (K 1, 200, .inl (fun _ => 0))), (h9, .inl (K 0, 9, .inl (upd (fun _ => 1) 6 2)))] _ := hP
  have hD : va_D A [(h5, .inr (2, [.int 7, .int 600, .ref h28, .int 0])), (h6, .inr (2, [.int 5, .int 600, .ref h29, .int 0])), (h7, .inr (6, [.ref h30, .int 0])), (h0, .inr (0, [.ref h1, .ref h2, .ref h3, .ref h4, .ref h5, .ref h6, .ref h7, .int 0, .int 0, .int 0, .null])), (h2, .inr (4, [.ref h27, .int 0])), (h3, .inr (5, [.int 0, .ref h10])), (h4, .inl (K 4, 8, .inr (.inr (.inr (.inr (va_up (va_up (va_up (va_up (va_up (va_up (va_up (va_up (fun _ => none) 0 (some h18)) 1 (some h17)) 2 (some h16)) 3 (some h15)) 4 (some h14)) 5 (some h13)) 6 (some h12)) 7 (some h11))))))), (h10, .inr (4, [.ref h31, .int 0])), (h11, .inr (5, [.int 0, .ref h19])), (h12, .inr (5, [.int 0, .ref h20])), (h13, .inr (5, [.int 0, .ref h21])), (h14, .inr (5, [.int 0, .ref h22])), (h15, .inr (5, [.int 0, .ref h23])), (h16, .inr (5, [.int 0, .ref h24])), (h17, .inr (5, [.int 0, .ref h25])), (h18, .inr (5, [.int 0, .ref h26])), (h19, .inr (4, [.ref h32, .int 0])), (h20, .inr (4, [.ref h33, .int 0])), (h21, .inr (4, [.ref h34, .int 0])), (h22, .inr (4, [.ref h35, .int 0])), (h23, .inr (4, [.ref h36, .int 0])), (h24, .inr (4, [.ref h37, .int 0])), (h25, .inr (4, [.ref h38, .int 0])), (h26, .inr (4, [.ref h39, .int 0])), (h1, .inr (1, [.int p0, .ref h8, .int 0, .int (-1), .int 0, .int 0, .int (-1), .ref h9])), (h8, .inl (K 1, 200, .inl (fun _ => 0))), (h9, .inl (K 0, 9, .inl (upd (fun _ => 1) 6 2)))] := hD
  refine lv_aload_n hx hb dX0_begin_36 rfl (lv_at hl 0 rfl) ?_
  refine lv_iconst (v := 0) hx hb dX0_begin_37 (by decide) ?_
  refine va_put (D := G) (ci := 0) (v := .int 0) (ty := .int) (C := RX0) (T := TX0) (N := 11) hx hb hts iX0 tyX0 tyX0_ok nmX0 hown hK hP hD hS 3 rfl rfl 7 (by decide) (hw (.fieldLink RX0 67 "MotionFloor$Assembly" "adoptions" "I") (List.mem_of_getElem? (i := 14) rfl)) (fun _ h9 => h9) rfl (by decide +kernel) rfl rfl (Nat.le_of_ble_eq_true rfl) dX0_begin_38 (fun H locs hP hD hS => ?_)
  have hP : va_P G vwCl [(h5, .inr (2, [.int 7, .int 600, .ref h28, .int 0])), (h6, .inr (2, [.int 5, .int 600, .ref h29, .int 0])), (h7, .inr (6, [.ref h30, .int 0])), (h0, .inr (0, [.ref h1, .ref h2, .ref h3, .ref h4, .ref h5, .ref h6, .ref h7, .int 0, .int 0, .int 0, .null])), (h2, .inr (4, [.ref h27, .int 0])), (h3, .inr (5, [.int 0, .ref h10])), (h4, .inl (K 4, 8, .inr (.inr (.inr (.inr (va_up (va_up (va_up (va_up (va_up (va_up (va_up (va_up (fun _ => none) 0 (some h18)) 1 (some h17)) 2 (some h16)) 3 (some h15)) 4 (some h14)) 5 (some h13)) 6 (some h12)) 7 (some h11))))))), (h10, .inr (4, [.ref h31, .int 0])), (h11, .inr (5, [.int 0, .ref h19])), (h12, .inr (5, [.int 0, .ref h20])), (h13, .inr (5, [.int 0, .ref h21])), (h14, .inr (5, [.int 0, .ref h22])), (h15, .inr (5, [.int 0, .ref h23])), (h16, .inr (5, [.int 0, .ref h24])), (h17, .inr (5, [.int 0, .ref h25])), (h18, .inr (5, [.int 0, .ref h26])), (h19, .inr (4, [.ref h32, .int 0])), (h20, .inr (4, [.ref h33, .int 0])), (h21, .inr (4, [.ref h34, .int 0])), (h22, .inr (4, [.ref h35, .int 0])), (h23, .inr (4, [.ref h36, .int 0])), (h24, .inr (4, [.ref h37, .int 0])), (h25, .inr (4, [.ref h38, .int 0])), (h26, .inr (4, [.ref h39, .int 0])), (h1, .inr (1, [.int p0, .ref h8, .int 0, .int (-1), .int 0, .int 0, .int (-1), .ref h9])), (h8, .inl (K 1, 200, .inl (fun _ => 0))), (h9, .inl (K 0, 9, .inl (upd (fun _ => 1) 6 2)))] _ := hP
  have hD : va_D A [(h5, .inr (2, [.int 7, .int 600, .ref h28, .int 0])), (h6, .inr (2, [.int 5, .int 600, .ref h29, .int 0])), (h7, .inr (6, [.ref h30, .int 0])), (h0, .inr (0, [.ref h1, .ref h2, .ref h3, .ref h4, .ref h5, .ref h6, .ref h7, .int 0, .int 0, .int 0, .null])), (h2, .inr (4, [.ref h27, .int 0])), (h3, .inr (5, [.int 0, .ref h10])), (h4, .inl (K 4, 8, .inr (.inr (.inr (.inr (va_up (va_up (va_up (va_up (va_up (va_up (va_up (va_up (fun _ => none) 0 (some h18)) 1 (some h17)) 2 (some h16)) 3 (some h15)) 4 (some h14)) 5 (some h13)) 6 (some h12)) 7 (some h11))))))), (h10, .inr (4, [.ref h31, .int 0])), (h11, .inr (5, [.int 0, .ref h19])), (h12, .inr (5, [.int 0, .ref h20])), (h13, .inr (5, [.int 0, .ref h21])), (h14, .inr (5, [.int 0, .ref h22])), (h15, .inr (5, [.int 0, .ref h23])), (h16, .inr (5, [.int 0, .ref h24])), (h17, .inr (5, [.int 0, .ref h25])), (h18, .inr (5, [.int 0, .ref h26])), (h19, .inr (4, [.ref h32, .int 0])), (h20, .inr (4, [.ref h33, .int 0])), (h21, .inr (4, [.ref h34, .int 0])), (h22, .inr (4, [.ref h35, .int 0])), (h23, .inr (4, [.ref h36, .int 0])), (h24, .inr (4, [.ref h37, .int 0])), (h25, .inr (4, [.ref h38, .int 0])), (h26, .inr (4, [.ref h39, .int 0])), (h1, .inr (1, [.int p0, .ref h8, .int 0, .int (-1), .int 0, .int 0, .int (-1), .ref h9])), (h8, .inl (K 1, 200, .inl (fun _ => 0))), (h9, .inl (K 0, 9, .inl (upd (fun _ => 1) 6 2)))] := hD
  refine lv_aload_n hx hb dX0_begin_41 rfl (lv_at hl 0 rfl) ?_
  refine lv_iconst (v := 0) hx hb dX0_begin_42 (by decide) ?_
  refine va_put (D := G) (ci := 0) (v := .int 0) (ty := .int) (C := RX0) (T := TX0) (N := 11) hx hb hts iX0 tyX0 tyX0_ok nmX0 hown hK hP hD hS 3 rfl rfl 8 (by decide) (hw (.fieldLink RX0 70 "MotionFloor$Assembly" "names" "I") (List.mem_of_getElem? (i := 15) rfl)) (fun _ h9 => h9) rfl (by decide +kernel) rfl rfl (Nat.le_of_ble_eq_true rfl) dX0_begin_43 (fun H locs hP hD hS => ?_)
  have hP : va_P G vwCl [(h5, .inr (2, [.int 7, .int 600, .ref h28, .int 0])), (h6, .inr (2, [.int 5, .int 600, .ref h29, .int 0])), (h7, .inr (6, [.ref h30, .int 0])), (h0, .inr (0, [.ref h1, .ref h2, .ref h3, .ref h4, .ref h5, .ref h6, .ref h7, .int 0, .int 0, .int 0, .null])), (h2, .inr (4, [.ref h27, .int 0])), (h3, .inr (5, [.int 0, .ref h10])), (h4, .inl (K 4, 8, .inr (.inr (.inr (.inr (va_up (va_up (va_up (va_up (va_up (va_up (va_up (va_up (fun _ => none) 0 (some h18)) 1 (some h17)) 2 (some h16)) 3 (some h15)) 4 (some h14)) 5 (some h13)) 6 (some h12)) 7 (some h11))))))), (h10, .inr (4, [.ref h31, .int 0])), (h11, .inr (5, [.int 0, .ref h19])), (h12, .inr (5, [.int 0, .ref h20])), (h13, .inr (5, [.int 0, .ref h21])), (h14, .inr (5, [.int 0, .ref h22])), (h15, .inr (5, [.int 0, .ref h23])), (h16, .inr (5, [.int 0, .ref h24])), (h17, .inr (5, [.int 0, .ref h25])), (h18, .inr (5, [.int 0, .ref h26])), (h19, .inr (4, [.ref h32, .int 0])), (h20, .inr (4, [.ref h33, .int 0])), (h21, .inr (4, [.ref h34, .int 0])), (h22, .inr (4, [.ref h35, .int 0])), (h23, .inr (4, [.ref h36, .int 0])), (h24, .inr (4, [.ref h37, .int 0])), (h25, .inr (4, [.ref h38, .int 0])), (h26, .inr (4, [.ref h39, .int 0])), (h1, .inr (1, [.int p0, .ref h8, .int 0, .int (-1), .int 0, .int 0, .int (-1), .ref h9])), (h8, .inl (K 1, 200, .inl (fun _ => 0))), (h9, .inl (K 0, 9, .inl (upd (fun _ => 1) 6 2)))] _ := hP
  have hD : va_D A [(h5, .inr (2, [.int 7, .int 600, .ref h28, .int 0])), (h6, .inr (2, [.int 5, .int 600, .ref h29, .int 0])), (h7, .inr (6, [.ref h30, .int 0])), (h0, .inr (0, [.ref h1, .ref h2, .ref h3, .ref h4, .ref h5, .ref h6, .ref h7, .int 0, .int 0, .int 0, .null])), (h2, .inr (4, [.ref h27, .int 0])), (h3, .inr (5, [.int 0, .ref h10])), (h4, .inl (K 4, 8, .inr (.inr (.inr (.inr (va_up (va_up (va_up (va_up (va_up (va_up (va_up (va_up (fun _ => none) 0 (some h18)) 1 (some h17)) 2 (some h16)) 3 (some h15)) 4 (some h14)) 5 (some h13)) 6 (some h12)) 7 (some h11))))))), (h10, .inr (4, [.ref h31, .int 0])), (h11, .inr (5, [.int 0, .ref h19])), (h12, .inr (5, [.int 0, .ref h20])), (h13, .inr (5, [.int 0, .ref h21])), (h14, .inr (5, [.int 0, .ref h22])), (h15, .inr (5, [.int 0, .ref h23])), (h16, .inr (5, [.int 0, .ref h24])), (h17, .inr (5, [.int 0, .ref h25])), (h18, .inr (5, [.int 0, .ref h26])), (h19, .inr (4, [.ref h32, .int 0])), (h20, .inr (4, [.ref h33, .int 0])), (h21, .inr (4, [.ref h34, .int 0])), (h22, .inr (4, [.ref h35, .int 0])), (h23, .inr (4, [.ref h36, .int 0])), (h24, .inr (4, [.ref h37, .int 0])), (h25, .inr (4, [.ref h38, .int 0])), (h26, .inr (4, [.ref h39, .int 0])), (h1, .inr (1, [.int p0, .ref h8, .int 0, .int (-1), .int 0, .int 0, .int (-1), .ref h9])), (h8, .inl (K 1, 200, .inl (fun _ => 0))), (h9, .inl (K 0, 9, .inl (upd (fun _ => 1) 6 2)))] := hD
  refine lv_aload_n hx hb dX0_begin_46 rfl (lv_at hl 0 rfl) ?_
  refine lv_iconst (v := 0) hx hb dX0_begin_47 (by decide) ?_
  refine va_put (D := G) (ci := 0) (v := .int 0) (ty := .int) (C := RX0) (T := TX0) (N := 11) hx hb hts iX0 tyX0 tyX0_ok nmX0 hown hK hP hD hS 3 rfl rfl 9 (by decide) (hw (.fieldLink RX0 73 "MotionFloor$Assembly" "reason" "I") (List.mem_of_getElem? (i := 16) rfl)) (fun _ h9 => h9) rfl (by decide +kernel) rfl rfl (Nat.le_of_ble_eq_true rfl) dX0_begin_48 (fun H locs hP hD hS => ?_)
  have hP : va_P G vwCl [(h5, .inr (2, [.int 7, .int 600, .ref h28, .int 0])), (h6, .inr (2, [.int 5, .int 600, .ref h29, .int 0])), (h7, .inr (6, [.ref h30, .int 0])), (h0, .inr (0, [.ref h1, .ref h2, .ref h3, .ref h4, .ref h5, .ref h6, .ref h7, .int 0, .int 0, .int 0, .null])), (h2, .inr (4, [.ref h27, .int 0])), (h3, .inr (5, [.int 0, .ref h10])), (h4, .inl (K 4, 8, .inr (.inr (.inr (.inr (va_up (va_up (va_up (va_up (va_up (va_up (va_up (va_up (fun _ => none) 0 (some h18)) 1 (some h17)) 2 (some h16)) 3 (some h15)) 4 (some h14)) 5 (some h13)) 6 (some h12)) 7 (some h11))))))), (h10, .inr (4, [.ref h31, .int 0])), (h11, .inr (5, [.int 0, .ref h19])), (h12, .inr (5, [.int 0, .ref h20])), (h13, .inr (5, [.int 0, .ref h21])), (h14, .inr (5, [.int 0, .ref h22])), (h15, .inr (5, [.int 0, .ref h23])), (h16, .inr (5, [.int 0, .ref h24])), (h17, .inr (5, [.int 0, .ref h25])), (h18, .inr (5, [.int 0, .ref h26])), (h19, .inr (4, [.ref h32, .int 0])), (h20, .inr (4, [.ref h33, .int 0])), (h21, .inr (4, [.ref h34, .int 0])), (h22, .inr (4, [.ref h35, .int 0])), (h23, .inr (4, [.ref h36, .int 0])), (h24, .inr (4, [.ref h37, .int 0])), (h25, .inr (4, [.ref h38, .int 0])), (h26, .inr (4, [.ref h39, .int 0])), (h1, .inr (1, [.int p0, .ref h8, .int 0, .int (-1), .int 0, .int 0, .int (-1), .ref h9])), (h8, .inl (K 1, 200, .inl (fun _ => 0))), (h9, .inl (K 0, 9, .inl (upd (fun _ => 1) 6 2)))] _ := hP
  have hD : va_D A [(h5, .inr (2, [.int 7, .int 600, .ref h28, .int 0])), (h6, .inr (2, [.int 5, .int 600, .ref h29, .int 0])), (h7, .inr (6, [.ref h30, .int 0])), (h0, .inr (0, [.ref h1, .ref h2, .ref h3, .ref h4, .ref h5, .ref h6, .ref h7, .int 0, .int 0, .int 0, .null])), (h2, .inr (4, [.ref h27, .int 0])), (h3, .inr (5, [.int 0, .ref h10])), (h4, .inl (K 4, 8, .inr (.inr (.inr (.inr (va_up (va_up (va_up (va_up (va_up (va_up (va_up (va_up (fun _ => none) 0 (some h18)) 1 (some h17)) 2 (some h16)) 3 (some h15)) 4 (some h14)) 5 (some h13)) 6 (some h12)) 7 (some h11))))))), (h10, .inr (4, [.ref h31, .int 0])), (h11, .inr (5, [.int 0, .ref h19])), (h12, .inr (5, [.int 0, .ref h20])), (h13, .inr (5, [.int 0, .ref h21])), (h14, .inr (5, [.int 0, .ref h22])), (h15, .inr (5, [.int 0, .ref h23])), (h16, .inr (5, [.int 0, .ref h24])), (h17, .inr (5, [.int 0, .ref h25])), (h18, .inr (5, [.int 0, .ref h26])), (h19, .inr (4, [.ref h32, .int 0])), (h20, .inr (4, [.ref h33, .int 0])), (h21, .inr (4, [.ref h34, .int 0])), (h22, .inr (4, [.ref h35, .int 0])), (h23, .inr (4, [.ref h36, .int 0])), (h24, .inr (4, [.ref h37, .int 0])), (h25, .inr (4, [.ref h38, .int 0])), (h26, .inr (4, [.ref h39, .int 0])), (h1, .inr (1, [.int p0, .ref h8, .int 0, .int (-1), .int 0, .int 0, .int (-1), .ref h9])), (h8, .inl (K 1, 200, .inl (fun _ => 0))), (h9, .inl (K 0, 9, .inl (upd (fun _ => 1) 6 2)))] := hD
  have hP9 := hP.sub (ws' := [(h0, .inr (0, [.ref h1, .ref h2, .ref h3, .ref h4, .ref h5, .ref h6, .ref h7, .int 0, .int 0, .int 0, .null])), (h1, .inr (1, [.int p0, .ref h8, .int 0, .int (-1), .int 0, .int 0, .int (-1), .ref h9])), (h2, .inr (4, [.ref h27, .int 0])), (h3, .inr (5, [.int 0, .ref h10])), (h4, .inl (K 4, 8, .inr (.inr (.inr (.inr (va_up (va_up (va_up (va_up (va_up (va_up (va_up (va_up (fun _ => none) 0 (some h18)) 1 (some h17)) 2 (some h16)) 3 (some h15)) 4 (some h14)) 5 (some h13)) 6 (some h12)) 7 (some h11))))))), (h5, .inr (2, [.int 7, .int 600, .ref h28, .int 0])), (h6, .inr (2, [.int 5, .int 600, .ref h29, .int 0])), (h7, .inr (6, [.ref h30, .int 0])), (h8, .inl (K 1, 200, .inl (fun _ => 0))), (h9, .inl (K 0, 9, .inl (upd (fun _ => 1) 6 2))), (h10, .inr (4, [.ref h31, .int 0])), (h11, .inr (5, [.int 0, .ref h19])), (h12, .inr (5, [.int 0, .ref h20])), (h13, .inr (5, [.int 0, .ref h21])), (h14, .inr (5, [.int 0, .ref h22])), (h15, .inr (5, [.int 0, .ref h23])), (h16, .inr (5, [.int 0, .ref h24])), (h17, .inr (5, [.int 0, .ref h25])), (h18, .inr (5, [.int 0, .ref h26])), (h19, .inr (4, [.ref h32, .int 0])), (h20, .inr (4, [.ref h33, .int 0])), (h21, .inr (4, [.ref h34, .int 0])), (h22, .inr (4, [.ref h35, .int 0])), (h23, .inr (4, [.ref h36, .int 0])), (h24, .inr (4, [.ref h37, .int 0])), (h25, .inr (4, [.ref h38, .int 0])), (h26, .inr (4, [.ref h39, .int 0]))]) [3, 24, 4, 5, 6, 0, 1, 2, 25, 26, 7, 8, 9, 10, 11, 12, 13, 14, 15, 16, 17, 18, 19, 20, 21, 22, 23] rfl
  have hD9 := hD.sub (ws' := [(h0, .inr (0, [.ref h1, .ref h2, .ref h3, .ref h4, .ref h5, .ref h6, .ref h7, .int 0, .int 0, .int 0, .null])), (h1, .inr (1, [.int p0, .ref h8, .int 0, .int (-1), .int 0, .int 0, .int (-1), .ref h9])), (h2, .inr (4, [.ref h27, .int 0])), (h3, .inr (5, [.int 0, .ref h10])), (h4, .inl (K 4, 8, .inr (.inr (.inr (.inr (va_up (va_up (va_up (va_up (va_up (va_up (va_up (va_up (fun _ => none) 0 (some h18)) 1 (some h17)) 2 (some h16)) 3 (some h15)) 4 (some h14)) 5 (some h13)) 6 (some h12)) 7 (some h11))))))), (h5, .inr (2, [.int 7, .int 600, .ref h28, .int 0])), (h6, .inr (2, [.int 5, .int 600, .ref h29, .int 0])), (h7, .inr (6, [.ref h30, .int 0])), (h8, .inl (K 1, 200, .inl (fun _ => 0))), (h9, .inl (K 0, 9, .inl (upd (fun _ => 1) 6 2))), (h10, .inr (4, [.ref h31, .int 0])), (h11, .inr (5, [.int 0, .ref h19])), (h12, .inr (5, [.int 0, .ref h20])), (h13, .inr (5, [.int 0, .ref h21])), (h14, .inr (5, [.int 0, .ref h22])), (h15, .inr (5, [.int 0, .ref h23])), (h16, .inr (5, [.int 0, .ref h24])), (h17, .inr (5, [.int 0, .ref h25])), (h18, .inr (5, [.int 0, .ref h26])), (h19, .inr (4, [.ref h32, .int 0])), (h20, .inr (4, [.ref h33, .int 0])), (h21, .inr (4, [.ref h34, .int 0])), (h22, .inr (4, [.ref h35, .int 0])), (h23, .inr (4, [.ref h36, .int 0])), (h24, .inr (4, [.ref h37, .int 0])), (h25, .inr (4, [.ref h38, .int 0])), (h26, .inr (4, [.ref h39, .int 0]))]) [3, 24, 4, 5, 6, 0, 1, 2, 25, 26, 7, 8, 9, 10, 11, 12, 13, 14, 15, 16, 17, 18, 19, 20, 21, 22, 23] (by decide) rfl
  exact W.vret hx hb hr (fun t ht hW => ⟨⟨_, rfl, rfl, by rw [ht]; exact hP9, hD9⟩, hS.F ht⟩) hS.2.2 dX0_begin_51
def e_X10_seats_0 : List Cond := [.fieldLink RX10 10 "MotionFloor" "now" "LMotionFloor$Assembly;", .methodLink RX10 28 yX0_begin, .instanceMethod yX0_begin, .selects RX0 yX0_begin yX0_begin, .initialized RX0]
def v_X10_seats_0 : List Cond := .code yX10_seats cX10_seats 2 (some .int) :: (e_X10_seats_0 ++ (wsX100 ++ (v_X0_begin_0 ++ [])))
theorem te_X10_seats_0 : GoodIn lw_tbl e_X10_seats_0 := wGc z115 (wGc z274 (wGc z273 (wGc z272 (wGc z118 (wG0)))))
theorem t_X10_seats_0 : GoodIn lw_tbl v_X10_seats_0 := wGc z275 (wGa te_X10_seats_0 (wGa zcX10 (wGa t_X0_begin_0 (wG0))))
set_option maxHeartbeats 4000000 in
set_option maxRecDepth 100000 in
theorem m_X10_seats_0 (l : Launch) (G : va_G) (K : Nat → ClassId) (h0 h1 h2 h3 h4 h5 h6 h7 h8 h9 h10 h11 h12 h13 h14 h15 h16 h17 h18 h19 h20 h21 h22 h23 h24 h25 h26 h27 h28 h29 h30 h31 h32 h33 h34 h35 h36 h37 h38 h39 h40 h41 h42 : Nat) (p0 : Int32) (sz : Nat) : Met l yX10_seats v_X10_seats_0 ({ frames := 4, cells := 0, slots := 0, locals := 85 }) (va_Pc [.ref h0, .int p0] (wS G K sz [(h0, .inr (7, [.ref h1, .ref h28, .null, .null, .ref h29])), (h1, .inr (0, [.ref h2, .ref h3, .ref h4, .ref h5, .ref h6, .ref h7, .ref h8, .int 0, .int 0, .int 0, .null])), (h2, .inr (1, [.int 1, .ref h9, .int 0, .int (-1), .int 0, .int 0, .int (-1), .ref h10])), (h3, .inr (4, [.ref h30, .int 0])), (h4, .inr (5, [.int 0, .ref h11])), (h5, .inl (K 4, 8, .inr (.inr (.inr (.inr (va_up (va_up (va_up (va_up (va_up (va_up (va_up (va_up (fun _ => none) 0 (some h19)) 1 (some h18)) 2 (some h17)) 3 (some h16)) 4 (some h15)) 5 (some h14)) 6 (some h13)) 7 (some h12))))))), (h6, .inr (2, [.int 7, .int 600, .ref h31, .int 0])), (h7, .inr (2, [.int 5, .int 600, .ref h32, .int 0])), (h8, .inr (6, [.ref h33, .int 0])), (h9, .inl (K 1, 200, .inl (fun _ => 0))), (h10, .inl (K 0, 9, .inl (upd (fun _ => 1) 6 2))), (h11, .inr (4, [.ref h34, .int 0])), (h12, .inr (5, [.int 0, .ref h20])), (h13, .inr (5, [.int 0, .ref h21])), (h14, .inr (5, [.int 0, .ref h22])), (h15, .inr (5, [.int 0, .ref h23])), (h16, .inr (5, [.int 0, .ref h24])), (h17, .inr (5, [.int 0, .ref h25])), (h18, .inr (5, [.int 0, .ref h26])), (h19, .inr (5, [.int 0, .ref h27])), (h20, .inr (4, [.ref h35, .int 0])), (h21, .inr (4, [.ref h36, .int 0])), (h22, .inr (4, [.ref h37, .int 0])), (h23, .inr (4, [.ref h38, .int 0])), (h24, .inr (4, [.ref h39, .int 0])), (h25, .inr (4, [.ref h40, .int 0])), (h26, .inr (4, [.ref h41, .int 0])), (h27, .inr (4, [.ref h42, .int 0]))])) (va_Qi (fun (r : Int32) (u : va_W) => ((p0.toInt < 1 ∨ (p0.toInt ≥ 1 ∧ p0.toInt > 200)) ∧ (-9) = r ∧ u = [(h0, .inr (7, [.ref h1, .ref h28, .null, .null, .ref h29])), (h1, .inr (0, [.ref h2, .ref h3, .ref h4, .ref h5, .ref h6, .ref h7, .ref h8, .int 0, .int 0, .int 0, .null])), (h2, .inr (1, [.int 1, .ref h9, .int 0, .int (-1), .int 0, .int 0, .int (-1), .ref h10])), (h3, .inr (4, [.ref h30, .int 0])), (h4, .inr (5, [.int 0, .ref h11])), (h5, .inl (K 4, 8, .inr (.inr (.inr (.inr (va_up (va_up (va_up (va_up (va_up (va_up (va_up (va_up (fun _ => none) 0 (some h19)) 1 (some h18)) 2 (some h17)) 3 (some h16)) 4 (some h15)) 5 (some h14)) 6 (some h13)) 7 (some h12))))))), (h6, .inr (2, [.int 7, .int 600, .ref h31, .int 0])), (h7, .inr (2, [.int 5, .int 600, .ref h32, .int 0])), (h8, .inr (6, [.ref h33, .int 0])), (h9, .inl (K 1, 200, .inl (fun _ => 0))), (h10, .inl (K 0, 9, .inl (upd (fun _ => 1) 6 2))), (h11, .inr (4, [.ref h34, .int 0])), (h12, .inr (5, [.int 0, .ref h20])), (h13, .inr (5, [.int 0, .ref h21])), (h14, .inr (5, [.int 0, .ref h22])), (h15, .inr (5, [.int 0, .ref h23])), (h16, .inr (5, [.int 0, .ref h24])), (h17, .inr (5, [.int 0, .ref h25])), (h18, .inr (5, [.int 0, .ref h26])), (h19, .inr (5, [.int 0, .ref h27])), (h20, .inr (4, [.ref h35, .int 0])), (h21, .inr (4, [.ref h36, .int 0])), (h22, .inr (4, [.ref h37, .int 0])), (h23, .inr (4, [.ref h38, .int 0])), (h24, .inr (4, [.ref h39, .int 0])), (h25, .inr (4, [.ref h40, .int 0])), (h26, .inr (4, [.ref h41, .int 0])), (h27, .inr (4, [.ref h42, .int 0]))]) ∨ (((p0.toInt ≥ 1 ∧ p0.toInt ≤ 200)) ∧ p0 = r ∧ u = [(h0, .inr (7, [.ref h1, .ref h28, .null, .null, .ref h29])), (h1, .inr (0, [.ref h2, .ref h3, .ref h4, .ref h5, .ref h6, .ref h7, .ref h8, .int 0, .int 0, .int 0, .null])), (h2, .inr (1, [.int p0, .ref h9, .int 0, .int (-1), .int 0, .int 0, .int (-1), .ref h10])), (h3, .inr (4, [.ref h30, .int 0])), (h4, .inr (5, [.int 0, .ref h11])), (h5, .inl (K 4, 8, .inr (.inr (.inr (.inr (va_up (va_up (va_up (va_up (va_up (va_up (va_up (va_up (fun _ => none) 0 (some h19)) 1 (some h18)) 2 (some h17)) 3 (some h16)) 4 (some h15)) 5 (some h14)) 6 (some h13)) 7 (some h12))))))), (h6, .inr (2, [.int 7, .int 600, .ref h31, .int 0])), (h7, .inr (2, [.int 5, .int 600, .ref h32, .int 0])), (h8, .inr (6, [.ref h33, .int 0])), (h9, .inl (K 1, 200, .inl (fun _ => 0))), (h10, .inl (K 0, 9, .inl (upd (fun _ => 1) 6 2))), (h11, .inr (4, [.ref h34, .int 0])), (h12, .inr (5, [.int 0, .ref h20])), (h13, .inr (5, [.int 0, .ref h21])), (h14, .inr (5, [.int 0, .ref h22])), (h15, .inr (5, [.int 0, .ref h23])), (h16, .inr (5, [.int 0, .ref h24])), (h17, .inr (5, [.int 0, .ref h25])), (h18, .inr (5, [.int 0, .ref h26])), (h19, .inr (5, [.int 0, .ref h27])), (h20, .inr (4, [.ref h35, .int 0])), (h21, .inr (4, [.ref h36, .int 0])), (h22, .inr (4, [.ref h37, .int 0])), (h23, .inr (4, [.ref h38, .int 0])), (h24, .inr (4, [.ref h39, .int 0])), (h25, .inr (4, [.ref h40, .int 0])), (h26, .inr (4, [.ref h41, .int 0])), (h27, .inr (4, [.ref h42, .int 0]))])) (wB G (va_A [(h0, .inr (7, [.ref h1, .ref h28, .null, .null, .ref h29])), (h1, .inr (0, [.ref h2, .ref h3, .ref h4, .ref h5, .ref h6, .ref h7, .ref h8, .int 0, .int 0, .int 0, .null])), (h2, .inr (1, [.int 1, .ref h9, .int 0, .int (-1), .int 0, .int 0, .int (-1), .ref h10])), (h3, .inr (4, [.ref h30, .int 0])), (h4, .inr (5, [.int 0, .ref h11])), (h5, .inl (K 4, 8, .inr (.inr (.inr (.inr (va_up (va_up (va_up (va_up (va_up (va_up (va_up (va_up (fun _ => none) 0 (some h19)) 1 (some h18)) 2 (some h17)) 3 (some h16)) 4 (some h15)) 5 (some h14)) 6 (some h13)) 7 (some h12))))))), (h6, .inr (2, [.int 7, .int 600, .ref h31, .int 0])), (h7, .inr (2, [.int 5, .int 600, .ref h32, .int 0])), (h8, .inr (6, [.ref h33, .int 0])), (h9, .inl (K 1, 200, .inl (fun _ => 0))), (h10, .inl (K 0, 9, .inl (upd (fun _ => 1) 6 2))), (h11, .inr (4, [.ref h34, .int 0])), (h12, .inr (5, [.int 0, .ref h20])), (h13, .inr (5, [.int 0, .ref h21])), (h14, .inr (5, [.int 0, .ref h22])), (h15, .inr (5, [.int 0, .ref h23])), (h16, .inr (5, [.int 0, .ref h24])), (h17, .inr (5, [.int 0, .ref h25])), (h18, .inr (5, [.int 0, .ref h26])), (h19, .inr (5, [.int 0, .ref h27])), (h20, .inr (4, [.ref h35, .int 0])), (h21, .inr (4, [.ref h36, .int 0])), (h22, .inr (4, [.ref h37, .int 0])), (h23, .inr (4, [.ref h38, .int 0])), (h24, .inr (4, [.ref h39, .int 0])), (h25, .inr (4, [.ref h40, .int 0])), (h26, .inr (4, [.ref h41, .int 0])), (h27, .inr (4, [.ref h42, .int 0]))] sz)) (va_A [(h0, .inr (7, [.ref h1, .ref h28, .null, .null, .ref h29])), (h1, .inr (0, [.ref h2, .ref h3, .ref h4, .ref h5, .ref h6, .ref h7, .ref h8, .int 0, .int 0, .int 0, .null])), (h2, .inr (1, [.int 1, .ref h9, .int 0, .int (-1), .int 0, .int 0, .int (-1), .ref h10])), (h3, .inr (4, [.ref h30, .int 0])), (h4, .inr (5, [.int 0, .ref h11])), (h5, .inl (K 4, 8, .inr (.inr (.inr (.inr (va_up (va_up (va_up (va_up (va_up (va_up (va_up (va_up (fun _ => none) 0 (some h19)) 1 (some h18)) 2 (some h17)) 3 (some h16)) 4 (some h15)) 5 (some h14)) 6 (some h13)) 7 (some h12))))))), (h6, .inr (2, [.int 7, .int 600, .ref h31, .int 0])), (h7, .inr (2, [.int 5, .int 600, .ref h32, .int 0])), (h8, .inr (6, [.ref h33, .int 0])), (h9, .inl (K 1, 200, .inl (fun _ => 0))), (h10, .inl (K 0, 9, .inl (upd (fun _ => 1) 6 2))), (h11, .inr (4, [.ref h34, .int 0])), (h12, .inr (5, [.int 0, .ref h20])), (h13, .inr (5, [.int 0, .ref h21])), (h14, .inr (5, [.int 0, .ref h22])), (h15, .inr (5, [.int 0, .ref h23])), (h16, .inr (5, [.int 0, .ref h24])), (h17, .inr (5, [.int 0, .ref h25])), (h18, .inr (5, [.int 0, .ref h26])), (h19, .inr (5, [.int 0, .ref h27])), (h20, .inr (4, [.ref h35, .int 0])), (h21, .inr (4, [.ref h36, .int 0])), (h22, .inr (4, [.ref h37, .int 0])), (h23, .inr (4, [.ref h38, .int 0])), (h24, .inr (4, [.ref h39, .int 0])), (h25, .inr (4, [.ref h40, .int 0])), (h26, .inr (4, [.ref h41, .int 0])), (h27, .inr (4, [.ref h42, .int 0]))] sz)) 0 0 (va_A [(h0, .inr (7, [.ref h1, .ref h28, .null, .null, .ref h29])), (h1, .inr (0, [.ref h2, .ref h3, .ref h4, .ref h5, .ref h6, .ref h7, .ref h8, .int 0, .int 0, .int 0, .null])), (h2, .inr (1, [.int 1, .ref h9, .int 0, .int (-1), .int 0, .int 0, .int (-1), .ref h10])), (h3, .inr (4, [.ref h30, .int 0])), (h4, .inr (5, [.int 0, .ref h11])), (h5, .inl (K 4, 8, .inr (.inr (.inr (.inr (va_up (va_up (va_up (va_up (va_up (va_up (va_up (va_up (fun _ => none) 0 (some h19)) 1 (some h18)) 2 (some h17)) 3 (some h16)) 4 (some h15)) 5 (some h14)) 6 (some h13)) 7 (some h12))))))), (h6, .inr (2, [.int 7, .int 600, .ref h31, .int 0])), (h7, .inr (2, [.int 5, .int 600, .ref h32, .int 0])), (h8, .inr (6, [.ref h33, .int 0])), (h9, .inl (K 1, 200, .inl (fun _ => 0))), (h10, .inl (K 0, 9, .inl (upd (fun _ => 1) 6 2))), (h11, .inr (4, [.ref h34, .int 0])), (h12, .inr (5, [.int 0, .ref h20])), (h13, .inr (5, [.int 0, .ref h21])), (h14, .inr (5, [.int 0, .ref h22])), (h15, .inr (5, [.int 0, .ref h23])), (h16, .inr (5, [.int 0, .ref h24])), (h17, .inr (5, [.int 0, .ref h25])), (h18, .inr (5, [.int 0, .ref h26])), (h19, .inr (5, [.int 0, .ref h27])), (h20, .inr (4, [.ref h35, .int 0])), (h21, .inr (4, [.ref h36, .int 0])), (h22, .inr (4, [.ref h37, .int 0])), (h23, .inr (4, [.ref h38, .int 0])), (h24, .inr (4, [.ref h39, .int 0])), (h25, .inr (4, [.ref h40, .int 0])), (h26, .inr (4, [.ref h41, .int 0])), (h27, .inr (4, [.ref h42, .int 0]))] sz) := by
  refine Met.ofW (cc := cX10_seats) (maxL := 2) (ret := (some .int)) (by decide) rfl ?_
  intro p e s m args below meth c s₁ B hml hv
  obtain ⟨rfl, hsz, hP, hK, hD0, hE⟩ := hv
  have hx := B.exec
  have hb := B.bytes
  have hr := B.returns
  have hts := atoms_spec (ws := v_X10_seats_0) B.pre
  have t_ := t_X10_seats_0
  have mw : ∀ w ∈ e_X10_seats_0, w ∈ v_X10_seats_0 := fun w h => List.mem_cons_of_mem _ (List.mem_append_left _ h)
  have hw := fun w (h : w ∈ e_X10_seats_0) => hts w (mw w h)
  have iX10 : ∀ w ∈ wsX100, w ∈ v_X10_seats_0 := fun w h => List.mem_cons_of_mem _ (List.mem_append_right _ (List.mem_append_left _ h))
  have j_X0_begin_0 : ∀ w ∈ v_X0_begin_0, w ∈ v_X10_seats_0 := fun w h => List.mem_cons_of_mem _ (List.mem_append_right _ (List.mem_append_right _ (List.mem_append_left _ h)))
  have hown : s.vm.findClass RX10 = some m.cls := findClass_of_methodNamed B.named
  have hlocks := B.notSynchronized
  subst hsz
  have hD := hD0.self (sz := s.heap.size)
  generalize hAe : va_A [(h0, .inr (7, [.ref h1, .ref h28, .null, .null, .ref h29])), (h1, .inr (0, [.ref h2, .ref h3, .ref h4, .ref h5, .ref h6, .ref h7, .ref h8, .int 0, .int 0, .int 0, .null])), (h2, .inr (1, [.int 1, .ref h9, .int 0, .int (-1), .int 0, .int 0, .int (-1), .ref h10])), (h3, .inr (4, [.ref h30, .int 0])), (h4, .inr (5, [.int 0, .ref h11])), (h5, .inl (K 4, 8, .inr (.inr (.inr (.inr (va_up (va_up (va_up (va_up (va_up (va_up (va_up (va_up (fun _ => none) 0 (some h19)) 1 (some h18)) 2 (some h17)) 3 (some h16)) 4 (some h15)) 5 (some h14)) 6 (some h13)) 7 (some h12))))))), (h6, .inr (2, [.int 7, .int 600, .ref h31, .int 0])), (h7, .inr (2, [.int 5, .int 600, .ref h32, .int 0])), (h8, .inr (6, [.ref h33, .int 0])), (h9, .inl (K 1, 200, .inl (fun _ => 0))), (h10, .inl (K 0, 9, .inl (upd (fun _ => 1) 6 2))), (h11, .inr (4, [.ref h34, .int 0])), (h12, .inr (5, [.int 0, .ref h20])), (h13, .inr (5, [.int 0, .ref h21])), (h14, .inr (5, [.int 0, .ref h22])), (h15, .inr (5, [.int 0, .ref h23])), (h16, .inr (5, [.int 0, .ref h24])), (h17, .inr (5, [.int 0, .ref h25])), (h18, .inr (5, [.int 0, .ref h26])), (h19, .inr (5, [.int 0, .ref h27])), (h20, .inr (4, [.ref h35, .int 0])), (h21, .inr (4, [.ref h36, .int 0])), (h22, .inr (4, [.ref h37, .int 0])), (h23, .inr (4, [.ref h38, .int 0])), (h24, .inr (4, [.ref h39, .int 0])), (h25, .inr (4, [.ref h40, .int 0])), (h26, .inr (4, [.ref h41, .int 0])), (h27, .inr (4, [.ref h42, .int 0]))] s.heap.size = A at hD ⊢
  have hA : ∀ q : Nat, s.heap.size ≤ q → A q := fun q h => by rw [← hAe]; exact Or.inr h
  have hS : va_S A s.heap s.heap [] := va_S.rf
  have hP : va_P G vwCl [(h0, .inr (7, [.ref h1, .ref h28, .null, .null, .ref h29])), (h1, .inr (0, [.ref h2, .ref h3, .ref h4, .ref h5, .ref h6, .ref h7, .ref h8, .int 0, .int 0, .int 0, .null])), (h2, .inr (1, [.int 1, .ref h9, .int 0, .int (-1), .int 0, .int 0, .int (-1), .ref h10])), (h3, .inr (4, [.ref h30, .int 0])), (h4, .inr (5, [.int 0, .ref h11])), (h5, .inl (K 4, 8, .inr (.inr (.inr (.inr (va_up (va_up (va_up (va_up (va_up (va_up (va_up (va_up (fun _ => none) 0 (some h19)) 1 (some h18)) 2 (some h17)) 3 (some h16)) 4 (some h15)) 5 (some h14)) 6 (some h13)) 7 (some h12))))))), (h6, .inr (2, [.int 7, .int 600, .ref h31, .int 0])), (h7, .inr (2, [.int 5, .int 600, .ref h32, .int 0])), (h8, .inr (6, [.ref h33, .int 0])), (h9, .inl (K 1, 200, .inl (fun _ => 0))), (h10, .inl (K 0, 9, .inl (upd (fun _ => 1) 6 2))), (h11, .inr (4, [.ref h34, .int 0])), (h12, .inr (5, [.int 0, .ref h20])), (h13, .inr (5, [.int 0, .ref h21])), (h14, .inr (5, [.int 0, .ref h22])), (h15, .inr (5, [.int 0, .ref h23])), (h16, .inr (5, [.int 0, .ref h24])), (h17, .inr (5, [.int 0, .ref h25])), (h18, .inr (5, [.int 0, .ref h26])), (h19, .inr (5, [.int 0, .ref h27])), (h20, .inr (4, [.ref h35, .int 0])), (h21, .inr (4, [.ref h36, .int 0])), (h22, .inr (4, [.ref h37, .int 0])), (h23, .inr (4, [.ref h38, .int 0])), (h24, .inr (4, [.ref h39, .int 0])), (h25, .inr (4, [.ref h40, .int 0])), (h26, .inr (4, [.ref h41, .int 0])), (h27, .inr (4, [.ref h42, .int 0]))] s.heap := hP
  have hl := lv_entry ([.ref h0, .int p0]) (n := 2) (Nat.le_of_ble_eq_true rfl)
  rw [lg_entry_eq]
  generalize (lg_sl ([.ref h0, .int p0]) ++ List.replicate (2 - (lg_sl ([.ref h0, .int p0])).length) Slot.unset).toArray = ls at hl ⊢
  have hl : lv_has ls 2 [(0, .ref h0), (1, .int p0)] := hl
  refine lv_iload_n hx hb dX10_seats_0 rfl (lv_at hl 1 rfl) ?_
  refine lv_iconst (v := 1) hx hb dX10_seats_1 (by decide) ?_
  refine lv_icmp_lt (tgt := 12) hx hb dX10_seats_2 (by decide) (fun c1 => ?_) (fun c1 => ?_)
  · have c1 : p0.toInt < 1 := wLt rfl (by decide) c1
    refine lv_bipush (v := (-9)) hx hb dX10_seats_12 (by decide) ?_
    have hP9 : va_P G vwCl [(h0, .inr (7, [.ref h1, .ref h28, .null, .null, .ref h29])), (h1, .inr (0, [.ref h2, .ref h3, .ref h4, .ref h5, .ref h6, .ref h7, .ref h8, .int 0, .int 0, .int 0, .null])), (h2, .inr (1, [.int 1, .ref h9, .int 0, .int (-1), .int 0, .int 0, .int (-1), .ref h10])), (h3, .inr (4, [.ref h30, .int 0])), (h4, .inr (5, [.int 0, .ref h11])), (h5, .inl (K 4, 8, .inr (.inr (.inr (.inr (va_up (va_up (va_up (va_up (va_up (va_up (va_up (va_up (fun _ => none) 0 (some h19)) 1 (some h18)) 2 (some h17)) 3 (some h16)) 4 (some h15)) 5 (some h14)) 6 (some h13)) 7 (some h12))))))), (h6, .inr (2, [.int 7, .int 600, .ref h31, .int 0])), (h7, .inr (2, [.int 5, .int 600, .ref h32, .int 0])), (h8, .inr (6, [.ref h33, .int 0])), (h9, .inl (K 1, 200, .inl (fun _ => 0))), (h10, .inl (K 0, 9, .inl (upd (fun _ => 1) 6 2))), (h11, .inr (4, [.ref h34, .int 0])), (h12, .inr (5, [.int 0, .ref h20])), (h13, .inr (5, [.int 0, .ref h21])), (h14, .inr (5, [.int 0, .ref h22])), (h15, .inr (5, [.int 0, .ref h23])), (h16, .inr (5, [.int 0, .ref h24])), (h17, .inr (5, [.int 0, .ref h25])), (h18, .inr (5, [.int 0, .ref h26])), (h19, .inr (5, [.int 0, .ref h27])), (h20, .inr (4, [.ref h35, .int 0])), (h21, .inr (4, [.ref h36, .int 0])), (h22, .inr (4, [.ref h37, .int 0])), (h23, .inr (4, [.ref h38, .int 0])), (h24, .inr (4, [.ref h39, .int 0])), (h25, .inr (4, [.ref h40, .int 0])), (h26, .inr (4, [.ref h41, .int 0])), (h27, .inr (4, [.ref h42, .int 0]))] _ := hP
    have hD9 : va_D A [(h0, .inr (7, [.ref h1, .ref h28, .null, .null, .ref h29])), (h1, .inr (0, [.ref h2, .ref h3, .ref h4, .ref h5, .ref h6, .ref h7, .ref h8, .int 0, .int 0, .int 0, .null])), (h2, .inr (1, [.int 1, .ref h9, .int 0, .int (-1), .int 0, .int 0, .int (-1), .ref h10])), (h3, .inr (4, [.ref h30, .int 0])), (h4, .inr (5, [.int 0, .ref h11])), (h5, .inl (K 4, 8, .inr (.inr (.inr (.inr (va_up (va_up (va_up (va_up (va_up (va_up (va_up (va_up (fun _ => none) 0 (some h19)) 1 (some h18)) 2 (some h17)) 3 (some h16)) 4 (some h15)) 5 (some h14)) 6 (some h13)) 7 (some h12))))))), (h6, .inr (2, [.int 7, .int 600, .ref h31, .int 0])), (h7, .inr (2, [.int 5, .int 600, .ref h32, .int 0])), (h8, .inr (6, [.ref h33, .int 0])), (h9, .inl (K 1, 200, .inl (fun _ => 0))), (h10, .inl (K 0, 9, .inl (upd (fun _ => 1) 6 2))), (h11, .inr (4, [.ref h34, .int 0])), (h12, .inr (5, [.int 0, .ref h20])), (h13, .inr (5, [.int 0, .ref h21])), (h14, .inr (5, [.int 0, .ref h22])), (h15, .inr (5, [.int 0, .ref h23])), (h16, .inr (5, [.int 0, .ref h24])), (h17, .inr (5, [.int 0, .ref h25])), (h18, .inr (5, [.int 0, .ref h26])), (h19, .inr (5, [.int 0, .ref h27])), (h20, .inr (4, [.ref h35, .int 0])), (h21, .inr (4, [.ref h36, .int 0])), (h22, .inr (4, [.ref h37, .int 0])), (h23, .inr (4, [.ref h38, .int 0])), (h24, .inr (4, [.ref h39, .int 0])), (h25, .inr (4, [.ref h40, .int 0])), (h26, .inr (4, [.ref h41, .int 0])), (h27, .inr (4, [.ref h42, .int 0]))] := hD
    exact W.iret (v := (-9)) hx hb hr (fun t ht hW => ⟨⟨(-9), _, rfl, Or.inl ⟨(by first | omega | decide | simp), rfl, rfl⟩, by rw [ht]; exact hP9, hD9⟩, hS.F ht⟩) hS.2.2 dX10_seats_14
  · have c1 : p0.toInt ≥ 1 := wNlt rfl (by decide) c1
    refine lv_iload_n hx hb dX10_seats_5 rfl (lv_at hl 1 rfl) ?_
    refine lv_sipush (v := 200) hx hb dX10_seats_6 (by decide) ?_
    refine lv_icmp_le (tgt := 15) hx hb dX10_seats_9 (by decide) (fun c2 => ?_) (fun c2 => ?_)
    · have c2 : p0.toInt ≤ 200 := wLe rfl (by decide) c2
      refine lv_aload_n hx hb dX10_seats_15 rfl (lv_at hl 0 rfl) ?_
      refine va_get (D := G) (ci := 7) (v := .ref h1) (C := RX10) (T := TX10) (N := 5) hx hb hts iX10 hown hK hP 0 rfl rfl 0 (by decide) (hw (.fieldLink RX10 10 "MotionFloor" "now" "LMotionFloor$Assembly;") (List.mem_of_getElem? (i := 0) rfl)) (fun _ h9 => h9) rfl dX10_seats_16 ?_
      refine lv_iload_n hx hb dX10_seats_19 rfl (lv_at hl 1 rfl) ?_
      have hPc := hP.sub (ws' := [(h1, .inr (0, [.ref h2, .ref h3, .ref h4, .ref h5, .ref h6, .ref h7, .ref h8, .int 0, .int 0, .int 0, .null])), (h2, .inr (1, [.int 1, .ref h9, .int 0, .int (-1), .int 0, .int 0, .int (-1), .ref h10])), (h3, .inr (4, [.ref h30, .int 0])), (h4, .inr (5, [.int 0, .ref h11])), (h5, .inl (K 4, 8, .inr (.inr (.inr (.inr (va_up (va_up (va_up (va_up (va_up (va_up (va_up (va_up (fun _ => none) 0 (some h19)) 1 (some h18)) 2 (some h17)) 3 (some h16)) 4 (some h15)) 5 (some h14)) 6 (some h13)) 7 (some h12))))))), (h6, .inr (2, [.int 7, .int 600, .ref h31, .int 0])), (h7, .inr (2, [.int 5, .int 600, .ref h32, .int 0])), (h8, .inr (6, [.ref h33, .int 0])), (h9, .inl (K 1, 200, .inl (fun _ => 0))), (h10, .inl (K 0, 9, .inl (upd (fun _ => 1) 6 2))), (h11, .inr (4, [.ref h34, .int 0])), (h12, .inr (5, [.int 0, .ref h20])), (h13, .inr (5, [.int 0, .ref h21])), (h14, .inr (5, [.int 0, .ref h22])), (h15, .inr (5, [.int 0, .ref h23])), (h16, .inr (5, [.int 0, .ref h24])), (h17, .inr (5, [.int 0, .ref h25])), (h18, .inr (5, [.int 0, .ref h26])), (h19, .inr (5, [.int 0, .ref h27])), (h20, .inr (4, [.ref h35, .int 0])), (h21, .inr (4, [.ref h36, .int 0])), (h22, .inr (4, [.ref h37, .int 0])), (h23, .inr (4, [.ref h38, .int 0])), (h24, .inr (4, [.ref h39, .int 0])), (h25, .inr (4, [.ref h40, .int 0])), (h26, .inr (4, [.ref h41, .int 0])), (h27, .inr (4, [.ref h42, .int 0]))]) [1, 2, 3, 4, 5, 6, 7, 8, 9, 10, 11, 12, 13, 14, 15, 16, 17, 18, 19, 20, 21, 22, 23, 24, 25, 26, 27] rfl
      have hDc := hD.sub (ws' := [(h1, .inr (0, [.ref h2, .ref h3, .ref h4, .ref h5, .ref h6, .ref h7, .ref h8, .int 0, .int 0, .int 0, .null])), (h2, .inr (1, [.int 1, .ref h9, .int 0, .int (-1), .int 0, .int 0, .int (-1), .ref h10])), (h3, .inr (4, [.ref h30, .int 0])), (h4, .inr (5, [.int 0, .ref h11])), (h5, .inl (K 4, 8, .inr (.inr (.inr (.inr (va_up (va_up (va_up (va_up (va_up (va_up (va_up (va_up (fun _ => none) 0 (some h19)) 1 (some h18)) 2 (some h17)) 3 (some h16)) 4 (some h15)) 5 (some h14)) 6 (some h13)) 7 (some h12))))))), (h6, .inr (2, [.int 7, .int 600, .ref h31, .int 0])), (h7, .inr (2, [.int 5, .int 600, .ref h32, .int 0])), (h8, .inr (6, [.ref h33, .int 0])), (h9, .inl (K 1, 200, .inl (fun _ => 0))), (h10, .inl (K 0, 9, .inl (upd (fun _ => 1) 6 2))), (h11, .inr (4, [.ref h34, .int 0])), (h12, .inr (5, [.int 0, .ref h20])), (h13, .inr (5, [.int 0, .ref h21])), (h14, .inr (5, [.int 0, .ref h22])), (h15, .inr (5, [.int 0, .ref h23])), (h16, .inr (5, [.int 0, .ref h24])), (h17, .inr (5, [.int 0, .ref h25])), (h18, .inr (5, [.int 0, .ref h26])), (h19, .inr (5, [.int 0, .ref h27])), (h20, .inr (4, [.ref h35, .int 0])), (h21, .inr (4, [.ref h36, .int 0])), (h22, .inr (4, [.ref h37, .int 0])), (h23, .inr (4, [.ref h38, .int 0])), (h24, .inr (4, [.ref h39, .int 0])), (h25, .inr (4, [.ref h40, .int 0])), (h26, .inr (4, [.ref h41, .int 0])), (h27, .inr (4, [.ref h42, .int 0]))]) [1, 2, 3, 4, 5, 6, 7, 8, 9, 10, 11, 12, 13, 14, 15, 16, 17, 18, 19, 20, 21, 22, 23, 24, 25, 26, 27] (by decide) rfl
      refine wGov (wc := [(h1, .inr (0, [.ref h2, .ref h3, .ref h4, .ref h5, .ref h6, .ref h7, .ref h8, .int 0, .int 0, .int 0, .null])), (h2, .inr (1, [.int 1, .ref h9, .int 0, .int (-1), .int 0, .int 0, .int (-1), .ref h10])), (h3, .inr (4, [.ref h30, .int 0])), (h4, .inr (5, [.int 0, .ref h11])), (h5, .inl (K 4, 8, .inr (.inr (.inr (.inr (va_up (va_up (va_up (va_up (va_up (va_up (va_up (va_up (fun _ => none) 0 (some h19)) 1 (some h18)) 2 (some h17)) 3 (some h16)) 4 (some h15)) 5 (some h14)) 6 (some h13)) 7 (some h12))))))), (h6, .inr (2, [.int 7, .int 600, .ref h31, .int 0])), (h7, .inr (2, [.int 5, .int 600, .ref h32, .int 0])), (h8, .inr (6, [.ref h33, .int 0])), (h9, .inl (K 1, 200, .inl (fun _ => 0))), (h10, .inl (K 0, 9, .inl (upd (fun _ => 1) 6 2))), (h11, .inr (4, [.ref h34, .int 0])), (h12, .inr (5, [.int 0, .ref h20])), (h13, .inr (5, [.int 0, .ref h21])), (h14, .inr (5, [.int 0, .ref h22])), (h15, .inr (5, [.int 0, .ref h23])), (h16, .inr (5, [.int 0, .ref h24])), (h17, .inr (5, [.int 0, .ref h25])), (h18, .inr (5, [.int 0, .ref h26])), (h19, .inr (5, [.int 0, .ref h27])), (h20, .inr (4, [.ref h35, .int 0])), (h21, .inr (4, [.ref h36, .int 0])), (h22, .inr (4, [.ref h37, .int 0])), (h23, .inr (4, [.ref h38, .int 0])), (h24, .inr (4, [.ref h39, .int 0])), (h25, .inr (4, [.ref h40, .int 0])), (h26, .inr (4, [.ref h41, .int 0])), (h27, .inr (4, [.ref h42, .int 0]))]) (wr := [(h0, .inr (7, [.ref h1, .ref h28, .null, .null, .ref h29]))]) (va_runV (As := [.int p0]) (rest := []) ⟨hx, hb, hml, hown, hts⟩ (m_X0_begin_0 l G K h1 h2 h3 h4 h5 h6 h7 h8 h9 h10 h11 h12 h13 h14 h15 h16 h17 h18 h19 h20 h21 h22 h23 h24 h25 h26 h27 h30 h31 h32 h33 h34 h35 h36 h37 h38 h39 h40 h41 h42 p0 _ (by omega)) (cwV 1 hts (wGV t_ (mw (.methodLink RX10 28 yX0_begin) (List.mem_of_getElem? (i := 1) rfl)) (mw (.instanceMethod yX0_begin) (List.mem_of_getElem? (i := 2) rfl)) (mw (.selects RX0 yX0_begin yX0_begin) (List.mem_of_getElem? (i := 3) rfl)) (mw (.initialized RX0) (List.mem_of_getElem? (i := 4) rfl)) j_X0_begin_0) rfl rfl rfl (by decide +kernel) ⟨Nat.le_of_ble_eq_true rfl, Nat.le_of_ble_eq_true rfl⟩) (wPV hK hE hPc hDc 0 0 rfl rfl) rfl rfl hl.1 rfl (lv_room (Nat.le_of_ble_eq_true rfl)) dX10_seats_20 ⟨Nat.le_of_ble_eq_true rfl, Nat.le_of_ble_eq_true rfl⟩) hP hD hS hA [1, 2, 3, 4, 5, 6, 7, 8, 9, 10, 11, 12, 13, 14, 15, 16, 17, 18, 19, 20, 21, 22, 23, 24, 25, 26, 27] [0] rfl rfl rfl (by decide) (fun u H locs hw hP hD hS => ?_)
      subst hw
      have hP : va_P G vwCl [(h0, .inr (7, [.ref h1, .ref h28, .null, .null, .ref h29])), (h1, .inr (0, [.ref h2, .ref h3, .ref h4, .ref h5, .ref h6, .ref h7, .ref h8, .int 0, .int 0, .int 0, .null])), (h2, .inr (1, [.int p0, .ref h9, .int 0, .int (-1), .int 0, .int 0, .int (-1), .ref h10])), (h3, .inr (4, [.ref h30, .int 0])), (h4, .inr (5, [.int 0, .ref h11])), (h5, .inl (K 4, 8, .inr (.inr (.inr (.inr (va_up (va_up (va_up (va_up (va_up (va_up (va_up (va_up (fun _ => none) 0 (some h19)) 1 (some h18)) 2 (some h17)) 3 (some h16)) 4 (some h15)) 5 (some h14)) 6 (some h13)) 7 (some h12))))))), (h6, .inr (2, [.int 7, .int 600, .ref h31, .int 0])), (h7, .inr (2, [.int 5, .int 600, .ref h32, .int 0])), (h8, .inr (6, [.ref h33, .int 0])), (h9, .inl (K 1, 200, .inl (fun _ => 0))), (h10, .inl (K 0, 9, .inl (upd (fun _ => 1) 6 2))), (h11, .inr (4, [.ref h34, .int 0])), (h12, .inr (5, [.int 0, .ref h20])), (h13, .inr (5, [.int 0, .ref h21])), (h14, .inr (5, [.int 0, .ref h22])), (h15, .inr (5, [.int 0, .ref h23])), (h16, .inr (5, [.int 0, .ref h24])), (h17, .inr (5, [.int 0, .ref h25])), (h18, .inr (5, [.int 0, .ref h26])), (h19, .inr (5, [.int 0, .ref h27])), (h20, .inr (4, [.ref h35, .int 0])), (h21, .inr (4, [.ref h36, .int 0])), (h22, .inr (4, [.ref h37, .int 0])), (h23, .inr (4, [.ref h38, .int 0])), (h24, .inr (4, [.ref h39, .int 0])), (h25, .inr (4, [.ref h40, .int 0])), (h26, .inr (4, [.ref h41, .int 0])), (h27, .inr (4, [.ref h42, .int 0]))] _ := hP
      have hD : va_D A [(h0, .inr (7, [.ref h1, .ref h28, .null, .null, .ref h29])), (h1, .inr (0, [.ref h2, .ref h3, .ref h4, .ref h5, .ref h6, .ref h7, .ref h8, .int 0, .int 0, .int 0, .null])), (h2, .inr (1, [.int p0, .ref h9, .int 0, .int (-1), .int 0, .int 0, .int (-1), .ref h10])), (h3, .inr (4, [.ref h30, .int 0])), (h4, .inr (5, [.int 0, .ref h11])), (h5, .inl (K 4, 8, .inr (.inr (.inr (.inr (va_up (va_up (va_up (va_up (va_up (va_up (va_up (va_up (fun _ => none) 0 (some h19)) 1 (some h18)) 2 (some h17)) 3 (some h16)) 4 (some h15)) 5 (some h14)) 6 (some h13)) 7 (some h12))))))), (h6, .inr (2, [.int 7, .int 600, .ref h31, .int 0])), (h7, .inr (2, [.int 5, .int 600, .ref h32, .int 0])), (h8, .inr (6, [.ref h33, .int 0])), (h9, .inl (K 1, 200, .inl (fun _ => 0))), (h10, .inl (K 0, 9, .inl (upd (fun _ => 1) 6 2))), (h11, .inr (4, [.ref h34, .int 0])), (h12, .inr (5, [.int 0, .ref h20])), (h13, .inr (5, [.int 0, .ref h21])), (h14, .inr (5, [.int 0, .ref h22])), (h15, .inr (5, [.int 0, .ref h23])), (h16, .inr (5, [.int 0, .ref h24])), (h17, .inr (5, [.int 0, .ref h25])), (h18, .inr (5, [.int 0, .ref h26])), (h19, .inr (5, [.int 0, .ref h27])), (h20, .inr (4, [.ref h35, .int 0])), (h21, .inr (4, [.ref h36, .int 0])), (h22, .inr (4, [.ref h37, .int 0])), (h23, .inr (4, [.ref h38, .int 0])), (h24, .inr (4, [.ref h39, .int 0])), (h25, .inr (4, [.ref h40, .int 0])), (h26, .inr (4, [.ref h41, .int 0])), (h27, .inr (4, [.ref h42, .int 0]))] := hD
      refine lv_iload_n hx hb dX10_seats_23 rfl (lv_at hl 1 rfl) ?_
      have hP9 : va_P G vwCl [(h0, .inr (7, [.ref h1, .ref h28, .null, .null, .ref h29])), (h1, .inr (0, [.ref h2, .ref h3, .ref h4, .ref h5, .ref h6, .ref h7, .ref h8, .int 0, .int 0, .int 0, .null])), (h2, .inr (1, [.int p0, .ref h9, .int 0, .int (-1), .int 0, .int 0, .int (-1), .ref h10])), (h3, .inr (4, [.ref h30, .int 0])), (h4, .inr (5, [.int 0, .ref h11])), (h5, .inl (K 4, 8, .inr (.inr (.inr (.inr (va_up (va_up (va_up (va_up (va_up (va_up (va_up (va_up (fun _ => none) 0 (some h19)) 1 (some h18)) 2 (some h17)) 3 (some h16)) 4 (some h15)) 5 (some h14)) 6 (some h13)) 7 (some h12))))))), (h6, .inr (2, [.int 7, .int 600, .ref h31, .int 0])), (h7, .inr (2, [.int 5, .int 600, .ref h32, .int 0])), (h8, .inr (6, [.ref h33, .int 0])), (h9, .inl (K 1, 200, .inl (fun _ => 0))), (h10, .inl (K 0, 9, .inl (upd (fun _ => 1) 6 2))), (h11, .inr (4, [.ref h34, .int 0])), (h12, .inr (5, [.int 0, .ref h20])), (h13, .inr (5, [.int 0, .ref h21])), (h14, .inr (5, [.int 0, .ref h22])), (h15, .inr (5, [.int 0, .ref h23])), (h16, .inr (5, [.int 0, .ref h24])), (h17, .inr (5, [.int 0, .ref h25])), (h18, .inr (5, [.int 0, .ref h26])), (h19, .inr (5, [.int 0, .ref h27])), (h20, .inr (4, [.ref h35, .int 0])), (h21, .inr (4, [.ref h36, .int 0])), (h22, .inr (4, [.ref h37, .int 0])), (h23, .inr (4, [.ref h38, .int 0])), (h24, .inr (4, [.ref h39, .int 0])), (h25, .inr (4, [.ref h40, .int 0])), (h26, .inr (4, [.ref h41, .int 0])), (h27, .inr (4, [.ref h42, .int 0]))] _ := hP
      have hD9 : va_D A [(h0, .inr (7, [.ref h1, .ref h28, .null, .null, .ref h29])), (h1, .inr (0, [.ref h2, .ref h3, .ref h4, .ref h5, .ref h6, .ref h7, .ref h8, .int 0, .int 0, .int 0, .null])), (h2, .inr (1, [.int p0, .ref h9, .int 0, .int (-1), .int 0, .int 0, .int (-1), .ref h10])), (h3, .inr (4, [.ref h30, .int 0])), (h4, .inr (5, [.int 0, .ref h11])), (h5, .inl (K 4, 8, .inr (.inr (.inr (.inr (va_up (va_up (va_up (va_up (va_up (va_up (va_up (va_up (fun _ => none) 0 (some h19)) 1 (some h18)) 2 (some h17)) 3 (some h16)) 4 (some h15)) 5 (some h14)) 6 (some h13)) 7 (some h12))))))), (h6, .inr (2, [.int 7, .int 600, .ref h31, .int 0])), (h7, .inr (2, [.int 5, .int 600, .ref h32, .int 0])), (h8, .inr (6, [.ref h33, .int 0])), (h9, .inl (K 1, 200, .inl (fun _ => 0))), (h10, .inl (K 0, 9, .inl (upd (fun _ => 1) 6 2))), (h11, .inr (4, [.ref h34, .int 0])), (h12, .inr (5, [.int 0, .ref h20])), (h13, .inr (5, [.int 0, .ref h21])), (h14, .inr (5, [.int 0, .ref h22])), (h15, .inr (5, [.int 0, .ref h23])), (h16, .inr (5, [.int 0, .ref h24])), (h17, .inr (5, [.int 0, .ref h25])), (h18, .inr (5, [.int 0, .ref h26])), (h19, .inr (5, [.int 0, .ref h27])), (h20, .inr (4, [.ref h35, .int 0])), (h21, .inr (4, [.ref h36, .int 0])), (h22, .inr (4, [.ref h37, .int 0])), (h23, .inr (4, [.ref h38, .int 0])), (h24, .inr (4, [.ref h39, .int 0])), (h25, .inr (4, [.ref h40, .int 0])), (h26, .inr (4, [.ref h41, .int 0])), (h27, .inr (4, [.ref h42, .int 0]))] := hD
      exact W.iret (v := p0) hx hb hr (fun t ht hW => ⟨⟨p0, _, rfl, Or.inr (⟨(by first | omega | decide | simp), rfl, rfl⟩), by rw [ht]; exact hP9, hD9⟩, hS.F ht⟩) hS.2.2 dX10_seats_24
    · have c2 : p0.toInt > 200 := wNle rfl (by decide) c2
      refine lv_bipush (v := (-9)) hx hb dX10_seats_12 (by decide) ?_
      have hP9 : va_P G vwCl [(h0, .inr (7, [.ref h1, .ref h28, .null, .null, .ref h29])), (h1, .inr (0, [.ref h2, .ref h3, .ref h4, .ref h5, .ref h6, .ref h7, .ref h8, .int 0, .int 0, .int 0, .null])), (h2, .inr (1, [.int 1, .ref h9, .int 0, .int (-1), .int 0, .int 0, .int (-1), .ref h10])), (h3, .inr (4, [.ref h30, .int 0])), (h4, .inr (5, [.int 0, .ref h11])), (h5, .inl (K 4, 8, .inr (.inr (.inr (.inr (va_up (va_up (va_up (va_up (va_up (va_up (va_up (va_up (fun _ => none) 0 (some h19)) 1 (some h18)) 2 (some h17)) 3 (some h16)) 4 (some h15)) 5 (some h14)) 6 (some h13)) 7 (some h12))))))), (h6, .inr (2, [.int 7, .int 600, .ref h31, .int 0])), (h7, .inr (2, [.int 5, .int 600, .ref h32, .int 0])), (h8, .inr (6, [.ref h33, .int 0])), (h9, .inl (K 1, 200, .inl (fun _ => 0))), (h10, .inl (K 0, 9, .inl (upd (fun _ => 1) 6 2))), (h11, .inr (4, [.ref h34, .int 0])), (h12, .inr (5, [.int 0, .ref h20])), (h13, .inr (5, [.int 0, .ref h21])), (h14, .inr (5, [.int 0, .ref h22])), (h15, .inr (5, [.int 0, .ref h23])), (h16, .inr (5, [.int 0, .ref h24])), (h17, .inr (5, [.int 0, .ref h25])), (h18, .inr (5, [.int 0, .ref h26])), (h19, .inr (5, [.int 0, .ref h27])), (h20, .inr (4, [.ref h35, .int 0])), (h21, .inr (4, [.ref h36, .int 0])), (h22, .inr (4, [.ref h37, .int 0])), (h23, .inr (4, [.ref h38, .int 0])), (h24, .inr (4, [.ref h39, .int 0])), (h25, .inr (4, [.ref h40, .int 0])), (h26, .inr (4, [.ref h41, .int 0])), (h27, .inr (4, [.ref h42, .int 0]))] _ := hP
      have hD9 : va_D A [(h0, .inr (7, [.ref h1, .ref h28, .null, .null, .ref h29])), (h1, .inr (0, [.ref h2, .ref h3, .ref h4, .ref h5, .ref h6, .ref h7, .ref h8, .int 0, .int 0, .int 0, .null])), (h2, .inr (1, [.int 1, .ref h9, .int 0, .int (-1), .int 0, .int 0, .int (-1), .ref h10])), (h3, .inr (4, [.ref h30, .int 0])), (h4, .inr (5, [.int 0, .ref h11])), (h5, .inl (K 4, 8, .inr (.inr (.inr (.inr (va_up (va_up (va_up (va_up (va_up (va_up (va_up (va_up (fun _ => none) 0 (some h19)) 1 (some h18)) 2 (some h17)) 3 (some h16)) 4 (some h15)) 5 (some h14)) 6 (some h13)) 7 (some h12))))))), (h6, .inr (2, [.int 7, .int 600, .ref h31, .int 0])), (h7, .inr (2, [.int 5, .int 600, .ref h32, .int 0])), (h8, .inr (6, [.ref h33, .int 0])), (h9, .inl (K 1, 200, .inl (fun _ => 0))), (h10, .inl (K 0, 9, .inl (upd (fun _ => 1) 6 2))), (h11, .inr (4, [.ref h34, .int 0])), (h12, .inr (5, [.int 0, .ref h20])), (h13, .inr (5, [.int 0, .ref h21])), (h14, .inr (5, [.int 0, .ref h22])), (h15, .inr (5, [.int 0, .ref h23])), (h16, .inr (5, [.int 0, .ref h24])), (h17, .inr (5, [.int 0, .ref h25])), (h18, .inr (5, [.int 0, .ref h26])), (h19, .inr (5, [.int 0, .ref h27])), (h20, .inr (4, [.ref h35, .int 0])), (h21, .inr (4, [.ref h36, .int 0])), (h22, .inr (4, [.ref h37, .int 0])), (h23, .inr (4, [.ref h38, .int 0])), (h24, .inr (4, [.ref h39, .int 0])), (h25, .inr (4, [.ref h40, .int 0])), (h26, .inr (4, [.ref h41, .int 0])), (h27, .inr (4, [.ref h42, .int 0]))] := hD
      exact W.iret (v := (-9)) hx hb hr (fun t ht hW => ⟨⟨(-9), _, rfl, Or.inl ⟨(by first | omega | decide | simp), rfl, rfl⟩, by rw [ht]; exact hP9, hD9⟩, hS.F ht⟩) hS.2.2 dX10_seats_14
def e_X12_in_0 : List Cond := []
def v_X12_in_0 : List Cond := .code yX12_in cX12_in 3 (some .boolean) :: (e_X12_in_0 ++ [])
theorem te_X12_in_0 : GoodIn lw_tbl e_X12_in_0 := wG0
theorem t_X12_in_0 : GoodIn lw_tbl v_X12_in_0 := wGc z276 (wGa te_X12_in_0 (wG0))
set_option maxHeartbeats 4000000 in
set_option maxRecDepth 100000 in
theorem m_X12_in_0 (l : Launch) (G : va_G) (K : Nat → ClassId) (p0 : Int32) (sz : Nat) : Met l yX12_in v_X12_in_0 ({ frames := 0, cells := 0, slots := 0, locals := 0 }) (va_Pc [.int p0, .int 1, .int 200] (wS G K sz [])) (va_Qi (fun (r : Int32) (u : va_W) => ((p0.toInt < 1 ∨ (p0.toInt ≥ 1 ∧ p0.toInt > 200)) ∧ 0 = r ∧ u = []) ∨ (((p0.toInt ≥ 1 ∧ p0.toInt ≤ 200)) ∧ 1 = r ∧ u = [])) (wB G (va_A [] sz)) (va_A [] sz)) 0 0 (va_A [] sz) := by
  refine Met.ofW (cc := cX12_in) (maxL := 3) (ret := (some .boolean)) (by decide) rfl ?_
  intro p e s m args below meth c s₁ B hml hv
  obtain ⟨rfl, hsz, hP, hK, hD0, hE⟩ := hv
  have hx := B.exec
  have hb := B.bytes
  have hr := B.returns
  have hts := atoms_spec (ws := v_X12_in_0) B.pre
  have t_ := t_X12_in_0
  have mw : ∀ w ∈ e_X12_in_0, w ∈ v_X12_in_0 := fun w h => List.mem_cons_of_mem _ (List.mem_append_left _ h)
  have hw := fun w (h : w ∈ e_X12_in_0) => hts w (mw w h)
  have hown : s.vm.findClass RX12 = some m.cls := findClass_of_methodNamed B.named
  have hlocks := B.notSynchronized
  subst hsz
  have hD := hD0.self (sz := s.heap.size)
  generalize hAe : va_A [] s.heap.size = A at hD ⊢
  have hA : ∀ q : Nat, s.heap.size ≤ q → A q := fun q h => by rw [← hAe]; exact Or.inr h
  have hS : va_S A s.heap s.heap [] := va_S.rf
  have hP : va_P G vwCl [] s.heap := hP
  have hl := lv_entry ([.int p0, .int 1, .int 200]) (n := 3) (Nat.le_of_ble_eq_true rfl)
  rw [lg_entry_eq]
  generalize (lg_sl ([.int p0, .int 1, .int 200]) ++ List.replicate (3 - (lg_sl ([.int p0, .int 1, .int 200])).length) Slot.unset).toArray = ls at hl ⊢
  have hl : lv_has ls 3 [(0, .int p0), (1, .int 1), (2, .int 200)] := hl
  refine lv_iload_n hx hb dX12_in_0 rfl (lv_at hl 0 rfl) ?_
  refine lv_iload_n hx hb dX12_in_1 rfl (lv_at hl 1 rfl) ?_
  refine lv_icmp_lt (tgt := 14) hx hb dX12_in_2 (by decide) (fun c1 => ?_) (fun c1 => ?_)
  · have c1 : p0.toInt < 1 := wLt rfl (by decide) c1
    refine lv_iconst (v := 0) hx hb dX12_in_14 (by decide) ?_
    have hP9 : va_P G vwCl [] _ := hP
    have hD9 : va_D A [] := hD
    exact W.zret (v := 0) (ty := .boolean) hx hb hr rfl (fun t ht hW => ⟨⟨0, _, rfl, Or.inl ⟨(by first | omega | decide | simp), rfl, rfl⟩, by rw [ht]; exact hP9, hD9⟩, hS.F ht⟩) hS.2.2 dX12_in_15
  · have c1 : p0.toInt ≥ 1 := wNlt rfl (by decide) c1
    refine lv_iload_n hx hb dX12_in_5 rfl (lv_at hl 0 rfl) ?_
    refine lv_iload_n hx hb dX12_in_6 rfl (lv_at hl 2 rfl) ?_
    refine lv_icmp_gt (tgt := 14) hx hb dX12_in_7 (by decide) (fun c2 => ?_) (fun c2 => ?_)
    · have c2 : 200 < p0.toInt := wLt (by decide) rfl c2
      refine lv_iconst (v := 0) hx hb dX12_in_14 (by decide) ?_
      have hP9 : va_P G vwCl [] _ := hP
      have hD9 : va_D A [] := hD
      exact W.zret (v := 0) (ty := .boolean) hx hb hr rfl (fun t ht hW => ⟨⟨0, _, rfl, Or.inl ⟨(by first | omega | decide | simp), rfl, rfl⟩, by rw [ht]; exact hP9, hD9⟩, hS.F ht⟩) hS.2.2 dX12_in_15
    · have c2 : 200 ≥ p0.toInt := wNlt (by decide) rfl c2
      refine lv_iconst (v := 1) hx hb dX12_in_10 (by decide) ?_
      refine lv_goto (tgt := 15) hx hb dX12_in_11 (by decide) ?_
      have hP9 : va_P G vwCl [] _ := hP
      have hD9 : va_D A [] := hD
      exact W.zret (v := 1) (ty := .boolean) hx hb hr rfl (fun t ht hW => ⟨⟨1, _, rfl, Or.inr (⟨(by first | omega | decide | simp), rfl, rfl⟩), by rw [ht]; exact hP9, hD9⟩, hS.F ht⟩) hS.2.2 dX12_in_15
def e_X11_begin_1 : List Cond := [.fieldLink RX11 96 "MotionFloorModel$Hall" "seats" "I", .fieldLink RX11 100 "MotionFloorModel$Hall" "there" "I", .fieldLink RX11 103 "MotionFloorModel$Hall" "chair" "I", .fieldLink RX11 106 "MotionFloorModel$Hall" "quorum" "I", .fieldLink RX11 109 "MotionFloorModel$Hall" "limit" "I", .fieldLink RX11 112 "MotionFloorModel$Hall" "floor" "I", .fieldLink RX11 115 "MotionFloorModel$Hall" "pending" "I", .fieldLink RX11 118 "MotionFloorModel$Hall" "entries" "I", .fieldLink RX11 121 "MotionFloorModel$Hall" "results" "I", .fieldLink RX11 124 "MotionFloorModel$Hall" "adopted" "I", .fieldLink RX11 127 "MotionFloorModel$Hall" "why" "I", .fieldLink RX11 130 "MotionFloorModel$Hall" "drafted" "I", .fieldLink RX11 133 "MotionFloorModel$Hall" "lastWords" "I", .fieldLink RX11 15 "MotionFloorModel$Hall" "majority" "[I", .fieldLink RX11 81 "MotionFloorModel$Hall" "lying" "[I", .fieldLink RX11 19 "MotionFloorModel$Hall" "used" "[Z", .fieldLink RX11 9 "MotionFloorModel$Hall" "isThere" "[Z"]
def v_X11_begin_1 : List Cond := .code yX11_begin cX11_begin 3 none :: (e_X11_begin_1 ++ (wsX110 ++ []))
theorem te_X11_begin_1 : GoodIn lw_tbl e_X11_begin_1 := wGc z208 (wGc z207 (wGc z206 (wGc z205 (wGc z204 (wGc z203 (wGc z202 (wGc z201 (wGc z200 (wGc z199 (wGc z198 (wGc z197 (wGc z196 (wGc z192 (wGc z169 (wGc z191 (wGc z193 (wG0)))))))))))))))))
theorem t_X11_begin_1 : GoodIn lw_tbl v_X11_begin_1 := wGc z209 (wGa te_X11_begin_1 (wGa zcX11 (wG0)))
set_option maxHeartbeats 4000000 in
set_option maxRecDepth 100000 in
theorem m_X11_begin_1 (l : Launch) (G : va_G) (K : Nat → ClassId) (h0 h1 h2 h3 h4 h5 h6 h7 h8 h9 h10 h11 h12 h13 h14 h15 h16 h17 h18 h19 h20 h21 h22 h23 h24 h25 h26 h27 : Nat) (p0 : Int32) (sz : Nat) (bp0 : 1 ≤ p0.toInt ∧ p0.toInt ≤ 200) : Met l yX11_begin v_X11_begin_1 ({ frames := 0, cells := 0, slots := 0, locals := 0 }) (va_Pc [.ref h0, .int p0] (wS G K sz [(h0, .inr (8, [.int 1, .int 0, .int (-1), .int 0, .int 0, .int (-1), .int 0, .int 0, .int 0, .int 0, .int 0, .ref h1, .ref h2, .ref h3, .ref h5, .ref h6, .ref h7, .ref h8, .ref h9, .ref h10, .ref h11, .ref h12, .ref h13, .ref h14, .ref h15, .ref h16, .ref h17, .ref h18, .ref h19, .ref h20, .int 0, .ref h21, .ref h22, .ref h23, .ref h4, .int 0, .int 0, .ref h24, .ref h25, .int (-1), .ref h26, .ref h27])), (h1, .inl (K 1, 200, .inl (fun _ => 0))), (h2, .inl (K 0, 9, .inl (upd (fun _ => 1) 6 2))), (h3, .inl (K 1, 90, .inl (fun _ => 0))), (h4, .inl (K 0, 8, .inl (fun _ => 0)))])) (va_Qv (fun u : va_W => (u = [(h0, .inr (8, [.int p0, .int 0, .int (-1), .int 0, .int 0, .int (-1), .int 0, .int 0, .int 0, .int 0, .int 0, .ref h1, .ref h2, .ref h3, .ref h5, .ref h6, .ref h7, .ref h8, .ref h9, .ref h10, .ref h11, .ref h12, .ref h13, .ref h14, .ref h15, .ref h16, .ref h17, .ref h18, .ref h19, .ref h20, .int 0, .ref h21, .ref h22, .ref h23, .ref h4, .int 0, .int 0, .ref h24, .ref h25, .int (-1), .ref h26, .ref h27])), (h1, .inl (K 1, 200, .inl (fun _ => 0))), (h2, .inl (K 0, 9, .inl (upd (fun _ => 1) 6 2))), (h3, .inl (K 1, 90, .inl (fun _ => 0))), (h4, .inl (K 0, 8, .inl (fun _ => 0)))])) (wB G (va_A [(h0, .inr (8, [.int 1, .int 0, .int (-1), .int 0, .int 0, .int (-1), .int 0, .int 0, .int 0, .int 0, .int 0, .ref h1, .ref h2, .ref h3, .ref h5, .ref h6, .ref h7, .ref h8, .ref h9, .ref h10, .ref h11, .ref h12, .ref h13, .ref h14, .ref h15, .ref h16, .ref h17, .ref h18, .ref h19, .ref h20, .int 0, .ref h21, .ref h22, .ref h23, .ref h4, .int 0, .int 0, .ref h24, .ref h25, .int (-1), .ref h26, .ref h27])), (h1, .inl (K 1, 200, .inl (fun _ => 0))), (h2, .inl (K 0, 9, .inl (upd (fun _ => 1) 6 2))), (h3, .inl (K 1, 90, .inl (fun _ => 0))), (h4, .inl (K 0, 8, .inl (fun _ => 0)))] sz)) (va_A [(h0, .inr (8, [.int 1, .int 0, .int (-1), .int 0, .int 0, .int (-1), .int 0, .int 0, .int 0, .int 0, .int 0, .ref h1, .ref h2, .ref h3, .ref h5, .ref h6, .ref h7, .ref h8, .ref h9, .ref h10, .ref h11, .ref h12, .ref h13, .ref h14, .ref h15, .ref h16, .ref h17, .ref h18, .ref h19, .ref h20, .int 0, .ref h21, .ref h22, .ref h23, .ref h4, .int 0, .int 0, .ref h24, .ref h25, .int (-1), .ref h26, .ref h27])), (h1, .inl (K 1, 200, .inl (fun _ => 0))), (h2, .inl (K 0, 9, .inl (upd (fun _ => 1) 6 2))), (h3, .inl (K 1, 90, .inl (fun _ => 0))), (h4, .inl (K 0, 8, .inl (fun _ => 0)))] sz)) 0 0 (va_A [(h0, .inr (8, [.int 1, .int 0, .int (-1), .int 0, .int 0, .int (-1), .int 0, .int 0, .int 0, .int 0, .int 0, .ref h1, .ref h2, .ref h3, .ref h5, .ref h6, .ref h7, .ref h8, .ref h9, .ref h10, .ref h11, .ref h12, .ref h13, .ref h14, .ref h15, .ref h16, .ref h17, .ref h18, .ref h19, .ref h20, .int 0, .ref h21, .ref h22, .ref h23, .ref h4, .int 0, .int 0, .ref h24, .ref h25, .int (-1), .ref h26, .ref h27])), (h1, .inl (K 1, 200, .inl (fun _ => 0))), (h2, .inl (K 0, 9, .inl (upd (fun _ => 1) 6 2))), (h3, .inl (K 1, 90, .inl (fun _ => 0))), (h4, .inl (K 0, 8, .inl (fun _ => 0)))] sz) := by
  refine Met.ofW (cc := cX11_begin) (maxL := 3) (ret := none) (by decide) rfl ?_
  intro p e s m args below meth c s₁ B hml hv
  obtain ⟨rfl, hsz, hP, hK, hD0, hE⟩ := hv
  have hx := B.exec
  have hb := B.bytes
  have hr := B.returns
  have hts := atoms_spec (ws := v_X11_begin_1) B.pre
  have t_ := t_X11_begin_1
  have mw : ∀ w ∈ e_X11_begin_1, w ∈ v_X11_begin_1 := fun w h => List.mem_cons_of_mem _ (List.mem_append_left _ h)
  have hw := fun w (h : w ∈ e_X11_begin_1) => hts w (mw w h)
  have iX11 : ∀ w ∈ wsX110, w ∈ v_X11_begin_1 := fun w h => List.mem_cons_of_mem _ (List.mem_append_right _ (List.mem_append_left _ h))
  have hown : s.vm.findClass RX11 = some m.cls := findClass_of_methodNamed B.named
  have hlocks := B.notSynchronized
  subst hsz
  have hD := hD0.self (sz := s.heap.size)
  generalize hAe : va_A [(h0, .inr (8, [.int 1, .int 0, .int (-1), .int 0, .int 0, .int (-1), .int 0, .int 0, .int 0, .int 0, .int 0, .ref h1, .ref h2, .ref h3, .ref h5, .ref h6, .ref h7, .ref h8, .ref h9, .ref h10, .ref h11, .ref h12, .ref h13, .ref h14, .ref h15, .ref h16, .ref h17, .ref h18, .ref h19, .ref h20, .int 0, .ref h21, .ref h22, .ref h23, .ref h4, .int 0, .int 0, .ref h24, .ref h25, .int (-1), .ref h26, .ref h27])), (h1, .inl (K 1, 200, .inl (fun _ => 0))), (h2, .inl (K 0, 9, .inl (upd (fun _ => 1) 6 2))), (h3, .inl (K 1, 90, .inl (fun _ => 0))), (h4, .inl (K 0, 8, .inl (fun _ => 0)))] s.heap.size = A at hD ⊢
  have hA : ∀ q : Nat, s.heap.size ≤ q → A q := fun q h => by rw [← hAe]; exact Or.inr h
  have hS : va_S A s.heap s.heap [] := va_S.rf
  have hP : va_P G vwCl [(h0, .inr (8, [.int 1, .int 0, .int (-1), .int 0, .int 0, .int (-1), .int 0, .int 0, .int 0, .int 0, .int 0, .ref h1, .ref h2, .ref h3, .ref h5, .ref h6, .ref h7, .ref h8, .ref h9, .ref h10, .ref h11, .ref h12, .ref h13, .ref h14, .ref h15, .ref h16, .ref h17, .ref h18, .ref h19, .ref h20, .int 0, .ref h21, .ref h22, .ref h23, .ref h4, .int 0, .int 0, .ref h24, .ref h25, .int (-1), .ref h26, .ref h27])), (h1, .inl (K 1, 200, .inl (fun _ => 0))), (h2, .inl (K 0, 9, .inl (upd (fun _ => 1) 6 2))), (h3, .inl (K 1, 90, .inl (fun _ => 0))), (h4, .inl (K 0, 8, .inl (fun _ => 0)))] s.heap := hP
  have hl := lv_entry ([.ref h0, .int p0]) (n := 3) (Nat.le_of_ble_eq_true rfl)
  rw [lg_entry_eq]
  generalize (lg_sl ([.ref h0, .int p0]) ++ List.replicate (3 - (lg_sl ([.ref h0, .int p0])).length) Slot.unset).toArray = ls at hl ⊢
  have hl : lv_has ls 3 [(0, .ref h0), (1, .int p0)] := hl
  refine lv_aload_n hx hb dX11_begin_0 rfl (lv_at hl 0 rfl) ?_
  refine lv_iload_n hx hb dX11_begin_1 rfl (lv_at hl 1 rfl) ?_
  refine va_put (D := G) (ci := 8) (v := .int p0) (ty := .int) (C := RX11) (T := TX11) (N := 42) hx hb hts iX11 tyX11 tyX11_ok nmX11 hown hK hP hD hS 0 rfl rfl 0 (by decide) (hw (.fieldLink RX11 96 "MotionFloorModel$Hall" "seats" "I") (List.mem_of_getElem? (i := 0) rfl)) (fun _ h9 => h9) rfl (by decide +kernel) rfl rfl (Nat.le_of_ble_eq_true rfl) dX11_begin_2 (fun H locs hP hD hS => ?_)
  have hP : va_P G vwCl [(h0, .inr (8, [.int p0, .int 0, .int (-1), .int 0, .int 0, .int (-1), .int 0, .int 0, .int 0, .int 0, .int 0, .ref h1, .ref h2, .ref h3, .ref h5, .ref h6, .ref h7, .ref h8, .ref h9, .ref h10, .ref h11, .ref h12, .ref h13, .ref h14, .ref h15, .ref h16, .ref h17, .ref h18, .ref h19, .ref h20, .int 0, .ref h21, .ref h22, .ref h23, .ref h4, .int 0, .int 0, .ref h24, .ref h25, .int (-1), .ref h26, .ref h27])), (h1, .inl (K 1, 200, .inl (fun _ => 0))), (h2, .inl (K 0, 9, .inl (upd (fun _ => 1) 6 2))), (h3, .inl (K 1, 90, .inl (fun _ => 0))), (h4, .inl (K 0, 8, .inl (fun _ => 0)))] _ := hP
  have hD : va_D A [(h0, .inr (8, [.int p0, .int 0, .int (-1), .int 0, .int 0, .int (-1), .int 0, .int 0, .int 0, .int 0, .int 0, .ref h1, .ref h2, .ref h3, .ref h5, .ref h6, .ref h7, .ref h8, .ref h9, .ref h10, .ref h11, .ref h12, .ref h13, .ref h14, .ref h15, .ref h16, .ref h17, .ref h18, .ref h19, .ref h20, .int 0, .ref h21, .ref h22, .ref h23, .ref h4, .int 0, .int 0, .ref h24, .ref h25, .int (-1), .ref h26, .ref h27])), (h1, .inl (K 1, 200, .inl (fun _ => 0))), (h2, .inl (K 0, 9, .inl (upd (fun _ => 1) 6 2))), (h3, .inl (K 1, 90, .inl (fun _ => 0))), (h4, .inl (K 0, 8, .inl (fun _ => 0)))] := hD
  refine lv_aload_n hx hb dX11_begin_5 rfl (lv_at hl 0 rfl) ?_
  refine lv_iconst (v := 0) hx hb dX11_begin_6 (by decide) ?_
  refine va_put (D := G) (ci := 8) (v := .int 0) (ty := .int) (C := RX11) (T := TX11) (N := 42) hx hb hts iX11 tyX11 tyX11_ok nmX11 hown hK hP hD hS 0 rfl rfl 1 (by decide) (hw (.fieldLink RX11 100 "MotionFloorModel$Hall" "there" "I") (List.mem_of_getElem? (i := 1) rfl)) (fun _ h9 => h9) rfl (by decide +kernel) rfl rfl (Nat.le_of_ble_eq_true rfl) dX11_begin_7 (fun H locs hP hD hS => ?_)
  have hP : va_P G vwCl [(h0, .inr (8, [.int p0, .int 0, .int (-1), .int 0, .int 0, .int (-1), .int 0, .int 0, .int 0, .int 0, .int 0, .ref h1, .ref h2, .ref h3, .ref h5, .ref h6, .ref h7, .ref h8, .ref h9, .ref h10, .ref h11, .ref h12, .ref h13, .ref h14, .ref h15, .ref h16, .ref h17, .ref h18, .ref h19, .ref h20, .int 0, .ref h21, .ref h22, .ref h23, .ref h4, .int 0, .int 0, .ref h24, .ref h25, .int (-1), .ref h26, .ref h27])), (h1, .inl (K 1, 200, .inl (fun _ => 0))), (h2, .inl (K 0, 9, .inl (upd (fun _ => 1) 6 2))), (h3, .inl (K 1, 90, .inl (fun _ => 0))), (h4, .inl (K 0, 8, .inl (fun _ => 0)))] _ := hP
  have hD : va_D A [(h0, .inr (8, [.int p0, .int 0, .int (-1), .int 0, .int 0, .int (-1), .int 0, .int 0, .int 0, .int 0, .int 0, .ref h1, .ref h2, .ref h3, .ref h5, .ref h6, .ref h7, .ref h8, .ref h9, .ref h10, .ref h11, .ref h12, .ref h13, .ref h14, .ref h15, .ref h16, .ref h17, .ref h18, .ref h19, .ref h20, .int 0, .ref h21, .ref h22, .ref h23, .ref h4, .int 0, .int 0, .ref h24, .ref h25, .int (-1), .ref h26, .ref h27])), (h1, .inl (K 1, 200, .inl (fun _ => 0))), (h2, .inl (K 0, 9, .inl (upd (fun _ => 1) 6 2))), (h3, .inl (K 1, 90, .inl (fun _ => 0))), (h4, .inl (K 0, 8, .inl (fun _ => 0)))] := hD
  refine lv_aload_n hx hb dX11_begin_10 rfl (lv_at hl 0 rfl) ?_
  refine lv_iconst (v := (-1)) hx hb dX11_begin_11 (by decide) ?_
  refine va_put (D := G) (ci := 8) (v := .int (-1)) (ty := .int) (C := RX11) (T := TX11) (N := 42) hx hb hts iX11 tyX11 tyX11_ok nmX11 hown hK hP hD hS 0 rfl rfl 2 (by decide) (hw (.fieldLink RX11 103 "MotionFloorModel$Hall" "chair" "I") (List.mem_of_getElem? (i := 2) rfl)) (fun _ h9 => h9) rfl (by decide +kernel) rfl rfl (Nat.le_of_ble_eq_true rfl) dX11_begin_12 (fun H locs hP hD hS => ?_)
  have hP : va_P G vwCl [(h0, .inr (8, [.int p0, .int 0, .int (-1), .int 0, .int 0, .int (-1), .int 0, .int 0, .int 0, .int 0, .int 0, .ref h1, .ref h2, .ref h3, .ref h5, .ref h6, .ref h7, .ref h8, .ref h9, .ref h10, .ref h11, .ref h12, .ref h13, .ref h14, .ref h15, .ref h16, .ref h17, .ref h18, .ref h19, .ref h20, .int 0, .ref h21, .ref h22, .ref h23, .ref h4, .int 0, .int 0, .ref h24, .ref h25, .int (-1), .ref h26, .ref h27])), (h1, .inl (K 1, 200, .inl (fun _ => 0))), (h2, .inl (K 0, 9, .inl (upd (fun _ => 1) 6 2))), (h3, .inl (K 1, 90, .inl (fun _ => 0))), (h4, .inl (K 0, 8, .inl (fun _ => 0)))] _ := hP
  have hD : va_D A [(h0, .inr (8, [.int p0, .int 0, .int (-1), .int 0, .int 0, .int (-1), .int 0, .int 0, .int 0, .int 0, .int 0, .ref h1, .ref h2, .ref h3, .ref h5, .ref h6, .ref h7, .ref h8, .ref h9, .ref h10, .ref h11, .ref h12, .ref h13, .ref h14, .ref h15, .ref h16, .ref h17, .ref h18, .ref h19, .ref h20, .int 0, .ref h21, .ref h22, .ref h23, .ref h4, .int 0, .int 0, .ref h24, .ref h25, .int (-1), .ref h26, .ref h27])), (h1, .inl (K 1, 200, .inl (fun _ => 0))), (h2, .inl (K 0, 9, .inl (upd (fun _ => 1) 6 2))), (h3, .inl (K 1, 90, .inl (fun _ => 0))), (h4, .inl (K 0, 8, .inl (fun _ => 0)))] := hD
  refine lv_aload_n hx hb dX11_begin_15 rfl (lv_at hl 0 rfl) ?_
  refine lv_iconst (v := 0) hx hb dX11_begin_16 (by decide) ?_
  refine va_put (D := G) (ci := 8) (v := .int 0) (ty := .int) (C := RX11) (T := TX11) (N := 42) hx hb hts iX11 tyX11 tyX11_ok nmX11 hown hK hP hD hS 0 rfl rfl 3 (by decide) (hw (.fieldLink RX11 106 "MotionFloorModel$Hall" "quorum" "I") (List.mem_of_getElem? (i := 3) rfl)) (fun _ h9 => h9) rfl (by decide +kernel) rfl rfl (Nat.le_of_ble_eq_true rfl) dX11_begin_17 (fun H locs hP hD hS => ?_)
  have hP : va_P G vwCl [(h0, .inr (8, [.int p0, .int 0, .int (-1), .int 0, .int 0, .int (-1), .int 0, .int 0, .int 0, .int 0, .int 0, .ref h1, .ref h2, .ref h3, .ref h5, .ref h6, .ref h7, .ref h8, .ref h9, .ref h10, .ref h11, .ref h12, .ref h13, .ref h14, .ref h15, .ref h16, .ref h17, .ref h18, .ref h19, .ref h20, .int 0, .ref h21, .ref h22, .ref h23, .ref h4, .int 0, .int 0, .ref h24, .ref h25, .int (-1), .ref h26, .ref h27])), (h1, .inl (K 1, 200, .inl (fun _ => 0))), (h2, .inl (K 0, 9, .inl (upd (fun _ => 1) 6 2))), (h3, .inl (K 1, 90, .inl (fun _ => 0))), (h4, .inl (K 0, 8, .inl (fun _ => 0)))] _ := hP
  have hD : va_D A [(h0, .inr (8, [.int p0, .int 0, .int (-1), .int 0, .int 0, .int (-1), .int 0, .int 0, .int 0, .int 0, .int 0, .ref h1, .ref h2, .ref h3, .ref h5, .ref h6, .ref h7, .ref h8, .ref h9, .ref h10, .ref h11, .ref h12, .ref h13, .ref h14, .ref h15, .ref h16, .ref h17, .ref h18, .ref h19, .ref h20, .int 0, .ref h21, .ref h22, .ref h23, .ref h4, .int 0, .int 0, .ref h24, .ref h25, .int (-1), .ref h26, .ref h27])), (h1, .inl (K 1, 200, .inl (fun _ => 0))), (h2, .inl (K 0, 9, .inl (upd (fun _ => 1) 6 2))), (h3, .inl (K 1, 90, .inl (fun _ => 0))), (h4, .inl (K 0, 8, .inl (fun _ => 0)))] := hD
  refine lv_aload_n hx hb dX11_begin_20 rfl (lv_at hl 0 rfl) ?_
  refine lv_iconst (v := 0) hx hb dX11_begin_21 (by decide) ?_
  refine va_put (D := G) (ci := 8) (v := .int 0) (ty := .int) (C := RX11) (T := TX11) (N := 42) hx hb hts iX11 tyX11 tyX11_ok nmX11 hown hK hP hD hS 0 rfl rfl 4 (by decide) (hw (.fieldLink RX11 109 "MotionFloorModel$Hall" "limit" "I") (List.mem_of_getElem? (i := 4) rfl)) (fun _ h9 => h9) rfl (by decide +kernel) rfl rfl (Nat.le_of_ble_eq_true rfl) dX11_begin_22 (fun H locs hP hD hS => ?_)
  have hP : va_P G vwCl [(h0, .inr (8, [.int p0, .int 0, .int (-1), .int 0, .int 0, .int (-1), .int 0, .int 0, .int 0, .int 0, .int 0, .ref h1, .ref h2, .ref h3, .ref h5, .ref h6, .ref h7, .ref h8, .ref h9, .ref h10, .ref h11, .ref h12, .ref h13, .ref h14, .ref h15, .ref h16, .ref h17, .ref h18, .ref h19, .ref h20, .int 0, .ref h21, .ref h22, .ref h23, .ref h4, .int 0, .int 0, .ref h24, .ref h25, .int (-1), .ref h26, .ref h27])), (h1, .inl (K 1, 200, .inl (fun _ => 0))), (h2, .inl (K 0, 9, .inl (upd (fun _ => 1) 6 2))), (h3, .inl (K 1, 90, .inl (fun _ => 0))), (h4, .inl (K 0, 8, .inl (fun _ => 0)))] _ := hP
  have hD : va_D A [(h0, .inr (8, [.int p0, .int 0, .int (-1), .int 0, .int 0, .int (-1), .int 0, .int 0, .int 0, .int 0, .int 0, .ref h1, .ref h2, .ref h3, .ref h5, .ref h6, .ref h7, .ref h8, .ref h9, .ref h10, .ref h11, .ref h12, .ref h13, .ref h14, .ref h15, .ref h16, .ref h17, .ref h18, .ref h19, .ref h20, .int 0, .ref h21, .ref h22, .ref h23, .ref h4, .int 0, .int 0, .ref h24, .ref h25, .int (-1), .ref h26, .ref h27])), (h1, .inl (K 1, 200, .inl (fun _ => 0))), (h2, .inl (K 0, 9, .inl (upd (fun _ => 1) 6 2))), (h3, .inl (K 1, 90, .inl (fun _ => 0))), (h4, .inl (K 0, 8, .inl (fun _ => 0)))] := hD
  refine lv_aload_n hx hb dX11_begin_25 rfl (lv_at hl 0 rfl) ?_
  refine lv_iconst (v := (-1)) hx hb dX11_begin_26 (by decide) ?_
  refine va_put (D := G) (ci := 8) (v := .int (-1)) (ty := .int) (C := RX11) (T := TX11) (N := 42) hx hb hts iX11 tyX11 tyX11_ok nmX11 hown hK hP hD hS 0 rfl rfl 5 (by decide) (hw (.fieldLink RX11 112 "MotionFloorModel$Hall" "floor" "I") (List.mem_of_getElem? (i := 5) rfl)) (fun _ h9 => h9) rfl (by decide +kernel) rfl rfl (Nat.le_of_ble_eq_true rfl) dX11_begin_27 (fun H locs hP hD hS => ?_)
  have hP : va_P G vwCl [(h0, .inr (8, [.int p0, .int 0, .int (-1), .int 0, .int 0, .int (-1), .int 0, .int 0, .int 0, .int 0, .int 0, .ref h1, .ref h2, .ref h3, .ref h5, .ref h6, .ref h7, .ref h8, .ref h9, .ref h10, .ref h11, .ref h12, .ref h13, .ref h14, .ref h15, .ref h16, .ref h17, .ref h18, .ref h19, .ref h20, .int 0, .ref h21, .ref h22, .ref h23, .ref h4, .int 0, .int 0, .ref h24, .ref h25, .int (-1), .ref h26, .ref h27])), (h1, .inl (K 1, 200, .inl (fun _ => 0))), (h2, .inl (K 0, 9, .inl (upd (fun _ => 1) 6 2))), (h3, .inl (K 1, 90, .inl (fun _ => 0))), (h4, .inl (K 0, 8, .inl (fun _ => 0)))] _ := hP
  have hD : va_D A [(h0, .inr (8, [.int p0, .int 0, .int (-1), .int 0, .int 0, .int (-1), .int 0, .int 0, .int 0, .int 0, .int 0, .ref h1, .ref h2, .ref h3, .ref h5, .ref h6, .ref h7, .ref h8, .ref h9, .ref h10, .ref h11, .ref h12, .ref h13, .ref h14, .ref h15, .ref h16, .ref h17, .ref h18, .ref h19, .ref h20, .int 0, .ref h21, .ref h22, .ref h23, .ref h4, .int 0, .int 0, .ref h24, .ref h25, .int (-1), .ref h26, .ref h27])), (h1, .inl (K 1, 200, .inl (fun _ => 0))), (h2, .inl (K 0, 9, .inl (upd (fun _ => 1) 6 2))), (h3, .inl (K 1, 90, .inl (fun _ => 0))), (h4, .inl (K 0, 8, .inl (fun _ => 0)))] := hD
  refine lv_aload_n hx hb dX11_begin_30 rfl (lv_at hl 0 rfl) ?_
  refine lv_iconst (v := 0) hx hb dX11_begin_31 (by decide) ?_
  refine va_put (D := G) (ci := 8) (v := .int 0) (ty := .int) (C := RX11) (T := TX11) (N := 42) hx hb hts iX11 tyX11 tyX11_ok nmX11 hown hK hP hD hS 0 rfl rfl 6 (by decide) (hw (.fieldLink RX11 115 "MotionFloorModel$Hall" "pending" "I") (List.mem_of_getElem? (i := 6) rfl)) (fun _ h9 => h9) rfl (by decide +kernel) rfl rfl (Nat.le_of_ble_eq_true rfl) dX11_begin_32 (fun H locs hP hD hS => ?_)
  have hP : va_P G vwCl [(h0, .inr (8, [.int p0, .int 0, .int (-1), .int 0, .int 0, .int (-1), .int 0, .int 0, .int 0, .int 0, .int 0, .ref h1, .ref h2, .ref h3, .ref h5, .ref h6, .ref h7, .ref h8, .ref h9, .ref h10, .ref h11, .ref h12, .ref h13, .ref h14, .ref h15, .ref h16, .ref h17, .ref h18, .ref h19, .ref h20, .int 0, .ref h21, .ref h22, .ref h23, .ref h4, .int 0, .int 0, .ref h24, .ref h25, .int (-1), .ref h26, .ref h27])), (h1, .inl (K 1, 200, .inl (fun _ => 0))), (h2, .inl (K 0, 9, .inl (upd (fun _ => 1) 6 2))), (h3, .inl (K 1, 90, .inl (fun _ => 0))), (h4, .inl (K 0, 8, .inl (fun _ => 0)))] _ := hP
  have hD : va_D A [(h0, .inr (8, [.int p0, .int 0, .int (-1), .int 0, .int 0, .int (-1), .int 0, .int 0, .int 0, .int 0, .int 0, .ref h1, .ref h2, .ref h3, .ref h5, .ref h6, .ref h7, .ref h8, .ref h9, .ref h10, .ref h11, .ref h12, .ref h13, .ref h14, .ref h15, .ref h16, .ref h17, .ref h18, .ref h19, .ref h20, .int 0, .ref h21, .ref h22, .ref h23, .ref h4, .int 0, .int 0, .ref h24, .ref h25, .int (-1), .ref h26, .ref h27])), (h1, .inl (K 1, 200, .inl (fun _ => 0))), (h2, .inl (K 0, 9, .inl (upd (fun _ => 1) 6 2))), (h3, .inl (K 1, 90, .inl (fun _ => 0))), (h4, .inl (K 0, 8, .inl (fun _ => 0)))] := hD
  refine lv_aload_n hx hb dX11_begin_35 rfl (lv_at hl 0 rfl) ?_
  refine lv_iconst (v := 0) hx hb dX11_begin_36 (by decide) ?_
  refine va_put (D := G) (ci := 8) (v := .int 0) (ty := .int) (C := RX11) (T := TX11) (N := 42) hx hb hts iX11 tyX11 tyX11_ok nmX11 hown hK hP hD hS 0 rfl rfl 7 (by decide) (hw (.fieldLink RX11 118 "MotionFloorModel$Hall" "entries" "I") (List.mem_of_getElem? (i := 7) rfl)) (fun _ h9 => h9) rfl (by decide +kernel) rfl rfl (Nat.le_of_ble_eq_true rfl) dX11_begin_37 (fun H locs hP hD hS => ?_)
  have hP : va_P G vwCl [(h0, .inr (8, [.int p0, .int 0, .int (-1), .int 0, .int 0, .int (-1), .int 0, .int 0, .int 0, .int 0, .int 0, .ref h1, .ref h2, .ref h3, .ref h5, .ref h6, .ref h7, .ref h8, .ref h9, .ref h10, .ref h11, .ref h12, .ref h13, .ref h14, .ref h15, .ref h16, .ref h17, .ref h18, .ref h19, .ref h20, .int 0, .ref h21, .ref h22, .ref h23, .ref h4, .int 0, .int 0, .ref h24, .ref h25, .int (-1), .ref h26, .ref h27])), (h1, .inl (K 1, 200, .inl (fun _ => 0))), (h2, .inl (K 0, 9, .inl (upd (fun _ => 1) 6 2))), (h3, .inl (K 1, 90, .inl (fun _ => 0))), (h4, .inl (K 0, 8, .inl (fun _ => 0)))] _ := hP
  have hD : va_D A [(h0, .inr (8, [.int p0, .int 0, .int (-1), .int 0, .int 0, .int (-1), .int 0, .int 0, .int 0, .int 0, .int 0, .ref h1, .ref h2, .ref h3, .ref h5, .ref h6, .ref h7, .ref h8, .ref h9, .ref h10, .ref h11, .ref h12, .ref h13, .ref h14, .ref h15, .ref h16, .ref h17, .ref h18, .ref h19, .ref h20, .int 0, .ref h21, .ref h22, .ref h23, .ref h4, .int 0, .int 0, .ref h24, .ref h25, .int (-1), .ref h26, .ref h27])), (h1, .inl (K 1, 200, .inl (fun _ => 0))), (h2, .inl (K 0, 9, .inl (upd (fun _ => 1) 6 2))), (h3, .inl (K 1, 90, .inl (fun _ => 0))), (h4, .inl (K 0, 8, .inl (fun _ => 0)))] := hD
  refine lv_aload_n hx hb dX11_begin_40 rfl (lv_at hl 0 rfl) ?_
  refine lv_iconst (v := 0) hx hb dX11_begin_41 (by decide) ?_
  refine va_put (D := G) (ci := 8) (v := .int 0) (ty := .int) (C := RX11) (T := TX11) (N := 42) hx hb hts iX11 tyX11 tyX11_ok nmX11 hown hK hP hD hS 0 rfl rfl 8 (by decide) (hw (.fieldLink RX11 121 "MotionFloorModel$Hall" "results" "I") (List.mem_of_getElem? (i := 8) rfl)) (fun _ h9 => h9) rfl (by decide +kernel) rfl rfl (Nat.le_of_ble_eq_true rfl) dX11_begin_42 (fun H locs hP hD hS => ?_)
  have hP : va_P G vwCl [(h0, .inr (8, [.int p0, .int 0, .int (-1), .int 0, .int 0, .int (-1), .int 0, .int 0, .int 0, .int 0, .int 0, .ref h1, .ref h2, .ref h3, .ref h5, .ref h6, .ref h7, .ref h8, .ref h9, .ref h10, .ref h11, .ref h12, .ref h13, .ref h14, .ref h15, .ref h16, .ref h17, .ref h18, .ref h19, .ref h20, .int 0, .ref h21, .ref h22, .ref h23, .ref h4, .int 0, .int 0, .ref h24, .ref h25, .int (-1), .ref h26, .ref h27])), (h1, .inl (K 1, 200, .inl (fun _ => 0))), (h2, .inl (K 0, 9, .inl (upd (fun _ => 1) 6 2))), (h3, .inl (K 1, 90, .inl (fun _ => 0))), (h4, .inl (K 0, 8, .inl (fun _ => 0)))] _ := hP
  have hD : va_D A [(h0, .inr (8, [.int p0, .int 0, .int (-1), .int 0, .int 0, .int (-1), .int 0, .int 0, .int 0, .int 0, .int 0, .ref h1, .ref h2, .ref h3, .ref h5, .ref h6, .ref h7, .ref h8, .ref h9, .ref h10, .ref h11, .ref h12, .ref h13, .ref h14, .ref h15, .ref h16, .ref h17, .ref h18, .ref h19, .ref h20, .int 0, .ref h21, .ref h22, .ref h23, .ref h4, .int 0, .int 0, .ref h24, .ref h25, .int (-1), .ref h26, .ref h27])), (h1, .inl (K 1, 200, .inl (fun _ => 0))), (h2, .inl (K 0, 9, .inl (upd (fun _ => 1) 6 2))), (h3, .inl (K 1, 90, .inl (fun _ => 0))), (h4, .inl (K 0, 8, .inl (fun _ => 0)))] := hD
  refine lv_aload_n hx hb dX11_begin_45 rfl (lv_at hl 0 rfl) ?_
  refine lv_iconst (v := 0) hx hb dX11_begin_46 (by decide) ?_
  refine va_put (D := G) (ci := 8) (v := .int 0) (ty := .int) (C := RX11) (T := TX11) (N := 42) hx hb hts iX11 tyX11 tyX11_ok nmX11 hown hK hP hD hS 0 rfl rfl 9 (by decide) (hw (.fieldLink RX11 124 "MotionFloorModel$Hall" "adopted" "I") (List.mem_of_getElem? (i := 9) rfl)) (fun _ h9 => h9) rfl (by decide +kernel) rfl rfl (Nat.le_of_ble_eq_true rfl) dX11_begin_47 (fun H locs hP hD hS => ?_)
  have hP : va_P G vwCl [(h0, .inr (8, [.int p0, .int 0, .int (-1), .int 0, .int 0, .int (-1), .int 0, .int 0, .int 0, .int 0, .int 0, .ref h1, .ref h2, .ref h3, .ref h5, .ref h6, .ref h7, .ref h8, .ref h9, .ref h10, .ref h11, .ref h12, .ref h13, .ref h14, .ref h15, .ref h16, .ref h17, .ref h18, .ref h19, .ref h20, .int 0, .ref h21, .ref h22, .ref h23, .ref h4, .int 0, .int 0, .ref h24, .ref h25, .int (-1), .ref h26, .ref h27])), (h1, .inl (K 1, 200, .inl (fun _ => 0))), (h2, .inl (K 0, 9, .inl (upd (fun _ => 1) 6 2))), (h3, .inl (K 1, 90, .inl (fun _ => 0))), (h4, .inl (K 0, 8, .inl (fun _ => 0)))] _ := hP
  have hD : va_D A [(h0, .inr (8, [.int p0, .int 0, .int (-1), .int 0, .int 0, .int (-1), .int 0, .int 0, .int 0, .int 0, .int 0, .ref h1, .ref h2, .ref h3, .ref h5, .ref h6, .ref h7, .ref h8, .ref h9, .ref h10, .ref h11, .ref h12, .ref h13, .ref h14, .ref h15, .ref h16, .ref h17, .ref h18, .ref h19, .ref h20, .int 0, .ref h21, .ref h22, .ref h23, .ref h4, .int 0, .int 0, .ref h24, .ref h25, .int (-1), .ref h26, .ref h27])), (h1, .inl (K 1, 200, .inl (fun _ => 0))), (h2, .inl (K 0, 9, .inl (upd (fun _ => 1) 6 2))), (h3, .inl (K 1, 90, .inl (fun _ => 0))), (h4, .inl (K 0, 8, .inl (fun _ => 0)))] := hD
  refine lv_aload_n hx hb dX11_begin_50 rfl (lv_at hl 0 rfl) ?_
  refine lv_iconst (v := 0) hx hb dX11_begin_51 (by decide) ?_
  refine va_put (D := G) (ci := 8) (v := .int 0) (ty := .int) (C := RX11) (T := TX11) (N := 42) hx hb hts iX11 tyX11 tyX11_ok nmX11 hown hK hP hD hS 0 rfl rfl 10 (by decide) (hw (.fieldLink RX11 127 "MotionFloorModel$Hall" "why" "I") (List.mem_of_getElem? (i := 10) rfl)) (fun _ h9 => h9) rfl (by decide +kernel) rfl rfl (Nat.le_of_ble_eq_true rfl) dX11_begin_52 (fun H locs hP hD hS => ?_)
  have hP : va_P G vwCl [(h0, .inr (8, [.int p0, .int 0, .int (-1), .int 0, .int 0, .int (-1), .int 0, .int 0, .int 0, .int 0, .int 0, .ref h1, .ref h2, .ref h3, .ref h5, .ref h6, .ref h7, .ref h8, .ref h9, .ref h10, .ref h11, .ref h12, .ref h13, .ref h14, .ref h15, .ref h16, .ref h17, .ref h18, .ref h19, .ref h20, .int 0, .ref h21, .ref h22, .ref h23, .ref h4, .int 0, .int 0, .ref h24, .ref h25, .int (-1), .ref h26, .ref h27])), (h1, .inl (K 1, 200, .inl (fun _ => 0))), (h2, .inl (K 0, 9, .inl (upd (fun _ => 1) 6 2))), (h3, .inl (K 1, 90, .inl (fun _ => 0))), (h4, .inl (K 0, 8, .inl (fun _ => 0)))] _ := hP
  have hD : va_D A [(h0, .inr (8, [.int p0, .int 0, .int (-1), .int 0, .int 0, .int (-1), .int 0, .int 0, .int 0, .int 0, .int 0, .ref h1, .ref h2, .ref h3, .ref h5, .ref h6, .ref h7, .ref h8, .ref h9, .ref h10, .ref h11, .ref h12, .ref h13, .ref h14, .ref h15, .ref h16, .ref h17, .ref h18, .ref h19, .ref h20, .int 0, .ref h21, .ref h22, .ref h23, .ref h4, .int 0, .int 0, .ref h24, .ref h25, .int (-1), .ref h26, .ref h27])), (h1, .inl (K 1, 200, .inl (fun _ => 0))), (h2, .inl (K 0, 9, .inl (upd (fun _ => 1) 6 2))), (h3, .inl (K 1, 90, .inl (fun _ => 0))), (h4, .inl (K 0, 8, .inl (fun _ => 0)))] := hD
  refine lv_aload_n hx hb dX11_begin_55 rfl (lv_at hl 0 rfl) ?_
  refine lv_iconst (v := 0) hx hb dX11_begin_56 (by decide) ?_
  refine va_put (D := G) (ci := 8) (v := .int 0) (ty := .int) (C := RX11) (T := TX11) (N := 42) hx hb hts iX11 tyX11 tyX11_ok nmX11 hown hK hP hD hS 0 rfl rfl 35 (by decide) (hw (.fieldLink RX11 130 "MotionFloorModel$Hall" "drafted" "I") (List.mem_of_getElem? (i := 11) rfl)) (fun _ h9 => h9) rfl (by decide +kernel) rfl rfl (Nat.le_of_ble_eq_true rfl) dX11_begin_57 (fun H locs hP hD hS => ?_)
  have hP : va_P G vwCl [(h0, .inr (8, [.int p0, .int 0, .int (-1), .int 0, .int 0, .int (-1), .int 0, .int 0, .int 0, .int 0, .int 0, .ref h1, .ref h2, .ref h3, .ref h5, .ref h6, .ref h7, .ref h8, .ref h9, .ref h10, .ref h11, .ref h12, .ref h13, .ref h14, .ref h15, .ref h16, .ref h17, .ref h18, .ref h19, .ref h20, .int 0, .ref h21, .ref h22, .ref h23, .ref h4, .int 0, .int 0, .ref h24, .ref h25, .int (-1), .ref h26, .ref h27])), (h1, .inl (K 1, 200, .inl (fun _ => 0))), (h2, .inl (K 0, 9, .inl (upd (fun _ => 1) 6 2))), (h3, .inl (K 1, 90, .inl (fun _ => 0))), (h4, .inl (K 0, 8, .inl (fun _ => 0)))] _ := hP
  have hD : va_D A [(h0, .inr (8, [.int p0, .int 0, .int (-1), .int 0, .int 0, .int (-1), .int 0, .int 0, .int 0, .int 0, .int 0, .ref h1, .ref h2, .ref h3, .ref h5, .ref h6, .ref h7, .ref h8, .ref h9, .ref h10, .ref h11, .ref h12, .ref h13, .ref h14, .ref h15, .ref h16, .ref h17, .ref h18, .ref h19, .ref h20, .int 0, .ref h21, .ref h22, .ref h23, .ref h4, .int 0, .int 0, .ref h24, .ref h25, .int (-1), .ref h26, .ref h27])), (h1, .inl (K 1, 200, .inl (fun _ => 0))), (h2, .inl (K 0, 9, .inl (upd (fun _ => 1) 6 2))), (h3, .inl (K 1, 90, .inl (fun _ => 0))), (h4, .inl (K 0, 8, .inl (fun _ => 0)))] := hD
  refine lv_aload_n hx hb dX11_begin_60 rfl (lv_at hl 0 rfl) ?_
  refine lv_iconst (v := (-1)) hx hb dX11_begin_61 (by decide) ?_
  refine va_put (D := G) (ci := 8) (v := .int (-1)) (ty := .int) (C := RX11) (T := TX11) (N := 42) hx hb hts iX11 tyX11 tyX11_ok nmX11 hown hK hP hD hS 0 rfl rfl 39 (by decide) (hw (.fieldLink RX11 133 "MotionFloorModel$Hall" "lastWords" "I") (List.mem_of_getElem? (i := 12) rfl)) (fun _ h9 => h9) rfl (by decide +kernel) rfl rfl (Nat.le_of_ble_eq_true rfl) dX11_begin_62 (fun H locs hP hD hS => ?_)
  have hP : va_P G vwCl [(h0, .inr (8, [.int p0, .int 0, .int (-1), .int 0, .int 0, .int (-1), .int 0, .int 0, .int 0, .int 0, .int 0, .ref h1, .ref h2, .ref h3, .ref h5, .ref h6, .ref h7, .ref h8, .ref h9, .ref h10, .ref h11, .ref h12, .ref h13, .ref h14, .ref h15, .ref h16, .ref h17, .ref h18, .ref h19, .ref h20, .int 0, .ref h21, .ref h22, .ref h23, .ref h4, .int 0, .int 0, .ref h24, .ref h25, .int (-1), .ref h26, .ref h27])), (h1, .inl (K 1, 200, .inl (fun _ => 0))), (h2, .inl (K 0, 9, .inl (upd (fun _ => 1) 6 2))), (h3, .inl (K 1, 90, .inl (fun _ => 0))), (h4, .inl (K 0, 8, .inl (fun _ => 0)))] _ := hP
  have hD : va_D A [(h0, .inr (8, [.int p0, .int 0, .int (-1), .int 0, .int 0, .int (-1), .int 0, .int 0, .int 0, .int 0, .int 0, .ref h1, .ref h2, .ref h3, .ref h5, .ref h6, .ref h7, .ref h8, .ref h9, .ref h10, .ref h11, .ref h12, .ref h13, .ref h14, .ref h15, .ref h16, .ref h17, .ref h18, .ref h19, .ref h20, .int 0, .ref h21, .ref h22, .ref h23, .ref h4, .int 0, .int 0, .ref h24, .ref h25, .int (-1), .ref h26, .ref h27])), (h1, .inl (K 1, 200, .inl (fun _ => 0))), (h2, .inl (K 0, 9, .inl (upd (fun _ => 1) 6 2))), (h3, .inl (K 1, 90, .inl (fun _ => 0))), (h4, .inl (K 0, 8, .inl (fun _ => 0)))] := hD
  refine lv_iconst (v := 0) hx hb dX11_begin_65 (by decide) ?_
  refine lv_istore_n (lv' := [(2, .int 0), (0, .ref h0), (1, .int p0)]) hx hb dX11_begin_66 rfl hl (by decide) rfl (fun ls hl => ?_)
  have hl : lv_has ls 3 [(2, .int (nI 0)), (0, .ref h0), (1, .int p0)] := lv_sub hl [0, 1, 2] rfl
  refine wUp 200 (fun i ls H locs => va_P G vwCl [(h0, .inr (8, [.int p0, .int 0, .int (-1), .int 0, .int 0, .int (-1), .int 0, .int 0, .int 0, .int 0, .int 0, .ref h1, .ref h2, .ref h3, .ref h5, .ref h6, .ref h7, .ref h8, .ref h9, .ref h10, .ref h11, .ref h12, .ref h13, .ref h14, .ref h15, .ref h16, .ref h17, .ref h18, .ref h19, .ref h20, .int 0, .ref h21, .ref h22, .ref h23, .ref h4, .int 0, .int 0, .ref h24, .ref h25, .int (-1), .ref h26, .ref h27])), (h1, .inl (K 1, 200, .inl (fun _ => 0))), (h2, .inl (K 0, 9, .inl (upd (fun _ => 1) 6 2))), (h3, .inl (K 1, 90, .inl (fun _ => 0))), (h4, .inl (K 0, 8, .inl (fun _ => 0)))] H ∧ va_D A [(h0, .inr (8, [.int p0, .int 0, .int (-1), .int 0, .int 0, .int (-1), .int 0, .int 0, .int 0, .int 0, .int 0, .ref h1, .ref h2, .ref h3, .ref h5, .ref h6, .ref h7, .ref h8, .ref h9, .ref h10, .ref h11, .ref h12, .ref h13, .ref h14, .ref h15, .ref h16, .ref h17, .ref h18, .ref h19, .ref h20, .int 0, .ref h21, .ref h22, .ref h23, .ref h4, .int 0, .int 0, .ref h24, .ref h25, .int (-1), .ref h26, .ref h27])), (h1, .inl (K 1, 200, .inl (fun _ => 0))), (h2, .inl (K 0, 9, .inl (upd (fun _ => 1) 6 2))), (h3, .inl (K 1, 90, .inl (fun _ => 0))), (h4, .inl (K 0, 8, .inl (fun _ => 0)))] ∧ va_S A s.heap H locs ∧ lv_has ls 3 [(2, .int (nI i)), (0, .ref h0), (1, .int p0)]) (fun ls H locs hi => ?_) (fun i ls H locs hi hq ih => ?_) ⟨hP, hD, hS, hl⟩
  · obtain ⟨hP, hD, hS, hl⟩ := hi
    have hl : lv_has ls 3 [(2, .int 200), (0, .ref h0), (1, .int p0)] := hl
    refine lv_iload_n hx hb dX11_begin_67 rfl (lv_at hl 0 rfl) ?_
    refine lv_sipush (v := 200) hx hb dX11_begin_68 (by decide) ?_
    refine lv_icmp_ge (tgt := 87) hx hb dX11_begin_71 (by decide) (fun _ => ?_) (fun c_ => absurd c_ (by decide))
    refine lv_iconst (v := 0) hx hb dX11_begin_87 (by decide) ?_
    refine lv_istore_n (lv' := [(2, .int 0), (0, .ref h0), (1, .int p0)]) hx hb dX11_begin_88 rfl hl (by decide) rfl (fun ls hl => ?_)
    refine lv_iload_n hx hb dX11_begin_89 rfl (lv_at hl 0 rfl) ?_
    refine lv_bipush (v := 9) hx hb dX11_begin_90 (by decide) ?_
    refine lv_icmp_ge (tgt := 118) hx hb dX11_begin_92 (by decide) (fun c_ => absurd c_ (by decide)) (fun _ => ?_)
    refine lv_aload_n hx hb dX11_begin_95 rfl (lv_at hl 1 rfl) ?_
    refine va_get (D := G) (ci := 8) (v := .ref h2) (C := RX11) (T := TX11) (N := 42) hx hb hts iX11 hown hK hP 0 rfl rfl 12 (by decide) (hw (.fieldLink RX11 15 "MotionFloorModel$Hall" "majority" "[I") (List.mem_of_getElem? (i := 13) rfl)) (fun _ h9 => h9) rfl dX11_begin_96 ?_
    refine lv_iload_n hx hb dX11_begin_99 rfl (lv_at hl 0 rfl) ?_
    refine lv_iload_n hx hb dX11_begin_100 rfl (lv_at hl 0 rfl) ?_
    refine lv_bipush (v := 6) hx hb dX11_begin_101 (by decide) ?_
    refine lv_icmp_ne (tgt := 110) hx hb dX11_begin_103 (by decide) (fun _ => ?_) (fun c_ => absurd c_ (by decide))
    refine lv_iconst (v := 1) hx hb dX11_begin_110 (by decide) ?_
    refine va_iast hx hb hK hP hD hS 2 0 rfl rfl (vp_in_iff.mpr (by decide)) dX11_begin_111 (fun H locs hP hD hS => ?_)
    have hP : va_P G vwCl [(h0, .inr (8, [.int p0, .int 0, .int (-1), .int 0, .int 0, .int (-1), .int 0, .int 0, .int 0, .int 0, .int 0, .ref h1, .ref h2, .ref h3, .ref h5, .ref h6, .ref h7, .ref h8, .ref h9, .ref h10, .ref h11, .ref h12, .ref h13, .ref h14, .ref h15, .ref h16, .ref h17, .ref h18, .ref h19, .ref h20, .int 0, .ref h21, .ref h22, .ref h23, .ref h4, .int 0, .int 0, .ref h24, .ref h25, .int (-1), .ref h26, .ref h27])), (h1, .inl (K 1, 200, .inl (fun _ => 0))), (h2, .inl (K 0, 9, .inl (upd (upd (fun _ => 1) 6 2) 0 1))), (h3, .inl (K 1, 90, .inl (fun _ => 0))), (h4, .inl (K 0, 8, .inl (fun _ => 0)))] _ := hP
    have hD : va_D A [(h0, .inr (8, [.int p0, .int 0, .int (-1), .int 0, .int 0, .int (-1), .int 0, .int 0, .int 0, .int 0, .int 0, .ref h1, .ref h2, .ref h3, .ref h5, .ref h6, .ref h7, .ref h8, .ref h9, .ref h10, .ref h11, .ref h12, .ref h13, .ref h14, .ref h15, .ref h16, .ref h17, .ref h18, .ref h19, .ref h20, .int 0, .ref h21, .ref h22, .ref h23, .ref h4, .int 0, .int 0, .ref h24, .ref h25, .int (-1), .ref h26, .ref h27])), (h1, .inl (K 1, 200, .inl (fun _ => 0))), (h2, .inl (K 0, 9, .inl (upd (upd (fun _ => 1) 6 2) 0 1))), (h3, .inl (K 1, 90, .inl (fun _ => 0))), (h4, .inl (K 0, 8, .inl (fun _ => 0)))] := hD
    refine lv_iinc (v := 1) (lv' := [(2, .int 1), (0, .ref h0), (1, .int p0)]) hx hb dX11_begin_112 hl (k := 0) rfl (by decide) (by decide) rfl (fun ls hl => ?_)
    refine lv_goto (tgt := 89) hx hb dX11_begin_115 (by decide) ?_
    refine lv_iload_n hx hb dX11_begin_89 rfl (lv_at hl 0 rfl) ?_
    refine lv_bipush (v := 9) hx hb dX11_begin_90 (by decide) ?_
    refine lv_icmp_ge (tgt := 118) hx hb dX11_begin_92 (by decide) (fun c_ => absurd c_ (by decide)) (fun _ => ?_)
    refine lv_aload_n hx hb dX11_begin_95 rfl (lv_at hl 1 rfl) ?_
    refine va_get (D := G) (ci := 8) (v := .ref h2) (C := RX11) (T := TX11) (N := 42) hx hb hts iX11 hown hK hP 0 rfl rfl 12 (by decide) (hw (.fieldLink RX11 15 "MotionFloorModel$Hall" "majority" "[I") (List.mem_of_getElem? (i := 13) rfl)) (fun _ h9 => h9) rfl dX11_begin_96 ?_
    refine lv_iload_n hx hb dX11_begin_99 rfl (lv_at hl 0 rfl) ?_
    refine lv_iload_n hx hb dX11_begin_100 rfl (lv_at hl 0 rfl) ?_
    refine lv_bipush (v := 6) hx hb dX11_begin_101 (by decide) ?_
    refine lv_icmp_ne (tgt := 110) hx hb dX11_begin_103 (by decide) (fun _ => ?_) (fun c_ => absurd c_ (by decide))
    refine lv_iconst (v := 1) hx hb dX11_begin_110 (by decide) ?_
    refine va_iast hx hb hK hP hD hS 2 0 rfl rfl (vp_in_iff.mpr (by decide)) dX11_begin_111 (fun H locs hP hD hS => ?_)
    have hP : va_P G vwCl [(h0, .inr (8, [.int p0, .int 0, .int (-1), .int 0, .int 0, .int (-1), .int 0, .int 0, .int 0, .int 0, .int 0, .ref h1, .ref h2, .ref h3, .ref h5, .ref h6, .ref h7, .ref h8, .ref h9, .ref h10, .ref h11, .ref h12, .ref h13, .ref h14, .ref h15, .ref h16, .ref h17, .ref h18, .ref h19, .ref h20, .int 0, .ref h21, .ref h22, .ref h23, .ref h4, .int 0, .int 0, .ref h24, .ref h25, .int (-1), .ref h26, .ref h27])), (h1, .inl (K 1, 200, .inl (fun _ => 0))), (h2, .inl (K 0, 9, .inl (upd (upd (upd (fun _ => 1) 6 2) 0 1) 1 1))), (h3, .inl (K 1, 90, .inl (fun _ => 0))), (h4, .inl (K 0, 8, .inl (fun _ => 0)))] _ := hP
    have hD : va_D A [(h0, .inr (8, [.int p0, .int 0, .int (-1), .int 0, .int 0, .int (-1), .int 0, .int 0, .int 0, .int 0, .int 0, .ref h1, .ref h2, .ref h3, .ref h5, .ref h6, .ref h7, .ref h8, .ref h9, .ref h10, .ref h11, .ref h12, .ref h13, .ref h14, .ref h15, .ref h16, .ref h17, .ref h18, .ref h19, .ref h20, .int 0, .ref h21, .ref h22, .ref h23, .ref h4, .int 0, .int 0, .ref h24, .ref h25, .int (-1), .ref h26, .ref h27])), (h1, .inl (K 1, 200, .inl (fun _ => 0))), (h2, .inl (K 0, 9, .inl (upd (upd (upd (fun _ => 1) 6 2) 0 1) 1 1))), (h3, .inl (K 1, 90, .inl (fun _ => 0))), (h4, .inl (K 0, 8, .inl (fun _ => 0)))] := hD
    refine lv_iinc (v := 2) (lv' := [(2, .int 2), (0, .ref h0), (1, .int p0)]) hx hb dX11_begin_112 hl (k := 0) rfl (by decide) (by decide) rfl (fun ls hl => ?_)
    refine lv_goto (tgt := 89) hx hb dX11_begin_115 (by decide) ?_
    refine lv_iload_n hx hb dX11_begin_89 rfl (lv_at hl 0 rfl) ?_
    refine lv_bipush (v := 9) hx hb dX11_begin_90 (by decide) ?_
    refine lv_icmp_ge (tgt := 118) hx hb dX11_begin_92 (by decide) (fun c_ => absurd c_ (by decide)) (fun _ => ?_)
    refine lv_aload_n hx hb dX11_begin_95 rfl (lv_at hl 1 rfl) ?_
    refine va_get (D := G) (ci := 8) (v := .ref h2) (C := RX11) (T := TX11) (N := 42) hx hb hts iX11 hown hK hP 0 rfl rfl 12 (by decide) (hw (.fieldLink RX11 15 "MotionFloorModel$Hall" "majority" "[I") (List.mem_of_getElem? (i := 13) rfl)) (fun _ h9 => h9) rfl dX11_begin_96 ?_
    refine lv_iload_n hx hb dX11_begin_99 rfl (lv_at hl 0 rfl) ?_
    refine lv_iload_n hx hb dX11_begin_100 rfl (lv_at hl 0 rfl) ?_
    refine lv_bipush (v := 6) hx hb dX11_begin_101 (by decide) ?_
    refine lv_icmp_ne (tgt := 110) hx hb dX11_begin_103 (by decide) (fun _ => ?_) (fun c_ => absurd c_ (by decide))
    refine lv_iconst (v := 1) hx hb dX11_begin_110 (by decide) ?_
    refine va_iast hx hb hK hP hD hS 2 0 rfl rfl (vp_in_iff.mpr (by decide)) dX11_begin_111 (fun H locs hP hD hS => ?_)
    have hP : va_P G vwCl [(h0, .inr (8, [.int p0, .int 0, .int (-1), .int 0, .int 0, .int (-1), .int 0, .int 0, .int 0, .int 0, .int 0, .ref h1, .ref h2, .ref h3, .ref h5, .ref h6, .ref h7, .ref h8, .ref h9, .ref h10, .ref h11, .ref h12, .ref h13, .ref h14, .ref h15, .ref h16, .ref h17, .ref h18, .ref h19, .ref h20, .int 0, .ref h21, .ref h22, .ref h23, .ref h4, .int 0, .int 0, .ref h24, .ref h25, .int (-1), .ref h26, .ref h27])), (h1, .inl (K 1, 200, .inl (fun _ => 0))), (h2, .inl (K 0, 9, .inl (upd (upd (upd (upd (fun _ => 1) 6 2) 0 1) 1 1) 2 1))), (h3, .inl (K 1, 90, .inl (fun _ => 0))), (h4, .inl (K 0, 8, .inl (fun _ => 0)))] _ := hP
    have hD : va_D A [(h0, .inr (8, [.int p0, .int 0, .int (-1), .int 0, .int 0, .int (-1), .int 0, .int 0, .int 0, .int 0, .int 0, .ref h1, .ref h2, .ref h3, .ref h5, .ref h6, .ref h7, .ref h8, .ref h9, .ref h10, .ref h11, .ref h12, .ref h13, .ref h14, .ref h15, .ref h16, .ref h17, .ref h18, .ref h19, .ref h20, .int 0, .ref h21, .ref h22, .ref h23, .ref h4, .int 0, .int 0, .ref h24, .ref h25, .int (-1), .ref h26, .ref h27])), (h1, .inl (K 1, 200, .inl (fun _ => 0))), (h2, .inl (K 0, 9, .inl (upd (upd (upd (upd (fun _ => 1) 6 2) 0 1) 1 1) 2 1))), (h3, .inl (K 1, 90, .inl (fun _ => 0))), (h4, .inl (K 0, 8, .inl (fun _ => 0)))] := hD
    refine lv_iinc (v := 3) (lv' := [(2, .int 3), (0, .ref h0), (1, .int p0)]) hx hb dX11_begin_112 hl (k := 0) rfl (by decide) (by decide) rfl (fun ls hl => ?_)
    refine lv_goto (tgt := 89) hx hb dX11_begin_115 (by decide) ?_
    refine lv_iload_n hx hb dX11_begin_89 rfl (lv_at hl 0 rfl) ?_
    refine lv_bipush (v := 9) hx hb dX11_begin_90 (by decide) ?_
    refine lv_icmp_ge (tgt := 118) hx hb dX11_begin_92 (by decide) (fun c_ => absurd c_ (by decide)) (fun _ => ?_)
    refine lv_aload_n hx hb dX11_begin_95 rfl (lv_at hl 1 rfl) ?_
    refine va_get (D := G) (ci := 8) (v := .ref h2) (C := RX11) (T := TX11) (N := 42) hx hb hts iX11 hown hK hP 0 rfl rfl 12 (by decide) (hw (.fieldLink RX11 15 "MotionFloorModel$Hall" "majority" "[I") (List.mem_of_getElem? (i := 13) rfl)) (fun _ h9 => h9) rfl dX11_begin_96 ?_
    refine lv_iload_n hx hb dX11_begin_99 rfl (lv_at hl 0 rfl) ?_
    refine lv_iload_n hx hb dX11_begin_100 rfl (lv_at hl 0 rfl) ?_
    refine lv_bipush (v := 6) hx hb dX11_begin_101 (by decide) ?_
    refine lv_icmp_ne (tgt := 110) hx hb dX11_begin_103 (by decide) (fun _ => ?_) (fun c_ => absurd c_ (by decide))
    refine lv_iconst (v := 1) hx hb dX11_begin_110 (by decide) ?_
    refine va_iast hx hb hK hP hD hS 2 0 rfl rfl (vp_in_iff.mpr (by decide)) dX11_begin_111 (fun H locs hP hD hS => ?_)
    have hP : va_P G vwCl [(h0, .inr (8, [.int p0, .int 0, .int (-1), .int 0, .int 0, .int (-1), .int 0, .int 0, .int 0, .int 0, .int 0, .ref h1, .ref h2, .ref h3, .ref h5, .ref h6, .ref h7, .ref h8, .ref h9, .ref h10, .ref h11, .ref h12, .ref h13, .ref h14, .ref h15, .ref h16, .ref h17, .ref h18, .ref h19, .ref h20, .int 0, .ref h21, .ref h22, .ref h23, .ref h4, .int 0, .int 0, .ref h24, .ref h25, .int (-1), .ref h26, .ref h27])), (h1, .inl (K 1, 200, .inl (fun _ => 0))), (h2, .inl (K 0, 9, .inl (upd (upd (upd (upd (upd (fun _ => 1) 6 2) 0 1) 1 1) 2 1) 3 1))), (h3, .inl (K 1, 90, .inl (fun _ => 0))), (h4, .inl (K 0, 8, .inl (fun _ => 0)))] _ := hP
    have hD : va_D A [(h0, .inr (8, [.int p0, .int 0, .int (-1), .int 0, .int 0, .int (-1), .int 0, .int 0, .int 0, .int 0, .int 0, .ref h1, .ref h2, .ref h3, .ref h5, .ref h6, .ref h7, .ref h8, .ref h9, .ref h10, .ref h11, .ref h12, .ref h13, .ref h14, .ref h15, .ref h16, .ref h17, .ref h18, .ref h19, .ref h20, .int 0, .ref h21, .ref h22, .ref h23, .ref h4, .int 0, .int 0, .ref h24, .ref h25, .int (-1), .ref h26, .ref h27])), (h1, .inl (K 1, 200, .inl (fun _ => 0))), (h2, .inl (K 0, 9, .inl (upd (upd (upd (upd (upd (fun _ => 1) 6 2) 0 1) 1 1) 2 1) 3 1))), (h3, .inl (K 1, 90, .inl (fun _ => 0))), (h4, .inl (K 0, 8, .inl (fun _ => 0)))] := hD
    refine lv_iinc (v := 4) (lv' := [(2, .int 4), (0, .ref h0), (1, .int p0)]) hx hb dX11_begin_112 hl (k := 0) rfl (by decide) (by decide) rfl (fun ls hl => ?_)
    refine lv_goto (tgt := 89) hx hb dX11_begin_115 (by decide) ?_
    refine lv_iload_n hx hb dX11_begin_89 rfl (lv_at hl 0 rfl) ?_
    refine lv_bipush (v := 9) hx hb dX11_begin_90 (by decide) ?_
    refine lv_icmp_ge (tgt := 118) hx hb dX11_begin_92 (by decide) (fun c_ => absurd c_ (by decide)) (fun _ => ?_)
    refine lv_aload_n hx hb dX11_begin_95 rfl (lv_at hl 1 rfl) ?_
    refine va_get (D := G) (ci := 8) (v := .ref h2) (C := RX11) (T := TX11) (N := 42) hx hb hts iX11 hown hK hP 0 rfl rfl 12 (by decide) (hw (.fieldLink RX11 15 "MotionFloorModel$Hall" "majority" "[I") (List.mem_of_getElem? (i := 13) rfl)) (fun _ h9 => h9) rfl dX11_begin_96 ?_
    refine lv_iload_n hx hb dX11_begin_99 rfl (lv_at hl 0 rfl) ?_
    refine lv_iload_n hx hb dX11_begin_100 rfl (lv_at hl 0 rfl) ?_
    refine lv_bipush (v := 6) hx hb dX11_begin_101 (by decide) ?_
    refine lv_icmp_ne (tgt := 110) hx hb dX11_begin_103 (by decide) (fun _ => ?_) (fun c_ => absurd c_ (by decide))
    refine lv_iconst (v := 1) hx hb dX11_begin_110 (by decide) ?_
    refine va_iast hx hb hK hP hD hS 2 0 rfl rfl (vp_in_iff.mpr (by decide)) dX11_begin_111 (fun H locs hP hD hS => ?_)
    have hP : va_P G vwCl [(h0, .inr (8, [.int p0, .int 0, .int (-1), .int 0, .int 0, .int (-1), .int 0, .int 0, .int 0, .int 0, .int 0, .ref h1, .ref h2, .ref h3, .ref h5, .ref h6, .ref h7, .ref h8, .ref h9, .ref h10, .ref h11, .ref h12, .ref h13, .ref h14, .ref h15, .ref h16, .ref h17, .ref h18, .ref h19, .ref h20, .int 0, .ref h21, .ref h22, .ref h23, .ref h4, .int 0, .int 0, .ref h24, .ref h25, .int (-1), .ref h26, .ref h27])), (h1, .inl (K 1, 200, .inl (fun _ => 0))), (h2, .inl (K 0, 9, .inl (upd (upd (upd (upd (upd (upd (fun _ => 1) 6 2) 0 1) 1 1) 2 1) 3 1) 4 1))), (h3, .inl (K 1, 90, .inl (fun _ => 0))), (h4, .inl (K 0, 8, .inl (fun _ => 0)))] _ := hP
    have hD : va_D A [(h0, .inr (8, [.int p0, .int 0, .int (-1), .int 0, .int 0, .int (-1), .int 0, .int 0, .int 0, .int 0, .int 0, .ref h1, .ref h2, .ref h3, .ref h5, .ref h6, .ref h7, .ref h8, .ref h9, .ref h10, .ref h11, .ref h12, .ref h13, .ref h14, .ref h15, .ref h16, .ref h17, .ref h18, .ref h19, .ref h20, .int 0, .ref h21, .ref h22, .ref h23, .ref h4, .int 0, .int 0, .ref h24, .ref h25, .int (-1), .ref h26, .ref h27])), (h1, .inl (K 1, 200, .inl (fun _ => 0))), (h2, .inl (K 0, 9, .inl (upd (upd (upd (upd (upd (upd (fun _ => 1) 6 2) 0 1) 1 1) 2 1) 3 1) 4 1))), (h3, .inl (K 1, 90, .inl (fun _ => 0))), (h4, .inl (K 0, 8, .inl (fun _ => 0)))] := hD
    refine lv_iinc (v := 5) (lv' := [(2, .int 5), (0, .ref h0), (1, .int p0)]) hx hb dX11_begin_112 hl (k := 0) rfl (by decide) (by decide) rfl (fun ls hl => ?_)
    refine lv_goto (tgt := 89) hx hb dX11_begin_115 (by decide) ?_
    refine lv_iload_n hx hb dX11_begin_89 rfl (lv_at hl 0 rfl) ?_
    refine lv_bipush (v := 9) hx hb dX11_begin_90 (by decide) ?_
    refine lv_icmp_ge (tgt := 118) hx hb dX11_begin_92 (by decide) (fun c_ => absurd c_ (by decide)) (fun _ => ?_)
    refine lv_aload_n hx hb dX11_begin_95 rfl (lv_at hl 1 rfl) ?_
    refine va_get (D := G) (ci := 8) (v := .ref h2) (C := RX11) (T := TX11) (N := 42) hx hb hts iX11 hown hK hP 0 rfl rfl 12 (by decide) (hw (.fieldLink RX11 15 "MotionFloorModel$Hall" "majority" "[I") (List.mem_of_getElem? (i := 13) rfl)) (fun _ h9 => h9) rfl dX11_begin_96 ?_
    refine lv_iload_n hx hb dX11_begin_99 rfl (lv_at hl 0 rfl) ?_
    refine lv_iload_n hx hb dX11_begin_100 rfl (lv_at hl 0 rfl) ?_
    refine lv_bipush (v := 6) hx hb dX11_begin_101 (by decide) ?_
    refine lv_icmp_ne (tgt := 110) hx hb dX11_begin_103 (by decide) (fun _ => ?_) (fun c_ => absurd c_ (by decide))
    refine lv_iconst (v := 1) hx hb dX11_begin_110 (by decide) ?_
    refine va_iast hx hb hK hP hD hS 2 0 rfl rfl (vp_in_iff.mpr (by decide)) dX11_begin_111 (fun H locs hP hD hS => ?_)
    have hP : va_P G vwCl [(h0, .inr (8, [.int p0, .int 0, .int (-1), .int 0, .int 0, .int (-1), .int 0, .int 0, .int 0, .int 0, .int 0, .ref h1, .ref h2, .ref h3, .ref h5, .ref h6, .ref h7, .ref h8, .ref h9, .ref h10, .ref h11, .ref h12, .ref h13, .ref h14, .ref h15, .ref h16, .ref h17, .ref h18, .ref h19, .ref h20, .int 0, .ref h21, .ref h22, .ref h23, .ref h4, .int 0, .int 0, .ref h24, .ref h25, .int (-1), .ref h26, .ref h27])), (h1, .inl (K 1, 200, .inl (fun _ => 0))), (h2, .inl (K 0, 9, .inl (upd (upd (upd (upd (upd (upd (upd (fun _ => 1) 6 2) 0 1) 1 1) 2 1) 3 1) 4 1) 5 1))), (h3, .inl (K 1, 90, .inl (fun _ => 0))), (h4, .inl (K 0, 8, .inl (fun _ => 0)))] _ := hP
    have hD : va_D A [(h0, .inr (8, [.int p0, .int 0, .int (-1), .int 0, .int 0, .int (-1), .int 0, .int 0, .int 0, .int 0, .int 0, .ref h1, .ref h2, .ref h3, .ref h5, .ref h6, .ref h7, .ref h8, .ref h9, .ref h10, .ref h11, .ref h12, .ref h13, .ref h14, .ref h15, .ref h16, .ref h17, .ref h18, .ref h19, .ref h20, .int 0, .ref h21, .ref h22, .ref h23, .ref h4, .int 0, .int 0, .ref h24, .ref h25, .int (-1), .ref h26, .ref h27])), (h1, .inl (K 1, 200, .inl (fun _ => 0))), (h2, .inl (K 0, 9, .inl (upd (upd (upd (upd (upd (upd (upd (fun _ => 1) 6 2) 0 1) 1 1) 2 1) 3 1) 4 1) 5 1))), (h3, .inl (K 1, 90, .inl (fun _ => 0))), (h4, .inl (K 0, 8, .inl (fun _ => 0)))] := hD
    refine lv_iinc (v := 6) (lv' := [(2, .int 6), (0, .ref h0), (1, .int p0)]) hx hb dX11_begin_112 hl (k := 0) rfl (by decide) (by decide) rfl (fun ls hl => ?_)
    refine lv_goto (tgt := 89) hx hb dX11_begin_115 (by decide) ?_
    refine lv_iload_n hx hb dX11_begin_89 rfl (lv_at hl 0 rfl) ?_
    refine lv_bipush (v := 9) hx hb dX11_begin_90 (by decide) ?_
    refine lv_icmp_ge (tgt := 118) hx hb dX11_begin_92 (by decide) (fun c_ => absurd c_ (by decide)) (fun _ => ?_)
    refine lv_aload_n hx hb dX11_begin_95 rfl (lv_at hl 1 rfl) ?_
    refine va_get (D := G) (ci := 8) (v := .ref h2) (C := RX11) (T := TX11) (N := 42) hx hb hts iX11 hown hK hP 0 rfl rfl 12 (by decide) (hw (.fieldLink RX11 15 "MotionFloorModel$Hall" "majority" "[I") (List.mem_of_getElem? (i := 13) rfl)) (fun _ h9 => h9) rfl dX11_begin_96 ?_
    refine lv_iload_n hx hb dX11_begin_99 rfl (lv_at hl 0 rfl) ?_
    refine lv_iload_n hx hb dX11_begin_100 rfl (lv_at hl 0 rfl) ?_
    refine lv_bipush (v := 6) hx hb dX11_begin_101 (by decide) ?_
    refine lv_icmp_ne (tgt := 110) hx hb dX11_begin_103 (by decide) (fun c_ => absurd c_ (by decide)) (fun _ => ?_)
    refine lv_iconst (v := 2) hx hb dX11_begin_106 (by decide) ?_
    refine lv_goto (tgt := 111) hx hb dX11_begin_107 (by decide) ?_
    refine va_iast hx hb hK hP hD hS 2 0 rfl rfl (vp_in_iff.mpr (by decide)) dX11_begin_111 (fun H locs hP hD hS => ?_)
    have hP : va_P G vwCl [(h0, .inr (8, [.int p0, .int 0, .int (-1), .int 0, .int 0, .int (-1), .int 0, .int 0, .int 0, .int 0, .int 0, .ref h1, .ref h2, .ref h3, .ref h5, .ref h6, .ref h7, .ref h8, .ref h9, .ref h10, .ref h11, .ref h12, .ref h13, .ref h14, .ref h15, .ref h16, .ref h17, .ref h18, .ref h19, .ref h20, .int 0, .ref h21, .ref h22, .ref h23, .ref h4, .int 0, .int 0, .ref h24, .ref h25, .int (-1), .ref h26, .ref h27])), (h1, .inl (K 1, 200, .inl (fun _ => 0))), (h2, .inl (K 0, 9, .inl (upd (upd (upd (upd (upd (upd (upd (upd (fun _ => 1) 6 2) 0 1) 1 1) 2 1) 3 1) 4 1) 5 1) 6 2))), (h3, .inl (K 1, 90, .inl (fun _ => 0))), (h4, .inl (K 0, 8, .inl (fun _ => 0)))] _ := hP
    have hD : va_D A [(h0, .inr (8, [.int p0, .int 0, .int (-1), .int 0, .int 0, .int (-1), .int 0, .int 0, .int 0, .int 0, .int 0, .ref h1, .ref h2, .ref h3, .ref h5, .ref h6, .ref h7, .ref h8, .ref h9, .ref h10, .ref h11, .ref h12, .ref h13, .ref h14, .ref h15, .ref h16, .ref h17, .ref h18, .ref h19, .ref h20, .int 0, .ref h21, .ref h22, .ref h23, .ref h4, .int 0, .int 0, .ref h24, .ref h25, .int (-1), .ref h26, .ref h27])), (h1, .inl (K 1, 200, .inl (fun _ => 0))), (h2, .inl (K 0, 9, .inl (upd (upd (upd (upd (upd (upd (upd (upd (fun _ => 1) 6 2) 0 1) 1 1) 2 1) 3 1) 4 1) 5 1) 6 2))), (h3, .inl (K 1, 90, .inl (fun _ => 0))), (h4, .inl (K 0, 8, .inl (fun _ => 0)))] := hD
    refine lv_iinc (v := 7) (lv' := [(2, .int 7), (0, .ref h0), (1, .int p0)]) hx hb dX11_begin_112 hl (k := 0) rfl (by decide) (by decide) rfl (fun ls hl => ?_)
    refine lv_goto (tgt := 89) hx hb dX11_begin_115 (by decide) ?_
    refine lv_iload_n hx hb dX11_begin_89 rfl (lv_at hl 0 rfl) ?_
    refine lv_bipush (v := 9) hx hb dX11_begin_90 (by decide) ?_
    refine lv_icmp_ge (tgt := 118) hx hb dX11_begin_92 (by decide) (fun c_ => absurd c_ (by decide)) (fun _ => ?_)
    refine lv_aload_n hx hb dX11_begin_95 rfl (lv_at hl 1 rfl) ?_
    refine va_get (D := G) (ci := 8) (v := .ref h2) (C := RX11) (T := TX11) (N := 42) hx hb hts iX11 hown hK hP 0 rfl rfl 12 (by decide) (hw (.fieldLink RX11 15 "MotionFloorModel$Hall" "majority" "[I") (List.mem_of_getElem? (i := 13) rfl)) (fun _ h9 => h9) rfl dX11_begin_96 ?_
    refine lv_iload_n hx hb dX11_begin_99 rfl (lv_at hl 0 rfl) ?_
    refine lv_iload_n hx hb dX11_begin_100 rfl (lv_at hl 0 rfl) ?_
    refine lv_bipush (v := 6) hx hb dX11_begin_101 (by decide) ?_
    refine lv_icmp_ne (tgt := 110) hx hb dX11_begin_103 (by decide) (fun _ => ?_) (fun c_ => absurd c_ (by decide))
    refine lv_iconst (v := 1) hx hb dX11_begin_110 (by decide) ?_
    refine va_iast hx hb hK hP hD hS 2 0 rfl rfl (vp_in_iff.mpr (by decide)) dX11_begin_111 (fun H locs hP hD hS => ?_)
    have hP : va_P G vwCl [(h0, .inr (8, [.int p0, .int 0, .int (-1), .int 0, .int 0, .int (-1), .int 0, .int 0, .int 0, .int 0, .int 0, .ref h1, .ref h2, .ref h3, .ref h5, .ref h6, .ref h7, .ref h8, .ref h9, .ref h10, .ref h11, .ref h12, .ref h13, .ref h14, .ref h15, .ref h16, .ref h17, .ref h18, .ref h19, .ref h20, .int 0, .ref h21, .ref h22, .ref h23, .ref h4, .int 0, .int 0, .ref h24, .ref h25, .int (-1), .ref h26, .ref h27])), (h1, .inl (K 1, 200, .inl (fun _ => 0))), (h2, .inl (K 0, 9, .inl (upd (upd (upd (upd (upd (upd (upd (upd (upd (fun _ => 1) 6 2) 0 1) 1 1) 2 1) 3 1) 4 1) 5 1) 6 2) 7 1))), (h3, .inl (K 1, 90, .inl (fun _ => 0))), (h4, .inl (K 0, 8, .inl (fun _ => 0)))] _ := hP
    have hD : va_D A [(h0, .inr (8, [.int p0, .int 0, .int (-1), .int 0, .int 0, .int (-1), .int 0, .int 0, .int 0, .int 0, .int 0, .ref h1, .ref h2, .ref h3, .ref h5, .ref h6, .ref h7, .ref h8, .ref h9, .ref h10, .ref h11, .ref h12, .ref h13, .ref h14, .ref h15, .ref h16, .ref h17, .ref h18, .ref h19, .ref h20, .int 0, .ref h21, .ref h22, .ref h23, .ref h4, .int 0, .int 0, .ref h24, .ref h25, .int (-1), .ref h26, .ref h27])), (h1, .inl (K 1, 200, .inl (fun _ => 0))), (h2, .inl (K 0, 9, .inl (upd (upd (upd (upd (upd (upd (upd (upd (upd (fun _ => 1) 6 2) 0 1) 1 1) 2 1) 3 1) 4 1) 5 1) 6 2) 7 1))), (h3, .inl (K 1, 90, .inl (fun _ => 0))), (h4, .inl (K 0, 8, .inl (fun _ => 0)))] := hD
    refine lv_iinc (v := 8) (lv' := [(2, .int 8), (0, .ref h0), (1, .int p0)]) hx hb dX11_begin_112 hl (k := 0) rfl (by decide) (by decide) rfl (fun ls hl => ?_)
    refine lv_goto (tgt := 89) hx hb dX11_begin_115 (by decide) ?_
    refine lv_iload_n hx hb dX11_begin_89 rfl (lv_at hl 0 rfl) ?_
    refine lv_bipush (v := 9) hx hb dX11_begin_90 (by decide) ?_
    refine lv_icmp_ge (tgt := 118) hx hb dX11_begin_92 (by decide) (fun c_ => absurd c_ (by decide)) (fun _ => ?_)
    refine lv_aload_n hx hb dX11_begin_95 rfl (lv_at hl 1 rfl) ?_
    refine va_get (D := G) (ci := 8) (v := .ref h2) (C := RX11) (T := TX11) (N := 42) hx hb hts iX11 hown hK hP 0 rfl rfl 12 (by decide) (hw (.fieldLink RX11 15 "MotionFloorModel$Hall" "majority" "[I") (List.mem_of_getElem? (i := 13) rfl)) (fun _ h9 => h9) rfl dX11_begin_96 ?_
    refine lv_iload_n hx hb dX11_begin_99 rfl (lv_at hl 0 rfl) ?_
    refine lv_iload_n hx hb dX11_begin_100 rfl (lv_at hl 0 rfl) ?_
    refine lv_bipush (v := 6) hx hb dX11_begin_101 (by decide) ?_
    refine lv_icmp_ne (tgt := 110) hx hb dX11_begin_103 (by decide) (fun _ => ?_) (fun c_ => absurd c_ (by decide))
    refine lv_iconst (v := 1) hx hb dX11_begin_110 (by decide) ?_
    refine va_iast hx hb hK hP hD hS 2 0 rfl rfl (vp_in_iff.mpr (by decide)) dX11_begin_111 (fun H locs hP hD hS => ?_)
    have hP : va_P G vwCl [(h0, .inr (8, [.int p0, .int 0, .int (-1), .int 0, .int 0, .int (-1), .int 0, .int 0, .int 0, .int 0, .int 0, .ref h1, .ref h2, .ref h3, .ref h5, .ref h6, .ref h7, .ref h8, .ref h9, .ref h10, .ref h11, .ref h12, .ref h13, .ref h14, .ref h15, .ref h16, .ref h17, .ref h18, .ref h19, .ref h20, .int 0, .ref h21, .ref h22, .ref h23, .ref h4, .int 0, .int 0, .ref h24, .ref h25, .int (-1), .ref h26, .ref h27])), (h1, .inl (K 1, 200, .inl (fun _ => 0))), (h2, .inl (K 0, 9, .inl (upd (upd (upd (upd (upd (upd (upd (upd (upd (upd (fun _ => 1) 6 2) 0 1) 1 1) 2 1) 3 1) 4 1) 5 1) 6 2) 7 1) 8 1))), (h3, .inl (K 1, 90, .inl (fun _ => 0))), (h4, .inl (K 0, 8, .inl (fun _ => 0)))] _ := hP
    have hD : va_D A [(h0, .inr (8, [.int p0, .int 0, .int (-1), .int 0, .int 0, .int (-1), .int 0, .int 0, .int 0, .int 0, .int 0, .ref h1, .ref h2, .ref h3, .ref h5, .ref h6, .ref h7, .ref h8, .ref h9, .ref h10, .ref h11, .ref h12, .ref h13, .ref h14, .ref h15, .ref h16, .ref h17, .ref h18, .ref h19, .ref h20, .int 0, .ref h21, .ref h22, .ref h23, .ref h4, .int 0, .int 0, .ref h24, .ref h25, .int (-1), .ref h26, .ref h27])), (h1, .inl (K 1, 200, .inl (fun _ => 0))), (h2, .inl (K 0, 9, .inl (upd (upd (upd (upd (upd (upd (upd (upd (upd (upd (fun _ => 1) 6 2) 0 1) 1 1) 2 1) 3 1) 4 1) 5 1) 6 2) 7 1) 8 1))), (h3, .inl (K 1, 90, .inl (fun _ => 0))), (h4, .inl (K 0, 8, .inl (fun _ => 0)))] := hD
    have hP9 := wConP hP hD 2 (upd (fun _ => 1) 6 2) rfl (by decide)
    have hD := va_D.set (p := 2) (e := .inl (K 0, 9, .inl (upd (fun _ => 1) 6 2))) hD rfl
    have hP : va_P G vwCl [(h0, .inr (8, [.int p0, .int 0, .int (-1), .int 0, .int 0, .int (-1), .int 0, .int 0, .int 0, .int 0, .int 0, .ref h1, .ref h2, .ref h3, .ref h5, .ref h6, .ref h7, .ref h8, .ref h9, .ref h10, .ref h11, .ref h12, .ref h13, .ref h14, .ref h15, .ref h16, .ref h17, .ref h18, .ref h19, .ref h20, .int 0, .ref h21, .ref h22, .ref h23, .ref h4, .int 0, .int 0, .ref h24, .ref h25, .int (-1), .ref h26, .ref h27])), (h1, .inl (K 1, 200, .inl (fun _ => 0))), (h2, .inl (K 0, 9, .inl (upd (fun _ => 1) 6 2))), (h3, .inl (K 1, 90, .inl (fun _ => 0))), (h4, .inl (K 0, 8, .inl (fun _ => 0)))] _ := hP9
    have hD : va_D A [(h0, .inr (8, [.int p0, .int 0, .int (-1), .int 0, .int 0, .int (-1), .int 0, .int 0, .int 0, .int 0, .int 0, .ref h1, .ref h2, .ref h3, .ref h5, .ref h6, .ref h7, .ref h8, .ref h9, .ref h10, .ref h11, .ref h12, .ref h13, .ref h14, .ref h15, .ref h16, .ref h17, .ref h18, .ref h19, .ref h20, .int 0, .ref h21, .ref h22, .ref h23, .ref h4, .int 0, .int 0, .ref h24, .ref h25, .int (-1), .ref h26, .ref h27])), (h1, .inl (K 1, 200, .inl (fun _ => 0))), (h2, .inl (K 0, 9, .inl (upd (fun _ => 1) 6 2))), (h3, .inl (K 1, 90, .inl (fun _ => 0))), (h4, .inl (K 0, 8, .inl (fun _ => 0)))] := hD
    refine lv_iinc (v := 9) (lv' := [(2, .int 9), (0, .ref h0), (1, .int p0)]) hx hb dX11_begin_112 hl (k := 0) rfl (by decide) (by decide) rfl (fun ls hl => ?_)
    refine lv_goto (tgt := 89) hx hb dX11_begin_115 (by decide) ?_
    refine lv_iload_n hx hb dX11_begin_89 rfl (lv_at hl 0 rfl) ?_
    refine lv_bipush (v := 9) hx hb dX11_begin_90 (by decide) ?_
    refine lv_icmp_ge (tgt := 118) hx hb dX11_begin_92 (by decide) (fun _ => ?_) (fun c_ => absurd c_ (by decide))
    refine lv_iconst (v := 0) hx hb dX11_begin_118 (by decide) ?_
    refine lv_istore_n (lv' := [(2, .int 0), (0, .ref h0), (1, .int p0)]) hx hb dX11_begin_119 rfl hl (by decide) rfl (fun ls hl => ?_)
    have hl : lv_has ls 3 [(2, .int (nI 0)), (0, .ref h0), (1, .int p0)] := lv_sub hl [0, 1, 2] rfl
    refine wUp 90 (fun i ls H locs => va_P G vwCl [(h0, .inr (8, [.int p0, .int 0, .int (-1), .int 0, .int 0, .int (-1), .int 0, .int 0, .int 0, .int 0, .int 0, .ref h1, .ref h2, .ref h3, .ref h5, .ref h6, .ref h7, .ref h8, .ref h9, .ref h10, .ref h11, .ref h12, .ref h13, .ref h14, .ref h15, .ref h16, .ref h17, .ref h18, .ref h19, .ref h20, .int 0, .ref h21, .ref h22, .ref h23, .ref h4, .int 0, .int 0, .ref h24, .ref h25, .int (-1), .ref h26, .ref h27])), (h1, .inl (K 1, 200, .inl (fun _ => 0))), (h2, .inl (K 0, 9, .inl (upd (fun _ => 1) 6 2))), (h3, .inl (K 1, 90, .inl (fun _ => 0))), (h4, .inl (K 0, 8, .inl (fun _ => 0)))] H ∧ va_D A [(h0, .inr (8, [.int p0, .int 0, .int (-1), .int 0, .int 0, .int (-1), .int 0, .int 0, .int 0, .int 0, .int 0, .ref h1, .ref h2, .ref h3, .ref h5, .ref h6, .ref h7, .ref h8, .ref h9, .ref h10, .ref h11, .ref h12, .ref h13, .ref h14, .ref h15, .ref h16, .ref h17, .ref h18, .ref h19, .ref h20, .int 0, .ref h21, .ref h22, .ref h23, .ref h4, .int 0, .int 0, .ref h24, .ref h25, .int (-1), .ref h26, .ref h27])), (h1, .inl (K 1, 200, .inl (fun _ => 0))), (h2, .inl (K 0, 9, .inl (upd (fun _ => 1) 6 2))), (h3, .inl (K 1, 90, .inl (fun _ => 0))), (h4, .inl (K 0, 8, .inl (fun _ => 0)))] ∧ va_S A s.heap H locs ∧ lv_has ls 3 [(2, .int (nI i)), (0, .ref h0), (1, .int p0)]) (fun ls H locs hi => ?_) (fun i ls H locs hi hq ih => ?_) ⟨hP, hD, hS, hl⟩
    · obtain ⟨hP, hD, hS, hl⟩ := hi
      have hl : lv_has ls 3 [(2, .int 90), (0, .ref h0), (1, .int p0)] := hl
      refine lv_iload_n hx hb dX11_begin_120 rfl (lv_at hl 0 rfl) ?_
      refine lv_bipush (v := 90) hx hb dX11_begin_121 (by decide) ?_
      refine lv_icmp_ge (tgt := 139) hx hb dX11_begin_123 (by decide) (fun _ => ?_) (fun c_ => absurd c_ (by decide))
      refine lv_iconst (v := 0) hx hb dX11_begin_139 (by decide) ?_
      refine lv_istore_n (lv' := [(2, .int 0), (0, .ref h0), (1, .int p0)]) hx hb dX11_begin_140 rfl hl (by decide) rfl (fun ls hl => ?_)
      refine lv_iload_n hx hb dX11_begin_141 rfl (lv_at hl 0 rfl) ?_
      refine lv_bipush (v := 8) hx hb dX11_begin_142 (by decide) ?_
      refine lv_icmp_ge (tgt := 160) hx hb dX11_begin_144 (by decide) (fun c_ => absurd c_ (by decide)) (fun _ => ?_)
      refine lv_aload_n hx hb dX11_begin_147 rfl (lv_at hl 1 rfl) ?_
      refine va_get (D := G) (ci := 8) (v := .ref h4) (C := RX11) (T := TX11) (N := 42) hx hb hts iX11 hown hK hP 0 rfl rfl 34 (by decide) (hw (.fieldLink RX11 81 "MotionFloorModel$Hall" "lying" "[I") (List.mem_of_getElem? (i := 14) rfl)) (fun _ h9 => h9) rfl dX11_begin_148 ?_
      refine lv_iload_n hx hb dX11_begin_151 rfl (lv_at hl 0 rfl) ?_
      refine lv_iconst (v := 0) hx hb dX11_begin_152 (by decide) ?_
      refine va_iast hx hb hK hP hD hS 4 0 rfl rfl (vp_in_iff.mpr (by decide)) dX11_begin_153 (fun H locs hP hD hS => ?_)
      rw [wUpd0] at hP hD
      have hP : va_P G vwCl [(h0, .inr (8, [.int p0, .int 0, .int (-1), .int 0, .int 0, .int (-1), .int 0, .int 0, .int 0, .int 0, .int 0, .ref h1, .ref h2, .ref h3, .ref h5, .ref h6, .ref h7, .ref h8, .ref h9, .ref h10, .ref h11, .ref h12, .ref h13, .ref h14, .ref h15, .ref h16, .ref h17, .ref h18, .ref h19, .ref h20, .int 0, .ref h21, .ref h22, .ref h23, .ref h4, .int 0, .int 0, .ref h24, .ref h25, .int (-1), .ref h26, .ref h27])), (h1, .inl (K 1, 200, .inl (fun _ => 0))), (h2, .inl (K 0, 9, .inl (upd (fun _ => 1) 6 2))), (h3, .inl (K 1, 90, .inl (fun _ => 0))), (h4, .inl (K 0, 8, .inl (fun _ => 0)))] _ := hP
      have hD : va_D A [(h0, .inr (8, [.int p0, .int 0, .int (-1), .int 0, .int 0, .int (-1), .int 0, .int 0, .int 0, .int 0, .int 0, .ref h1, .ref h2, .ref h3, .ref h5, .ref h6, .ref h7, .ref h8, .ref h9, .ref h10, .ref h11, .ref h12, .ref h13, .ref h14, .ref h15, .ref h16, .ref h17, .ref h18, .ref h19, .ref h20, .int 0, .ref h21, .ref h22, .ref h23, .ref h4, .int 0, .int 0, .ref h24, .ref h25, .int (-1), .ref h26, .ref h27])), (h1, .inl (K 1, 200, .inl (fun _ => 0))), (h2, .inl (K 0, 9, .inl (upd (fun _ => 1) 6 2))), (h3, .inl (K 1, 90, .inl (fun _ => 0))), (h4, .inl (K 0, 8, .inl (fun _ => 0)))] := hD
      refine lv_iinc (v := 1) (lv' := [(2, .int 1), (0, .ref h0), (1, .int p0)]) hx hb dX11_begin_154 hl (k := 0) rfl (by decide) (by decide) rfl (fun ls hl => ?_)
      refine lv_goto (tgt := 141) hx hb dX11_begin_157 (by decide) ?_
      refine lv_iload_n hx hb dX11_begin_141 rfl (lv_at hl 0 rfl) ?_
      refine lv_bipush (v := 8) hx hb dX11_begin_142 (by decide) ?_
      refine lv_icmp_ge (tgt := 160) hx hb dX11_begin_144 (by decide) (fun c_ => absurd c_ (by decide)) (fun _ => ?_)
      refine lv_aload_n hx hb dX11_begin_147 rfl (lv_at hl 1 rfl) ?_
      refine va_get (D := G) (ci := 8) (v := .ref h4) (C := RX11) (T := TX11) (N := 42) hx hb hts iX11 hown hK hP 0 rfl rfl 34 (by decide) (hw (.fieldLink RX11 81 "MotionFloorModel$Hall" "lying" "[I") (List.mem_of_getElem? (i := 14) rfl)) (fun _ h9 => h9) rfl dX11_begin_148 ?_
      refine lv_iload_n hx hb dX11_begin_151 rfl (lv_at hl 0 rfl) ?_
      refine lv_iconst (v := 0) hx hb dX11_begin_152 (by decide) ?_
      refine va_iast hx hb hK hP hD hS 4 0 rfl rfl (vp_in_iff.mpr (by decide)) dX11_begin_153 (fun H locs hP hD hS => ?_)
      rw [wUpd0] at hP hD
      have hP : va_P G vwCl [(h0, .inr (8, [.int p0, .int 0, .int (-1), .int 0, .int 0, .int (-1), .int 0, .int 0, .int 0, .int 0, .int 0, .ref h1, .ref h2, .ref h3, .ref h5, .ref h6, .ref h7, .ref h8, .ref h9, .ref h10, .ref h11, .ref h12, .ref h13, .ref h14, .ref h15, .ref h16, .ref h17, .ref h18, .ref h19, .ref h20, .int 0, .ref h21, .ref h22, .ref h23, .ref h4, .int 0, .int 0, .ref h24, .ref h25, .int (-1), .ref h26, .ref h27])), (h1, .inl (K 1, 200, .inl (fun _ => 0))), (h2, .inl (K 0, 9, .inl (upd (fun _ => 1) 6 2))), (h3, .inl (K 1, 90, .inl (fun _ => 0))), (h4, .inl (K 0, 8, .inl (fun _ => 0)))] _ := hP
      have hD : va_D A [(h0, .inr (8, [.int p0, .int 0, .int (-1), .int 0, .int 0, .int (-1), .int 0, .int 0, .int 0, .int 0, .int 0, .ref h1, .ref h2, .ref h3, .ref h5, .ref h6, .ref h7, .ref h8, .ref h9, .ref h10, .ref h11, .ref h12, .ref h13, .ref h14, .ref h15, .ref h16, .ref h17, .ref h18, .ref h19, .ref h20, .int 0, .ref h21, .ref h22, .ref h23, .ref h4, .int 0, .int 0, .ref h24, .ref h25, .int (-1), .ref h26, .ref h27])), (h1, .inl (K 1, 200, .inl (fun _ => 0))), (h2, .inl (K 0, 9, .inl (upd (fun _ => 1) 6 2))), (h3, .inl (K 1, 90, .inl (fun _ => 0))), (h4, .inl (K 0, 8, .inl (fun _ => 0)))] := hD
      refine lv_iinc (v := 2) (lv' := [(2, .int 2), (0, .ref h0), (1, .int p0)]) hx hb dX11_begin_154 hl (k := 0) rfl (by decide) (by decide) rfl (fun ls hl => ?_)
      refine lv_goto (tgt := 141) hx hb dX11_begin_157 (by decide) ?_
      refine lv_iload_n hx hb dX11_begin_141 rfl (lv_at hl 0 rfl) ?_
      refine lv_bipush (v := 8) hx hb dX11_begin_142 (by decide) ?_
      refine lv_icmp_ge (tgt := 160) hx hb dX11_begin_144 (by decide) (fun c_ => absurd c_ (by decide)) (fun _ => ?_)
      refine lv_aload_n hx hb dX11_begin_147 rfl (lv_at hl 1 rfl) ?_
      refine va_get (D := G) (ci := 8) (v := .ref h4) (C := RX11) (T := TX11) (N := 42) hx hb hts iX11 hown hK hP 0 rfl rfl 34 (by decide) (hw (.fieldLink RX11 81 "MotionFloorModel$Hall" "lying" "[I") (List.mem_of_getElem? (i := 14) rfl)) (fun _ h9 => h9) rfl dX11_begin_148 ?_
      refine lv_iload_n hx hb dX11_begin_151 rfl (lv_at hl 0 rfl) ?_
      refine lv_iconst (v := 0) hx hb dX11_begin_152 (by decide) ?_
      refine va_iast hx hb hK hP hD hS 4 0 rfl rfl (vp_in_iff.mpr (by decide)) dX11_begin_153 (fun H locs hP hD hS => ?_)
      rw [wUpd0] at hP hD
      have hP : va_P G vwCl [(h0, .inr (8, [.int p0, .int 0, .int (-1), .int 0, .int 0, .int (-1), .int 0, .int 0, .int 0, .int 0, .int 0, .ref h1, .ref h2, .ref h3, .ref h5, .ref h6, .ref h7, .ref h8, .ref h9, .ref h10, .ref h11, .ref h12, .ref h13, .ref h14, .ref h15, .ref h16, .ref h17, .ref h18, .ref h19, .ref h20, .int 0, .ref h21, .ref h22, .ref h23, .ref h4, .int 0, .int 0, .ref h24, .ref h25, .int (-1), .ref h26, .ref h27])), (h1, .inl (K 1, 200, .inl (fun _ => 0))), (h2, .inl (K 0, 9, .inl (upd (fun _ => 1) 6 2))), (h3, .inl (K 1, 90, .inl (fun _ => 0))), (h4, .inl (K 0, 8, .inl (fun _ => 0)))] _ := hP
      have hD : va_D A [(h0, .inr (8, [.int p0, .int 0, .int (-1), .int 0, .int 0, .int (-1), .int 0, .int 0, .int 0, .int 0, .int 0, .ref h1, .ref h2, .ref h3, .ref h5, .ref h6, .ref h7, .ref h8, .ref h9, .ref h10, .ref h11, .ref h12, .ref h13, .ref h14, .ref h15, .ref h16, .ref h17, .ref h18, .ref h19, .ref h20, .int 0, .ref h21, .ref h22, .ref h23, .ref h4, .int 0, .int 0, .ref h24, .ref h25, .int (-1), .ref h26, .ref h27])), (h1, .inl (K 1, 200, .inl (fun _ => 0))), (h2, .inl (K 0, 9, .inl (upd (fun _ => 1) 6 2))), (h3, .inl (K 1, 90, .inl (fun _ => 0))), (h4, .inl (K 0, 8, .inl (fun _ => 0)))] := hD
      refine lv_iinc (v := 3) (lv' := [(2, .int 3), (0, .ref h0), (1, .int p0)]) hx hb dX11_begin_154 hl (k := 0) rfl (by decide) (by decide) rfl (fun ls hl => ?_)
      refine lv_goto (tgt := 141) hx hb dX11_begin_157 (by decide) ?_
      refine lv_iload_n hx hb dX11_begin_141 rfl (lv_at hl 0 rfl) ?_
      refine lv_bipush (v := 8) hx hb dX11_begin_142 (by decide) ?_
      refine lv_icmp_ge (tgt := 160) hx hb dX11_begin_144 (by decide) (fun c_ => absurd c_ (by decide)) (fun _ => ?_)
      refine lv_aload_n hx hb dX11_begin_147 rfl (lv_at hl 1 rfl) ?_
      refine va_get (D := G) (ci := 8) (v := .ref h4) (C := RX11) (T := TX11) (N := 42) hx hb hts iX11 hown hK hP 0 rfl rfl 34 (by decide) (hw (.fieldLink RX11 81 "MotionFloorModel$Hall" "lying" "[I") (List.mem_of_getElem? (i := 14) rfl)) (fun _ h9 => h9) rfl dX11_begin_148 ?_
      refine lv_iload_n hx hb dX11_begin_151 rfl (lv_at hl 0 rfl) ?_
      refine lv_iconst (v := 0) hx hb dX11_begin_152 (by decide) ?_
      refine va_iast hx hb hK hP hD hS 4 0 rfl rfl (vp_in_iff.mpr (by decide)) dX11_begin_153 (fun H locs hP hD hS => ?_)
      rw [wUpd0] at hP hD
      have hP : va_P G vwCl [(h0, .inr (8, [.int p0, .int 0, .int (-1), .int 0, .int 0, .int (-1), .int 0, .int 0, .int 0, .int 0, .int 0, .ref h1, .ref h2, .ref h3, .ref h5, .ref h6, .ref h7, .ref h8, .ref h9, .ref h10, .ref h11, .ref h12, .ref h13, .ref h14, .ref h15, .ref h16, .ref h17, .ref h18, .ref h19, .ref h20, .int 0, .ref h21, .ref h22, .ref h23, .ref h4, .int 0, .int 0, .ref h24, .ref h25, .int (-1), .ref h26, .ref h27])), (h1, .inl (K 1, 200, .inl (fun _ => 0))), (h2, .inl (K 0, 9, .inl (upd (fun _ => 1) 6 2))), (h3, .inl (K 1, 90, .inl (fun _ => 0))), (h4, .inl (K 0, 8, .inl (fun _ => 0)))] _ := hP
      have hD : va_D A [(h0, .inr (8, [.int p0, .int 0, .int (-1), .int 0, .int 0, .int (-1), .int 0, .int 0, .int 0, .int 0, .int 0, .ref h1, .ref h2, .ref h3, .ref h5, .ref h6, .ref h7, .ref h8, .ref h9, .ref h10, .ref h11, .ref h12, .ref h13, .ref h14, .ref h15, .ref h16, .ref h17, .ref h18, .ref h19, .ref h20, .int 0, .ref h21, .ref h22, .ref h23, .ref h4, .int 0, .int 0, .ref h24, .ref h25, .int (-1), .ref h26, .ref h27])), (h1, .inl (K 1, 200, .inl (fun _ => 0))), (h2, .inl (K 0, 9, .inl (upd (fun _ => 1) 6 2))), (h3, .inl (K 1, 90, .inl (fun _ => 0))), (h4, .inl (K 0, 8, .inl (fun _ => 0)))] := hD
      refine lv_iinc (v := 4) (lv' := [(2, .int 4), (0, .ref h0), (1, .int p0)]) hx hb dX11_begin_154 hl (k := 0) rfl (by decide) (by decide) rfl (fun ls hl => ?_)
      refine lv_goto (tgt := 141) hx hb dX11_begin_157 (by decide) ?_
      refine lv_iload_n hx hb dX11_begin_141 rfl (lv_at hl 0 rfl) ?_
      refine lv_bipush (v := 8) hx hb dX11_begin_142 (by decide) ?_
      refine lv_icmp_ge (tgt := 160) hx hb dX11_begin_144 (by decide) (fun c_ => absurd c_ (by decide)) (fun _ => ?_)
      refine lv_aload_n hx hb dX11_begin_147 rfl (lv_at hl 1 rfl) ?_
      refine va_get (D := G) (ci := 8) (v := .ref h4) (C := RX11) (T := TX11) (N := 42) hx hb hts iX11 hown hK hP 0 rfl rfl 34 (by decide) (hw (.fieldLink RX11 81 "MotionFloorModel$Hall" "lying" "[I") (List.mem_of_getElem? (i := 14) rfl)) (fun _ h9 => h9) rfl dX11_begin_148 ?_
      refine lv_iload_n hx hb dX11_begin_151 rfl (lv_at hl 0 rfl) ?_
      refine lv_iconst (v := 0) hx hb dX11_begin_152 (by decide) ?_
      refine va_iast hx hb hK hP hD hS 4 0 rfl rfl (vp_in_iff.mpr (by decide)) dX11_begin_153 (fun H locs hP hD hS => ?_)
      rw [wUpd0] at hP hD
      have hP : va_P G vwCl [(h0, .inr (8, [.int p0, .int 0, .int (-1), .int 0, .int 0, .int (-1), .int 0, .int 0, .int 0, .int 0, .int 0, .ref h1, .ref h2, .ref h3, .ref h5, .ref h6, .ref h7, .ref h8, .ref h9, .ref h10, .ref h11, .ref h12, .ref h13, .ref h14, .ref h15, .ref h16, .ref h17, .ref h18, .ref h19, .ref h20, .int 0, .ref h21, .ref h22, .ref h23, .ref h4, .int 0, .int 0, .ref h24, .ref h25, .int (-1), .ref h26, .ref h27])), (h1, .inl (K 1, 200, .inl (fun _ => 0))), (h2, .inl (K 0, 9, .inl (upd (fun _ => 1) 6 2))), (h3, .inl (K 1, 90, .inl (fun _ => 0))), (h4, .inl (K 0, 8, .inl (fun _ => 0)))] _ := hP
      have hD : va_D A [(h0, .inr (8, [.int p0, .int 0, .int (-1), .int 0, .int 0, .int (-1), .int 0, .int 0, .int 0, .int 0, .int 0, .ref h1, .ref h2, .ref h3, .ref h5, .ref h6, .ref h7, .ref h8, .ref h9, .ref h10, .ref h11, .ref h12, .ref h13, .ref h14, .ref h15, .ref h16, .ref h17, .ref h18, .ref h19, .ref h20, .int 0, .ref h21, .ref h22, .ref h23, .ref h4, .int 0, .int 0, .ref h24, .ref h25, .int (-1), .ref h26, .ref h27])), (h1, .inl (K 1, 200, .inl (fun _ => 0))), (h2, .inl (K 0, 9, .inl (upd (fun _ => 1) 6 2))), (h3, .inl (K 1, 90, .inl (fun _ => 0))), (h4, .inl (K 0, 8, .inl (fun _ => 0)))] := hD
      refine lv_iinc (v := 5) (lv' := [(2, .int 5), (0, .ref h0), (1, .int p0)]) hx hb dX11_begin_154 hl (k := 0) rfl (by decide) (by decide) rfl (fun ls hl => ?_)
      refine lv_goto (tgt := 141) hx hb dX11_begin_157 (by decide) ?_
      refine lv_iload_n hx hb dX11_begin_141 rfl (lv_at hl 0 rfl) ?_
      refine lv_bipush (v := 8) hx hb dX11_begin_142 (by decide) ?_
      refine lv_icmp_ge (tgt := 160) hx hb dX11_begin_144 (by decide) (fun c_ => absurd c_ (by decide)) (fun _ => ?_)
      refine lv_aload_n hx hb dX11_begin_147 rfl (lv_at hl 1 rfl) ?_
      refine va_get (D := G) (ci := 8) (v := .ref h4) (C := RX11) (T := TX11) (N := 42) hx hb hts iX11 hown hK hP 0 rfl rfl 34 (by decide) (hw (.fieldLink RX11 81 "MotionFloorModel$Hall" "lying" "[I") (List.mem_of_getElem? (i := 14) rfl)) (fun _ h9 => h9) rfl dX11_begin_148 ?_
      refine lv_iload_n hx hb dX11_begin_151 rfl (lv_at hl 0 rfl) ?_
      refine lv_iconst (v := 0) hx hb dX11_begin_152 (by decide) ?_
      refine va_iast hx hb hK hP hD hS 4 0 rfl rfl (vp_in_iff.mpr (by decide)) dX11_begin_153 (fun H locs hP hD hS => ?_)
      rw [wUpd0] at hP hD
      have hP : va_P G vwCl [(h0, .inr (8, [.int p0, .int 0, .int (-1), .int 0, .int 0, .int (-1), .int 0, .int 0, .int 0, .int 0, .int 0, .ref h1, .ref h2, .ref h3, .ref h5, .ref h6, .ref h7, .ref h8, .ref h9, .ref h10, .ref h11, .ref h12, .ref h13, .ref h14, .ref h15, .ref h16, .ref h17, .ref h18, .ref h19, .ref h20, .int 0, .ref h21, .ref h22, .ref h23, .ref h4, .int 0, .int 0, .ref h24, .ref h25, .int (-1), .ref h26, .ref h27])), (h1, .inl (K 1, 200, .inl (fun _ => 0))), (h2, .inl (K 0, 9, .inl (upd (fun _ => 1) 6 2))), (h3, .inl (K 1, 90, .inl (fun _ => 0))), (h4, .inl (K 0, 8, .inl (fun _ => 0)))] _ := hP
      have hD : va_D A [(h0, .inr (8, [.int p0, .int 0, .int (-1), .int 0, .int 0, .int (-1), .int 0, .int 0, .int 0, .int 0, .int 0, .ref h1, .ref h2, .ref h3, .ref h5, .ref h6, .ref h7, .ref h8, .ref h9, .ref h10, .ref h11, .ref h12, .ref h13, .ref h14, .ref h15, .ref h16, .ref h17, .ref h18, .ref h19, .ref h20, .int 0, .ref h21, .ref h22, .ref h23, .ref h4, .int 0, .int 0, .ref h24, .ref h25, .int (-1), .ref h26, .ref h27])), (h1, .inl (K 1, 200, .inl (fun _ => 0))), (h2, .inl (K 0, 9, .inl (upd (fun _ => 1) 6 2))), (h3, .inl (K 1, 90, .inl (fun _ => 0))), (h4, .inl (K 0, 8, .inl (fun _ => 0)))] := hD
      refine lv_iinc (v := 6) (lv' := [(2, .int 6), (0, .ref h0), (1, .int p0)]) hx hb dX11_begin_154 hl (k := 0) rfl (by decide) (by decide) rfl (fun ls hl => ?_)
      refine lv_goto (tgt := 141) hx hb dX11_begin_157 (by decide) ?_
      refine lv_iload_n hx hb dX11_begin_141 rfl (lv_at hl 0 rfl) ?_
      refine lv_bipush (v := 8) hx hb dX11_begin_142 (by decide) ?_
      refine lv_icmp_ge (tgt := 160) hx hb dX11_begin_144 (by decide) (fun c_ => absurd c_ (by decide)) (fun _ => ?_)
      refine lv_aload_n hx hb dX11_begin_147 rfl (lv_at hl 1 rfl) ?_
      refine va_get (D := G) (ci := 8) (v := .ref h4) (C := RX11) (T := TX11) (N := 42) hx hb hts iX11 hown hK hP 0 rfl rfl 34 (by decide) (hw (.fieldLink RX11 81 "MotionFloorModel$Hall" "lying" "[I") (List.mem_of_getElem? (i := 14) rfl)) (fun _ h9 => h9) rfl dX11_begin_148 ?_
      refine lv_iload_n hx hb dX11_begin_151 rfl (lv_at hl 0 rfl) ?_
      refine lv_iconst (v := 0) hx hb dX11_begin_152 (by decide) ?_
      refine va_iast hx hb hK hP hD hS 4 0 rfl rfl (vp_in_iff.mpr (by decide)) dX11_begin_153 (fun H locs hP hD hS => ?_)
      rw [wUpd0] at hP hD
      have hP : va_P G vwCl [(h0, .inr (8, [.int p0, .int 0, .int (-1), .int 0, .int 0, .int (-1), .int 0, .int 0, .int 0, .int 0, .int 0, .ref h1, .ref h2, .ref h3, .ref h5, .ref h6, .ref h7, .ref h8, .ref h9, .ref h10, .ref h11, .ref h12, .ref h13, .ref h14, .ref h15, .ref h16, .ref h17, .ref h18, .ref h19, .ref h20, .int 0, .ref h21, .ref h22, .ref h23, .ref h4, .int 0, .int 0, .ref h24, .ref h25, .int (-1), .ref h26, .ref h27])), (h1, .inl (K 1, 200, .inl (fun _ => 0))), (h2, .inl (K 0, 9, .inl (upd (fun _ => 1) 6 2))), (h3, .inl (K 1, 90, .inl (fun _ => 0))), (h4, .inl (K 0, 8, .inl (fun _ => 0)))] _ := hP
      have hD : va_D A [(h0, .inr (8, [.int p0, .int 0, .int (-1), .int 0, .int 0, .int (-1), .int 0, .int 0, .int 0, .int 0, .int 0, .ref h1, .ref h2, .ref h3, .ref h5, .ref h6, .ref h7, .ref h8, .ref h9, .ref h10, .ref h11, .ref h12, .ref h13, .ref h14, .ref h15, .ref h16, .ref h17, .ref h18, .ref h19, .ref h20, .int 0, .ref h21, .ref h22, .ref h23, .ref h4, .int 0, .int 0, .ref h24, .ref h25, .int (-1), .ref h26, .ref h27])), (h1, .inl (K 1, 200, .inl (fun _ => 0))), (h2, .inl (K 0, 9, .inl (upd (fun _ => 1) 6 2))), (h3, .inl (K 1, 90, .inl (fun _ => 0))), (h4, .inl (K 0, 8, .inl (fun _ => 0)))] := hD
      refine lv_iinc (v := 7) (lv' := [(2, .int 7), (0, .ref h0), (1, .int p0)]) hx hb dX11_begin_154 hl (k := 0) rfl (by decide) (by decide) rfl (fun ls hl => ?_)
      refine lv_goto (tgt := 141) hx hb dX11_begin_157 (by decide) ?_
      refine lv_iload_n hx hb dX11_begin_141 rfl (lv_at hl 0 rfl) ?_
      refine lv_bipush (v := 8) hx hb dX11_begin_142 (by decide) ?_
      refine lv_icmp_ge (tgt := 160) hx hb dX11_begin_144 (by decide) (fun c_ => absurd c_ (by decide)) (fun _ => ?_)
      refine lv_aload_n hx hb dX11_begin_147 rfl (lv_at hl 1 rfl) ?_
      refine va_get (D := G) (ci := 8) (v := .ref h4) (C := RX11) (T := TX11) (N := 42) hx hb hts iX11 hown hK hP 0 rfl rfl 34 (by decide) (hw (.fieldLink RX11 81 "MotionFloorModel$Hall" "lying" "[I") (List.mem_of_getElem? (i := 14) rfl)) (fun _ h9 => h9) rfl dX11_begin_148 ?_
      refine lv_iload_n hx hb dX11_begin_151 rfl (lv_at hl 0 rfl) ?_
      refine lv_iconst (v := 0) hx hb dX11_begin_152 (by decide) ?_
      refine va_iast hx hb hK hP hD hS 4 0 rfl rfl (vp_in_iff.mpr (by decide)) dX11_begin_153 (fun H locs hP hD hS => ?_)
      rw [wUpd0] at hP hD
      have hP : va_P G vwCl [(h0, .inr (8, [.int p0, .int 0, .int (-1), .int 0, .int 0, .int (-1), .int 0, .int 0, .int 0, .int 0, .int 0, .ref h1, .ref h2, .ref h3, .ref h5, .ref h6, .ref h7, .ref h8, .ref h9, .ref h10, .ref h11, .ref h12, .ref h13, .ref h14, .ref h15, .ref h16, .ref h17, .ref h18, .ref h19, .ref h20, .int 0, .ref h21, .ref h22, .ref h23, .ref h4, .int 0, .int 0, .ref h24, .ref h25, .int (-1), .ref h26, .ref h27])), (h1, .inl (K 1, 200, .inl (fun _ => 0))), (h2, .inl (K 0, 9, .inl (upd (fun _ => 1) 6 2))), (h3, .inl (K 1, 90, .inl (fun _ => 0))), (h4, .inl (K 0, 8, .inl (fun _ => 0)))] _ := hP
      have hD : va_D A [(h0, .inr (8, [.int p0, .int 0, .int (-1), .int 0, .int 0, .int (-1), .int 0, .int 0, .int 0, .int 0, .int 0, .ref h1, .ref h2, .ref h3, .ref h5, .ref h6, .ref h7, .ref h8, .ref h9, .ref h10, .ref h11, .ref h12, .ref h13, .ref h14, .ref h15, .ref h16, .ref h17, .ref h18, .ref h19, .ref h20, .int 0, .ref h21, .ref h22, .ref h23, .ref h4, .int 0, .int 0, .ref h24, .ref h25, .int (-1), .ref h26, .ref h27])), (h1, .inl (K 1, 200, .inl (fun _ => 0))), (h2, .inl (K 0, 9, .inl (upd (fun _ => 1) 6 2))), (h3, .inl (K 1, 90, .inl (fun _ => 0))), (h4, .inl (K 0, 8, .inl (fun _ => 0)))] := hD
      refine lv_iinc (v := 8) (lv' := [(2, .int 8), (0, .ref h0), (1, .int p0)]) hx hb dX11_begin_154 hl (k := 0) rfl (by decide) (by decide) rfl (fun ls hl => ?_)
      refine lv_goto (tgt := 141) hx hb dX11_begin_157 (by decide) ?_
      refine lv_iload_n hx hb dX11_begin_141 rfl (lv_at hl 0 rfl) ?_
      refine lv_bipush (v := 8) hx hb dX11_begin_142 (by decide) ?_
      refine lv_icmp_ge (tgt := 160) hx hb dX11_begin_144 (by decide) (fun _ => ?_) (fun c_ => absurd c_ (by decide))
      have hP9 : va_P G vwCl [(h0, .inr (8, [.int p0, .int 0, .int (-1), .int 0, .int 0, .int (-1), .int 0, .int 0, .int 0, .int 0, .int 0, .ref h1, .ref h2, .ref h3, .ref h5, .ref h6, .ref h7, .ref h8, .ref h9, .ref h10, .ref h11, .ref h12, .ref h13, .ref h14, .ref h15, .ref h16, .ref h17, .ref h18, .ref h19, .ref h20, .int 0, .ref h21, .ref h22, .ref h23, .ref h4, .int 0, .int 0, .ref h24, .ref h25, .int (-1), .ref h26, .ref h27])), (h1, .inl (K 1, 200, .inl (fun _ => 0))), (h2, .inl (K 0, 9, .inl (upd (fun _ => 1) 6 2))), (h3, .inl (K 1, 90, .inl (fun _ => 0))), (h4, .inl (K 0, 8, .inl (fun _ => 0)))] _ := hP
      have hD9 : va_D A [(h0, .inr (8, [.int p0, .int 0, .int (-1), .int 0, .int 0, .int (-1), .int 0, .int 0, .int 0, .int 0, .int 0, .ref h1, .ref h2, .ref h3, .ref h5, .ref h6, .ref h7, .ref h8, .ref h9, .ref h10, .ref h11, .ref h12, .ref h13, .ref h14, .ref h15, .ref h16, .ref h17, .ref h18, .ref h19, .ref h20, .int 0, .ref h21, .ref h22, .ref h23, .ref h4, .int 0, .int 0, .ref h24, .ref h25, .int (-1), .ref h26, .ref h27])), (h1, .inl (K 1, 200, .inl (fun _ => 0))), (h2, .inl (K 0, 9, .inl (upd (fun _ => 1) 6 2))), (h3, .inl (K 1, 90, .inl (fun _ => 0))), (h4, .inl (K 0, 8, .inl (fun _ => 0)))] := hD
      exact W.vret hx hb hr (fun t ht hW => ⟨⟨_, rfl, rfl, by rw [ht]; exact hP9, hD9⟩, hS.F ht⟩) hS.2.2 dX11_begin_160
    · obtain ⟨hP, hD, hS, hl⟩ := hq
      refine lv_iload_n hx hb dX11_begin_120 rfl (lv_at hl 0 rfl) ?_
      refine lv_bipush (v := 90) hx hb dX11_begin_121 (by decide) ?_
      refine lv_icmp_ge (tgt := 139) hx hb dX11_begin_123 (by decide) (fun c_ => absurd c_ (nI_ge (b := 90) hi (by decide))) (fun _ => ?_)
      refine lv_aload_n hx hb dX11_begin_126 rfl (lv_at hl 1 rfl) ?_
      refine va_get (D := G) (ci := 8) (v := .ref h3) (C := RX11) (T := TX11) (N := 42) hx hb hts iX11 hown hK hP 0 rfl rfl 13 (by decide) (hw (.fieldLink RX11 19 "MotionFloorModel$Hall" "used" "[Z") (List.mem_of_getElem? (i := 15) rfl)) (fun _ h9 => h9) rfl dX11_begin_127 ?_
      refine lv_iload_n hx hb dX11_begin_130 rfl (lv_at hl 0 rfl) ?_
      refine lv_iconst (v := 0) hx hb dX11_begin_131 (by decide) ?_
      refine va_zast hx hb hK hP hD hS 3 1 rfl rfl (vp_in_nI hi (by decide)) dX11_begin_132 (fun H locs hP hD hS => ?_)
      rw [wUpd0z] at hP hD
      have hP : va_P G vwCl [(h0, .inr (8, [.int p0, .int 0, .int (-1), .int 0, .int 0, .int (-1), .int 0, .int 0, .int 0, .int 0, .int 0, .ref h1, .ref h2, .ref h3, .ref h5, .ref h6, .ref h7, .ref h8, .ref h9, .ref h10, .ref h11, .ref h12, .ref h13, .ref h14, .ref h15, .ref h16, .ref h17, .ref h18, .ref h19, .ref h20, .int 0, .ref h21, .ref h22, .ref h23, .ref h4, .int 0, .int 0, .ref h24, .ref h25, .int (-1), .ref h26, .ref h27])), (h1, .inl (K 1, 200, .inl (fun _ => 0))), (h2, .inl (K 0, 9, .inl (upd (fun _ => 1) 6 2))), (h3, .inl (K 1, 90, .inl (fun _ => 0))), (h4, .inl (K 0, 8, .inl (fun _ => 0)))] _ := hP
      have hD : va_D A [(h0, .inr (8, [.int p0, .int 0, .int (-1), .int 0, .int 0, .int (-1), .int 0, .int 0, .int 0, .int 0, .int 0, .ref h1, .ref h2, .ref h3, .ref h5, .ref h6, .ref h7, .ref h8, .ref h9, .ref h10, .ref h11, .ref h12, .ref h13, .ref h14, .ref h15, .ref h16, .ref h17, .ref h18, .ref h19, .ref h20, .int 0, .ref h21, .ref h22, .ref h23, .ref h4, .int 0, .int 0, .ref h24, .ref h25, .int (-1), .ref h26, .ref h27])), (h1, .inl (K 1, 200, .inl (fun _ => 0))), (h2, .inl (K 0, 9, .inl (upd (fun _ => 1) 6 2))), (h3, .inl (K 1, 90, .inl (fun _ => 0))), (h4, .inl (K 0, 8, .inl (fun _ => 0)))] := hD
      refine lv_iinc (v := (nI (i + 1))) (lv' := [(2, .int (nI (i + 1))), (0, .ref h0), (1, .int p0)]) hx hb dX11_begin_133 hl (k := 0) rfl (nI_1 i) (by decide) rfl (fun ls hl => ?_)
      refine lv_goto (tgt := 120) hx hb dX11_begin_136 (by decide) ?_
      exact ih _ _ _ ⟨hP, hD, hS, lv_sub hl [0, 1, 2] rfl⟩
  · obtain ⟨hP, hD, hS, hl⟩ := hq
    refine lv_iload_n hx hb dX11_begin_67 rfl (lv_at hl 0 rfl) ?_
    refine lv_sipush (v := 200) hx hb dX11_begin_68 (by decide) ?_
    refine lv_icmp_ge (tgt := 87) hx hb dX11_begin_71 (by decide) (fun c_ => absurd c_ (nI_ge (b := 200) hi (by decide))) (fun _ => ?_)
    refine lv_aload_n hx hb dX11_begin_74 rfl (lv_at hl 1 rfl) ?_
    refine va_get (D := G) (ci := 8) (v := .ref h1) (C := RX11) (T := TX11) (N := 42) hx hb hts iX11 hown hK hP 0 rfl rfl 11 (by decide) (hw (.fieldLink RX11 9 "MotionFloorModel$Hall" "isThere" "[Z") (List.mem_of_getElem? (i := 16) rfl)) (fun _ h9 => h9) rfl dX11_begin_75 ?_
    refine lv_iload_n hx hb dX11_begin_78 rfl (lv_at hl 0 rfl) ?_
    refine lv_iconst (v := 0) hx hb dX11_begin_79 (by decide) ?_
    refine va_zast hx hb hK hP hD hS 1 1 rfl rfl (vp_in_nI hi (by decide)) dX11_begin_80 (fun H locs hP hD hS => ?_)
    rw [wUpd0z] at hP hD
    have hP : va_P G vwCl [(h0, .inr (8, [.int p0, .int 0, .int (-1), .int 0, .int 0, .int (-1), .int 0, .int 0, .int 0, .int 0, .int 0, .ref h1, .ref h2, .ref h3, .ref h5, .ref h6, .ref h7, .ref h8, .ref h9, .ref h10, .ref h11, .ref h12, .ref h13, .ref h14, .ref h15, .ref h16, .ref h17, .ref h18, .ref h19, .ref h20, .int 0, .ref h21, .ref h22, .ref h23, .ref h4, .int 0, .int 0, .ref h24, .ref h25, .int (-1), .ref h26, .ref h27])), (h1, .inl (K 1, 200, .inl (fun _ => 0))), (h2, .inl (K 0, 9, .inl (upd (fun _ => 1) 6 2))), (h3, .inl (K 1, 90, .inl (fun _ => 0))), (h4, .inl (K 0, 8, .inl (fun _ => 0)))] _ := hP
    have hD : va_D A [(h0, .inr (8, [.int p0, .int 0, .int (-1), .int 0, .int 0, .int (-1), .int 0, .int 0, .int 0, .int 0, .int 0, .ref h1, .ref h2, .ref h3, .ref h5, .ref h6, .ref h7, .ref h8, .ref h9, .ref h10, .ref h11, .ref h12, .ref h13, .ref h14, .ref h15, .ref h16, .ref h17, .ref h18, .ref h19, .ref h20, .int 0, .ref h21, .ref h22, .ref h23, .ref h4, .int 0, .int 0, .ref h24, .ref h25, .int (-1), .ref h26, .ref h27])), (h1, .inl (K 1, 200, .inl (fun _ => 0))), (h2, .inl (K 0, 9, .inl (upd (fun _ => 1) 6 2))), (h3, .inl (K 1, 90, .inl (fun _ => 0))), (h4, .inl (K 0, 8, .inl (fun _ => 0)))] := hD
    refine lv_iinc (v := (nI (i + 1))) (lv' := [(2, .int (nI (i + 1))), (0, .ref h0), (1, .int p0)]) hx hb dX11_begin_81 hl (k := 0) rfl (nI_1 i) (by decide) rfl (fun ls hl => ?_)
    refine lv_goto (tgt := 67) hx hb dX11_begin_84 (by decide) ?_
    exact ih _ _ _ ⟨hP, hD, hS, lv_sub hl [0, 1, 2] rfl⟩
def e_X12_seats_0 : List Cond := [.methodLink RX12 1 yX12_in, .static yX12_in, .initialized RX12, .fieldLink RX12 16 "MotionFloorModel" "hall" "LMotionFloorModel$Hall;", .methodLink RX12 36 yX11_begin, .instanceMethod yX11_begin, .selects RX11 yX11_begin yX11_begin, .initialized RX11]
def v_X12_seats_0 : List Cond := .code yX12_seats cX12_seats 2 (some .int) :: (e_X12_seats_0 ++ (wsX120 ++ (v_X12_in_0 ++ (v_X11_begin_1 ++ []))))
theorem te_X12_seats_0 : GoodIn lw_tbl e_X12_seats_0 := wGc z279 (wGc z278 (wGc z277 (wGc z225 (wGc z219 (wGc z218 (wGc z217 (wGc z227 (wG0))))))))
theorem t_X12_seats_0 : GoodIn lw_tbl v_X12_seats_0 := wGc z280 (wGa te_X12_seats_0 (wGa zcX12 (wGa t_X12_in_0 (wGa t_X11_begin_1 (wG0)))))
set_option maxHeartbeats 4000000 in
set_option maxRecDepth 100000 in
theorem m_X12_seats_0 (l : Launch) (G : va_G) (K : Nat → ClassId) (h0 h1 h2 h3 h4 h5 h6 h7 h8 h9 h10 h11 h12 h13 h14 h15 h16 h17 h18 h19 h20 h21 h22 h23 h24 h25 h26 h27 h28 h29 h30 h31 h32 h33 : Nat) (p0 : Int32) (sz : Nat) : Met l yX12_seats v_X12_seats_0 ({ frames := 1, cells := 0, slots := 0, locals := 22 }) (va_Pc [.ref h0, .int p0] (wS G K sz [(h0, .inr (9, [.ref h1, .ref h6, .ref h7, .ref h8, .ref h9, .ref h10, .int 0])), (h1, .inr (8, [.int 1, .int 0, .int (-1), .int 0, .int 0, .int (-1), .int 0, .int 0, .int 0, .int 0, .int 0, .ref h2, .ref h3, .ref h4, .ref h11, .ref h12, .ref h13, .ref h14, .ref h15, .ref h16, .ref h17, .ref h18, .ref h19, .ref h20, .ref h21, .ref h22, .ref h23, .ref h24, .ref h25, .ref h26, .int 0, .ref h27, .ref h28, .ref h29, .ref h5, .int 0, .int 0, .ref h30, .ref h31, .int (-1), .ref h32, .ref h33])), (h2, .inl (K 1, 200, .inl (fun _ => 0))), (h3, .inl (K 0, 9, .inl (upd (fun _ => 1) 6 2))), (h4, .inl (K 1, 90, .inl (fun _ => 0))), (h5, .inl (K 0, 8, .inl (fun _ => 0)))])) (va_Qi (fun (r : Int32) (u : va_W) => (((p0.toInt < 1 ∨ (p0.toInt ≥ 1 ∧ p0.toInt > 200))) ∧ (-9) = r ∧ u = [(h0, .inr (9, [.ref h1, .ref h6, .ref h7, .ref h8, .ref h9, .ref h10, .int 0])), (h1, .inr (8, [.int 1, .int 0, .int (-1), .int 0, .int 0, .int (-1), .int 0, .int 0, .int 0, .int 0, .int 0, .ref h2, .ref h3, .ref h4, .ref h11, .ref h12, .ref h13, .ref h14, .ref h15, .ref h16, .ref h17, .ref h18, .ref h19, .ref h20, .ref h21, .ref h22, .ref h23, .ref h24, .ref h25, .ref h26, .int 0, .ref h27, .ref h28, .ref h29, .ref h5, .int 0, .int 0, .ref h30, .ref h31, .int (-1), .ref h32, .ref h33])), (h2, .inl (K 1, 200, .inl (fun _ => 0))), (h3, .inl (K 0, 9, .inl (upd (fun _ => 1) 6 2))), (h4, .inl (K 1, 90, .inl (fun _ => 0))), (h5, .inl (K 0, 8, .inl (fun _ => 0)))]) ∨ ((((p0.toInt ≥ 1 ∧ p0.toInt ≤ 200))) ∧ p0 = r ∧ u = [(h0, .inr (9, [.ref h1, .ref h6, .ref h7, .ref h8, .ref h9, .ref h10, .int 0])), (h1, .inr (8, [.int p0, .int 0, .int (-1), .int 0, .int 0, .int (-1), .int 0, .int 0, .int 0, .int 0, .int 0, .ref h2, .ref h3, .ref h4, .ref h11, .ref h12, .ref h13, .ref h14, .ref h15, .ref h16, .ref h17, .ref h18, .ref h19, .ref h20, .ref h21, .ref h22, .ref h23, .ref h24, .ref h25, .ref h26, .int 0, .ref h27, .ref h28, .ref h29, .ref h5, .int 0, .int 0, .ref h30, .ref h31, .int (-1), .ref h32, .ref h33])), (h2, .inl (K 1, 200, .inl (fun _ => 0))), (h3, .inl (K 0, 9, .inl (upd (fun _ => 1) 6 2))), (h4, .inl (K 1, 90, .inl (fun _ => 0))), (h5, .inl (K 0, 8, .inl (fun _ => 0)))])) (wB G (va_A [(h0, .inr (9, [.ref h1, .ref h6, .ref h7, .ref h8, .ref h9, .ref h10, .int 0])), (h1, .inr (8, [.int 1, .int 0, .int (-1), .int 0, .int 0, .int (-1), .int 0, .int 0, .int 0, .int 0, .int 0, .ref h2, .ref h3, .ref h4, .ref h11, .ref h12, .ref h13, .ref h14, .ref h15, .ref h16, .ref h17, .ref h18, .ref h19, .ref h20, .ref h21, .ref h22, .ref h23, .ref h24, .ref h25, .ref h26, .int 0, .ref h27, .ref h28, .ref h29, .ref h5, .int 0, .int 0, .ref h30, .ref h31, .int (-1), .ref h32, .ref h33])), (h2, .inl (K 1, 200, .inl (fun _ => 0))), (h3, .inl (K 0, 9, .inl (upd (fun _ => 1) 6 2))), (h4, .inl (K 1, 90, .inl (fun _ => 0))), (h5, .inl (K 0, 8, .inl (fun _ => 0)))] sz)) (va_A [(h0, .inr (9, [.ref h1, .ref h6, .ref h7, .ref h8, .ref h9, .ref h10, .int 0])), (h1, .inr (8, [.int 1, .int 0, .int (-1), .int 0, .int 0, .int (-1), .int 0, .int 0, .int 0, .int 0, .int 0, .ref h2, .ref h3, .ref h4, .ref h11, .ref h12, .ref h13, .ref h14, .ref h15, .ref h16, .ref h17, .ref h18, .ref h19, .ref h20, .ref h21, .ref h22, .ref h23, .ref h24, .ref h25, .ref h26, .int 0, .ref h27, .ref h28, .ref h29, .ref h5, .int 0, .int 0, .ref h30, .ref h31, .int (-1), .ref h32, .ref h33])), (h2, .inl (K 1, 200, .inl (fun _ => 0))), (h3, .inl (K 0, 9, .inl (upd (fun _ => 1) 6 2))), (h4, .inl (K 1, 90, .inl (fun _ => 0))), (h5, .inl (K 0, 8, .inl (fun _ => 0)))] sz)) 0 0 (va_A [(h0, .inr (9, [.ref h1, .ref h6, .ref h7, .ref h8, .ref h9, .ref h10, .int 0])), (h1, .inr (8, [.int 1, .int 0, .int (-1), .int 0, .int 0, .int (-1), .int 0, .int 0, .int 0, .int 0, .int 0, .ref h2, .ref h3, .ref h4, .ref h11, .ref h12, .ref h13, .ref h14, .ref h15, .ref h16, .ref h17, .ref h18, .ref h19, .ref h20, .ref h21, .ref h22, .ref h23, .ref h24, .ref h25, .ref h26, .int 0, .ref h27, .ref h28, .ref h29, .ref h5, .int 0, .int 0, .ref h30, .ref h31, .int (-1), .ref h32, .ref h33])), (h2, .inl (K 1, 200, .inl (fun _ => 0))), (h3, .inl (K 0, 9, .inl (upd (fun _ => 1) 6 2))), (h4, .inl (K 1, 90, .inl (fun _ => 0))), (h5, .inl (K 0, 8, .inl (fun _ => 0)))] sz) := by
  refine Met.ofW (cc := cX12_seats) (maxL := 2) (ret := (some .int)) (by decide) rfl ?_
  intro p e s m args below meth c s₁ B hml hv
  obtain ⟨rfl, hsz, hP, hK, hD0, hE⟩ := hv
  have hx := B.exec
  have hb := B.bytes
  have hr := B.returns
  have hts := atoms_spec (ws := v_X12_seats_0) B.pre
  have t_ := t_X12_seats_0
  have mw : ∀ w ∈ e_X12_seats_0, w ∈ v_X12_seats_0 := fun w h => List.mem_cons_of_mem _ (List.mem_append_left _ h)
  have hw := fun w (h : w ∈ e_X12_seats_0) => hts w (mw w h)
  have iX12 : ∀ w ∈ wsX120, w ∈ v_X12_seats_0 := fun w h => List.mem_cons_of_mem _ (List.mem_append_right _ (List.mem_append_left _ h))
  have j_X12_in_0 : ∀ w ∈ v_X12_in_0, w ∈ v_X12_seats_0 := fun w h => List.mem_cons_of_mem _ (List.mem_append_right _ (List.mem_append_right _ (List.mem_append_left _ h)))
  have j_X11_begin_1 : ∀ w ∈ v_X11_begin_1, w ∈ v_X12_seats_0 := fun w h => List.mem_cons_of_mem _ (List.mem_append_right _ (List.mem_append_right _ (List.mem_append_right _ (List.mem_append_left _ h))))
  have hown : s.vm.findClass RX12 = some m.cls := findClass_of_methodNamed B.named
  have hlocks := B.notSynchronized
  subst hsz
  have hD := hD0.self (sz := s.heap.size)
  generalize hAe : va_A [(h0, .inr (9, [.ref h1, .ref h6, .ref h7, .ref h8, .ref h9, .ref h10, .int 0])), (h1, .inr (8, [.int 1, .int 0, .int (-1), .int 0, .int 0, .int (-1), .int 0, .int 0, .int 0, .int 0, .int 0, .ref h2, .ref h3, .ref h4, .ref h11, .ref h12, .ref h13, .ref h14, .ref h15, .ref h16, .ref h17, .ref h18, .ref h19, .ref h20, .ref h21, .ref h22, .ref h23, .ref h24, .ref h25, .ref h26, .int 0, .ref h27, .ref h28, .ref h29, .ref h5, .int 0, .int 0, .ref h30, .ref h31, .int (-1), .ref h32, .ref h33])), (h2, .inl (K 1, 200, .inl (fun _ => 0))), (h3, .inl (K 0, 9, .inl (upd (fun _ => 1) 6 2))), (h4, .inl (K 1, 90, .inl (fun _ => 0))), (h5, .inl (K 0, 8, .inl (fun _ => 0)))] s.heap.size = A at hD ⊢
  have hA : ∀ q : Nat, s.heap.size ≤ q → A q := fun q h => by rw [← hAe]; exact Or.inr h
  have hS : va_S A s.heap s.heap [] := va_S.rf
  have hP : va_P G vwCl [(h0, .inr (9, [.ref h1, .ref h6, .ref h7, .ref h8, .ref h9, .ref h10, .int 0])), (h1, .inr (8, [.int 1, .int 0, .int (-1), .int 0, .int 0, .int (-1), .int 0, .int 0, .int 0, .int 0, .int 0, .ref h2, .ref h3, .ref h4, .ref h11, .ref h12, .ref h13, .ref h14, .ref h15, .ref h16, .ref h17, .ref h18, .ref h19, .ref h20, .ref h21, .ref h22, .ref h23, .ref h24, .ref h25, .ref h26, .int 0, .ref h27, .ref h28, .ref h29, .ref h5, .int 0, .int 0, .ref h30, .ref h31, .int (-1), .ref h32, .ref h33])), (h2, .inl (K 1, 200, .inl (fun _ => 0))), (h3, .inl (K 0, 9, .inl (upd (fun _ => 1) 6 2))), (h4, .inl (K 1, 90, .inl (fun _ => 0))), (h5, .inl (K 0, 8, .inl (fun _ => 0)))] s.heap := hP
  have hl := lv_entry ([.ref h0, .int p0]) (n := 2) (Nat.le_of_ble_eq_true rfl)
  rw [lg_entry_eq]
  generalize (lg_sl ([.ref h0, .int p0]) ++ List.replicate (2 - (lg_sl ([.ref h0, .int p0])).length) Slot.unset).toArray = ls at hl ⊢
  have hl : lv_has ls 2 [(0, .ref h0), (1, .int p0)] := hl
  refine lv_iload_n hx hb dX12_seats_0 rfl (lv_at hl 1 rfl) ?_
  refine lv_iconst (v := 1) hx hb dX12_seats_1 (by decide) ?_
  refine lv_sipush (v := 200) hx hb dX12_seats_2 (by decide) ?_
  have hPc := hP.sub (ws' := []) [] rfl
  have hDc := hD.sub (ws' := []) [] (by decide) rfl
  refine wGoi (wc := []) (wr := [(h0, .inr (9, [.ref h1, .ref h6, .ref h7, .ref h8, .ref h9, .ref h10, .int 0])), (h1, .inr (8, [.int 1, .int 0, .int (-1), .int 0, .int 0, .int (-1), .int 0, .int 0, .int 0, .int 0, .int 0, .ref h2, .ref h3, .ref h4, .ref h11, .ref h12, .ref h13, .ref h14, .ref h15, .ref h16, .ref h17, .ref h18, .ref h19, .ref h20, .ref h21, .ref h22, .ref h23, .ref h24, .ref h25, .ref h26, .int 0, .ref h27, .ref h28, .ref h29, .ref h5, .int 0, .int 0, .ref h30, .ref h31, .int (-1), .ref h32, .ref h33])), (h2, .inl (K 1, 200, .inl (fun _ => 0))), (h3, .inl (K 0, 9, .inl (upd (fun _ => 1) 6 2))), (h4, .inl (K 1, 90, .inl (fun _ => 0))), (h5, .inl (K 0, 8, .inl (fun _ => 0)))]) (va_runS (As := [.int p0, .int 1, .int 200]) (rest := []) ⟨hx, hb, hml, hown, hts⟩ (m_X12_in_0 l G K p0 _) (va_cwS 3 hts (wGS t_ (mw (.methodLink RX12 1 yX12_in) (List.mem_of_getElem? (i := 0) rfl)) (mw (.static yX12_in) (List.mem_of_getElem? (i := 1) rfl)) (mw (.initialized RX12) (List.mem_of_getElem? (i := 2) rfl)) j_X12_in_0) rfl rfl rfl (by decide +kernel) ⟨Nat.le_of_ble_eq_true rfl, Nat.le_of_ble_eq_true rfl⟩) (wPS hK hE hPc hDc) rfl rfl hl.1 rfl (lv_room (Nat.le_of_ble_eq_true rfl)) dX12_seats_5 ⟨Nat.le_of_ble_eq_true rfl, Nat.le_of_ble_eq_true rfl⟩) hP hD hS hA [] [0, 1, 2, 3, 4, 5] rfl rfl rfl (by decide) (fun r u H locs hw hP hD hS => ?_)
  rcases hw with ⟨c_w, rfl, rfl⟩ | ⟨c_w, rfl, rfl⟩
  · have c1 := c_w
    have hP : va_P G vwCl [(h0, .inr (9, [.ref h1, .ref h6, .ref h7, .ref h8, .ref h9, .ref h10, .int 0])), (h1, .inr (8, [.int 1, .int 0, .int (-1), .int 0, .int 0, .int (-1), .int 0, .int 0, .int 0, .int 0, .int 0, .ref h2, .ref h3, .ref h4, .ref h11, .ref h12, .ref h13, .ref h14, .ref h15, .ref h16, .ref h17, .ref h18, .ref h19, .ref h20, .ref h21, .ref h22, .ref h23, .ref h24, .ref h25, .ref h26, .int 0, .ref h27, .ref h28, .ref h29, .ref h5, .int 0, .int 0, .ref h30, .ref h31, .int (-1), .ref h32, .ref h33])), (h2, .inl (K 1, 200, .inl (fun _ => 0))), (h3, .inl (K 0, 9, .inl (upd (fun _ => 1) 6 2))), (h4, .inl (K 1, 90, .inl (fun _ => 0))), (h5, .inl (K 0, 8, .inl (fun _ => 0)))] _ := hP
    have hD : va_D A [(h0, .inr (9, [.ref h1, .ref h6, .ref h7, .ref h8, .ref h9, .ref h10, .int 0])), (h1, .inr (8, [.int 1, .int 0, .int (-1), .int 0, .int 0, .int (-1), .int 0, .int 0, .int 0, .int 0, .int 0, .ref h2, .ref h3, .ref h4, .ref h11, .ref h12, .ref h13, .ref h14, .ref h15, .ref h16, .ref h17, .ref h18, .ref h19, .ref h20, .ref h21, .ref h22, .ref h23, .ref h24, .ref h25, .ref h26, .int 0, .ref h27, .ref h28, .ref h29, .ref h5, .int 0, .int 0, .ref h30, .ref h31, .int (-1), .ref h32, .ref h33])), (h2, .inl (K 1, 200, .inl (fun _ => 0))), (h3, .inl (K 0, 9, .inl (upd (fun _ => 1) 6 2))), (h4, .inl (K 1, 90, .inl (fun _ => 0))), (h5, .inl (K 0, 8, .inl (fun _ => 0)))] := hD
    refine lv_if_ne (tgt := 14) hx hb dX12_seats_8 (by decide) (fun c_ => absurd c_ (by decide)) (fun _ => ?_)
    refine lv_bipush (v := (-9)) hx hb dX12_seats_11 (by decide) ?_
    have hP9 : va_P G vwCl [(h0, .inr (9, [.ref h1, .ref h6, .ref h7, .ref h8, .ref h9, .ref h10, .int 0])), (h1, .inr (8, [.int 1, .int 0, .int (-1), .int 0, .int 0, .int (-1), .int 0, .int 0, .int 0, .int 0, .int 0, .ref h2, .ref h3, .ref h4, .ref h11, .ref h12, .ref h13, .ref h14, .ref h15, .ref h16, .ref h17, .ref h18, .ref h19, .ref h20, .ref h21, .ref h22, .ref h23, .ref h24, .ref h25, .ref h26, .int 0, .ref h27, .ref h28, .ref h29, .ref h5, .int 0, .int 0, .ref h30, .ref h31, .int (-1), .ref h32, .ref h33])), (h2, .inl (K 1, 200, .inl (fun _ => 0))), (h3, .inl (K 0, 9, .inl (upd (fun _ => 1) 6 2))), (h4, .inl (K 1, 90, .inl (fun _ => 0))), (h5, .inl (K 0, 8, .inl (fun _ => 0)))] _ := hP
    have hD9 : va_D A [(h0, .inr (9, [.ref h1, .ref h6, .ref h7, .ref h8, .ref h9, .ref h10, .int 0])), (h1, .inr (8, [.int 1, .int 0, .int (-1), .int 0, .int 0, .int (-1), .int 0, .int 0, .int 0, .int 0, .int 0, .ref h2, .ref h3, .ref h4, .ref h11, .ref h12, .ref h13, .ref h14, .ref h15, .ref h16, .ref h17, .ref h18, .ref h19, .ref h20, .ref h21, .ref h22, .ref h23, .ref h24, .ref h25, .ref h26, .int 0, .ref h27, .ref h28, .ref h29, .ref h5, .int 0, .int 0, .ref h30, .ref h31, .int (-1), .ref h32, .ref h33])), (h2, .inl (K 1, 200, .inl (fun _ => 0))), (h3, .inl (K 0, 9, .inl (upd (fun _ => 1) 6 2))), (h4, .inl (K 1, 90, .inl (fun _ => 0))), (h5, .inl (K 0, 8, .inl (fun _ => 0)))] := hD
    exact W.iret (v := (-9)) hx hb hr (fun t ht hW => ⟨⟨(-9), _, rfl, Or.inl ⟨(by first | omega | decide | simp), rfl, rfl⟩, by rw [ht]; exact hP9, hD9⟩, hS.F ht⟩) hS.2.2 dX12_seats_13
  · have c2 := c_w
    have hP : va_P G vwCl [(h0, .inr (9, [.ref h1, .ref h6, .ref h7, .ref h8, .ref h9, .ref h10, .int 0])), (h1, .inr (8, [.int 1, .int 0, .int (-1), .int 0, .int 0, .int (-1), .int 0, .int 0, .int 0, .int 0, .int 0, .ref h2, .ref h3, .ref h4, .ref h11, .ref h12, .ref h13, .ref h14, .ref h15, .ref h16, .ref h17, .ref h18, .ref h19, .ref h20, .ref h21, .ref h22, .ref h23, .ref h24, .ref h25, .ref h26, .int 0, .ref h27, .ref h28, .ref h29, .ref h5, .int 0, .int 0, .ref h30, .ref h31, .int (-1), .ref h32, .ref h33])), (h2, .inl (K 1, 200, .inl (fun _ => 0))), (h3, .inl (K 0, 9, .inl (upd (fun _ => 1) 6 2))), (h4, .inl (K 1, 90, .inl (fun _ => 0))), (h5, .inl (K 0, 8, .inl (fun _ => 0)))] _ := hP
    have hD : va_D A [(h0, .inr (9, [.ref h1, .ref h6, .ref h7, .ref h8, .ref h9, .ref h10, .int 0])), (h1, .inr (8, [.int 1, .int 0, .int (-1), .int 0, .int 0, .int (-1), .int 0, .int 0, .int 0, .int 0, .int 0, .ref h2, .ref h3, .ref h4, .ref h11, .ref h12, .ref h13, .ref h14, .ref h15, .ref h16, .ref h17, .ref h18, .ref h19, .ref h20, .ref h21, .ref h22, .ref h23, .ref h24, .ref h25, .ref h26, .int 0, .ref h27, .ref h28, .ref h29, .ref h5, .int 0, .int 0, .ref h30, .ref h31, .int (-1), .ref h32, .ref h33])), (h2, .inl (K 1, 200, .inl (fun _ => 0))), (h3, .inl (K 0, 9, .inl (upd (fun _ => 1) 6 2))), (h4, .inl (K 1, 90, .inl (fun _ => 0))), (h5, .inl (K 0, 8, .inl (fun _ => 0)))] := hD
    refine lv_if_ne (tgt := 14) hx hb dX12_seats_8 (by decide) (fun _ => ?_) (fun c_ => absurd c_ (by decide))
    refine lv_aload_n hx hb dX12_seats_14 rfl (lv_at hl 0 rfl) ?_
    refine va_get (D := G) (ci := 9) (v := .ref h1) (C := RX12) (T := TX12) (N := 7) hx hb hts iX12 hown hK hP 0 rfl rfl 0 (by decide) (hw (.fieldLink RX12 16 "MotionFloorModel" "hall" "LMotionFloorModel$Hall;") (List.mem_of_getElem? (i := 3) rfl)) (fun _ h9 => h9) rfl dX12_seats_15 ?_
    refine lv_iload_n hx hb dX12_seats_18 rfl (lv_at hl 1 rfl) ?_
    have hPc := hP.sub (ws' := [(h1, .inr (8, [.int 1, .int 0, .int (-1), .int 0, .int 0, .int (-1), .int 0, .int 0, .int 0, .int 0, .int 0, .ref h2, .ref h3, .ref h4, .ref h11, .ref h12, .ref h13, .ref h14, .ref h15, .ref h16, .ref h17, .ref h18, .ref h19, .ref h20, .ref h21, .ref h22, .ref h23, .ref h24, .ref h25, .ref h26, .int 0, .ref h27, .ref h28, .ref h29, .ref h5, .int 0, .int 0, .ref h30, .ref h31, .int (-1), .ref h32, .ref h33])), (h2, .inl (K 1, 200, .inl (fun _ => 0))), (h3, .inl (K 0, 9, .inl (upd (fun _ => 1) 6 2))), (h4, .inl (K 1, 90, .inl (fun _ => 0))), (h5, .inl (K 0, 8, .inl (fun _ => 0)))]) [1, 2, 3, 4, 5] rfl
    have hDc := hD.sub (ws' := [(h1, .inr (8, [.int 1, .int 0, .int (-1), .int 0, .int 0, .int (-1), .int 0, .int 0, .int 0, .int 0, .int 0, .ref h2, .ref h3, .ref h4, .ref h11, .ref h12, .ref h13, .ref h14, .ref h15, .ref h16, .ref h17, .ref h18, .ref h19, .ref h20, .ref h21, .ref h22, .ref h23, .ref h24, .ref h25, .ref h26, .int 0, .ref h27, .ref h28, .ref h29, .ref h5, .int 0, .int 0, .ref h30, .ref h31, .int (-1), .ref h32, .ref h33])), (h2, .inl (K 1, 200, .inl (fun _ => 0))), (h3, .inl (K 0, 9, .inl (upd (fun _ => 1) 6 2))), (h4, .inl (K 1, 90, .inl (fun _ => 0))), (h5, .inl (K 0, 8, .inl (fun _ => 0)))]) [1, 2, 3, 4, 5] (by decide) rfl
    refine wGov (wc := [(h1, .inr (8, [.int 1, .int 0, .int (-1), .int 0, .int 0, .int (-1), .int 0, .int 0, .int 0, .int 0, .int 0, .ref h2, .ref h3, .ref h4, .ref h11, .ref h12, .ref h13, .ref h14, .ref h15, .ref h16, .ref h17, .ref h18, .ref h19, .ref h20, .ref h21, .ref h22, .ref h23, .ref h24, .ref h25, .ref h26, .int 0, .ref h27, .ref h28, .ref h29, .ref h5, .int 0, .int 0, .ref h30, .ref h31, .int (-1), .ref h32, .ref h33])), (h2, .inl (K 1, 200, .inl (fun _ => 0))), (h3, .inl (K 0, 9, .inl (upd (fun _ => 1) 6 2))), (h4, .inl (K 1, 90, .inl (fun _ => 0))), (h5, .inl (K 0, 8, .inl (fun _ => 0)))]) (wr := [(h0, .inr (9, [.ref h1, .ref h6, .ref h7, .ref h8, .ref h9, .ref h10, .int 0]))]) (va_runV (As := [.int p0]) (rest := []) ⟨hx, hb, hml, hown, hts⟩ (m_X11_begin_1 l G K h1 h2 h3 h4 h5 h11 h12 h13 h14 h15 h16 h17 h18 h19 h20 h21 h22 h23 h24 h25 h26 h27 h28 h29 h30 h31 h32 h33 p0 _ (by omega)) (cwV 1 hts (wGV t_ (mw (.methodLink RX12 36 yX11_begin) (List.mem_of_getElem? (i := 4) rfl)) (mw (.instanceMethod yX11_begin) (List.mem_of_getElem? (i := 5) rfl)) (mw (.selects RX11 yX11_begin yX11_begin) (List.mem_of_getElem? (i := 6) rfl)) (mw (.initialized RX11) (List.mem_of_getElem? (i := 7) rfl)) j_X11_begin_1) rfl rfl rfl (by decide +kernel) ⟨Nat.le_of_ble_eq_true rfl, Nat.le_of_ble_eq_true rfl⟩) (wPV hK hE hPc hDc 8 0 rfl rfl) rfl rfl hl.1 rfl (lv_room (Nat.le_of_ble_eq_true rfl)) dX12_seats_19 ⟨Nat.le_of_ble_eq_true rfl, Nat.le_of_ble_eq_true rfl⟩) hP hD hS hA [1, 2, 3, 4, 5] [0] rfl rfl rfl (by decide) (fun u H locs hw hP hD hS => ?_)
    subst hw
    have hP : va_P G vwCl [(h0, .inr (9, [.ref h1, .ref h6, .ref h7, .ref h8, .ref h9, .ref h10, .int 0])), (h1, .inr (8, [.int p0, .int 0, .int (-1), .int 0, .int 0, .int (-1), .int 0, .int 0, .int 0, .int 0, .int 0, .ref h2, .ref h3, .ref h4, .ref h11, .ref h12, .ref h13, .ref h14, .ref h15, .ref h16, .ref h17, .ref h18, .ref h19, .ref h20, .ref h21, .ref h22, .ref h23, .ref h24, .ref h25, .ref h26, .int 0, .ref h27, .ref h28, .ref h29, .ref h5, .int 0, .int 0, .ref h30, .ref h31, .int (-1), .ref h32, .ref h33])), (h2, .inl (K 1, 200, .inl (fun _ => 0))), (h3, .inl (K 0, 9, .inl (upd (fun _ => 1) 6 2))), (h4, .inl (K 1, 90, .inl (fun _ => 0))), (h5, .inl (K 0, 8, .inl (fun _ => 0)))] _ := hP
    have hD : va_D A [(h0, .inr (9, [.ref h1, .ref h6, .ref h7, .ref h8, .ref h9, .ref h10, .int 0])), (h1, .inr (8, [.int p0, .int 0, .int (-1), .int 0, .int 0, .int (-1), .int 0, .int 0, .int 0, .int 0, .int 0, .ref h2, .ref h3, .ref h4, .ref h11, .ref h12, .ref h13, .ref h14, .ref h15, .ref h16, .ref h17, .ref h18, .ref h19, .ref h20, .ref h21, .ref h22, .ref h23, .ref h24, .ref h25, .ref h26, .int 0, .ref h27, .ref h28, .ref h29, .ref h5, .int 0, .int 0, .ref h30, .ref h31, .int (-1), .ref h32, .ref h33])), (h2, .inl (K 1, 200, .inl (fun _ => 0))), (h3, .inl (K 0, 9, .inl (upd (fun _ => 1) 6 2))), (h4, .inl (K 1, 90, .inl (fun _ => 0))), (h5, .inl (K 0, 8, .inl (fun _ => 0)))] := hD
    refine lv_iload_n hx hb dX12_seats_22 rfl (lv_at hl 1 rfl) ?_
    have hP9 : va_P G vwCl [(h0, .inr (9, [.ref h1, .ref h6, .ref h7, .ref h8, .ref h9, .ref h10, .int 0])), (h1, .inr (8, [.int p0, .int 0, .int (-1), .int 0, .int 0, .int (-1), .int 0, .int 0, .int 0, .int 0, .int 0, .ref h2, .ref h3, .ref h4, .ref h11, .ref h12, .ref h13, .ref h14, .ref h15, .ref h16, .ref h17, .ref h18, .ref h19, .ref h20, .ref h21, .ref h22, .ref h23, .ref h24, .ref h25, .ref h26, .int 0, .ref h27, .ref h28, .ref h29, .ref h5, .int 0, .int 0, .ref h30, .ref h31, .int (-1), .ref h32, .ref h33])), (h2, .inl (K 1, 200, .inl (fun _ => 0))), (h3, .inl (K 0, 9, .inl (upd (fun _ => 1) 6 2))), (h4, .inl (K 1, 90, .inl (fun _ => 0))), (h5, .inl (K 0, 8, .inl (fun _ => 0)))] _ := hP
    have hD9 : va_D A [(h0, .inr (9, [.ref h1, .ref h6, .ref h7, .ref h8, .ref h9, .ref h10, .int 0])), (h1, .inr (8, [.int p0, .int 0, .int (-1), .int 0, .int 0, .int (-1), .int 0, .int 0, .int 0, .int 0, .int 0, .ref h2, .ref h3, .ref h4, .ref h11, .ref h12, .ref h13, .ref h14, .ref h15, .ref h16, .ref h17, .ref h18, .ref h19, .ref h20, .ref h21, .ref h22, .ref h23, .ref h24, .ref h25, .ref h26, .int 0, .ref h27, .ref h28, .ref h29, .ref h5, .int 0, .int 0, .ref h30, .ref h31, .int (-1), .ref h32, .ref h33])), (h2, .inl (K 1, 200, .inl (fun _ => 0))), (h3, .inl (K 0, 9, .inl (upd (fun _ => 1) 6 2))), (h4, .inl (K 1, 90, .inl (fun _ => 0))), (h5, .inl (K 0, 8, .inl (fun _ => 0)))] := hD
    exact W.iret (v := p0) hx hb hr (fun t ht hW => ⟨⟨p0, _, rfl, Or.inr (⟨(by first | omega | decide | simp), rfl, rfl⟩), by rw [ht]; exact hP9, hD9⟩, hS.F ht⟩) hS.2.2 dX12_seats_23
def e_X12_in_1 : List Cond := []
def v_X12_in_1 : List Cond := .code yX12_in cX12_in 3 (some .boolean) :: (e_X12_in_1 ++ [])
theorem te_X12_in_1 : GoodIn lw_tbl e_X12_in_1 := wG0
theorem t_X12_in_1 : GoodIn lw_tbl v_X12_in_1 := wGc z276 (wGa te_X12_in_1 (wG0))
set_option maxHeartbeats 4000000 in
set_option maxRecDepth 100000 in
theorem m_X12_in_1 (l : Launch) (G : va_G) (K : Nat → ClassId) (p0 : Int32) (sz : Nat) (bp0 : 1 ≤ p0.toInt ∧ p0.toInt ≤ 200) : Met l yX12_in v_X12_in_1 ({ frames := 0, cells := 0, slots := 0, locals := 0 }) (va_Pc [.int p0, .int 1, .int 200] (wS G K sz [])) (va_Qi (fun (r : Int32) (u : va_W) => (1 = r ∧ u = [])) (wB G (va_A [] sz)) (va_A [] sz)) 0 0 (va_A [] sz) := by
  refine Met.ofW (cc := cX12_in) (maxL := 3) (ret := (some .boolean)) (by decide) rfl ?_
  intro p e s m args below meth c s₁ B hml hv
  obtain ⟨rfl, hsz, hP, hK, hD0, hE⟩ := hv
  have hx := B.exec
  have hb := B.bytes
  have hr := B.returns
  have hts := atoms_spec (ws := v_X12_in_1) B.pre
  have t_ := t_X12_in_1
  have mw : ∀ w ∈ e_X12_in_1, w ∈ v_X12_in_1 := fun w h => List.mem_cons_of_mem _ (List.mem_append_left _ h)
  have hw := fun w (h : w ∈ e_X12_in_1) => hts w (mw w h)
  have hown : s.vm.findClass RX12 = some m.cls := findClass_of_methodNamed B.named
  have hlocks := B.notSynchronized
  subst hsz
  have hD := hD0.self (sz := s.heap.size)
  generalize hAe : va_A [] s.heap.size = A at hD ⊢
  have hA : ∀ q : Nat, s.heap.size ≤ q → A q := fun q h => by rw [← hAe]; exact Or.inr h
  have hS : va_S A s.heap s.heap [] := va_S.rf
  have hP : va_P G vwCl [] s.heap := hP
  have hl := lv_entry ([.int p0, .int 1, .int 200]) (n := 3) (Nat.le_of_ble_eq_true rfl)
  rw [lg_entry_eq]
  generalize (lg_sl ([.int p0, .int 1, .int 200]) ++ List.replicate (3 - (lg_sl ([.int p0, .int 1, .int 200])).length) Slot.unset).toArray = ls at hl ⊢
  have hl : lv_has ls 3 [(0, .int p0), (1, .int 1), (2, .int 200)] := hl
  refine lv_iload_n hx hb dX12_in_0 rfl (lv_at hl 0 rfl) ?_
  refine lv_iload_n hx hb dX12_in_1 rfl (lv_at hl 1 rfl) ?_
  refine lv_icmp_lt (tgt := 14) hx hb dX12_in_2 (by decide) (fun c1 => by have c1 : p0.toInt < 1 := wLt rfl (by decide) c1; omega) (fun c1 => ?_)
  have c1 : p0.toInt ≥ 1 := wNlt rfl (by decide) c1
  refine lv_iload_n hx hb dX12_in_5 rfl (lv_at hl 0 rfl) ?_
  refine lv_iload_n hx hb dX12_in_6 rfl (lv_at hl 2 rfl) ?_
  refine lv_icmp_gt (tgt := 14) hx hb dX12_in_7 (by decide) (fun c2 => by have c2 : 200 < p0.toInt := wLt (by decide) rfl c2; omega) (fun c2 => ?_)
  have c2 : 200 ≥ p0.toInt := wNlt (by decide) rfl c2
  refine lv_iconst (v := 1) hx hb dX12_in_10 (by decide) ?_
  refine lv_goto (tgt := 15) hx hb dX12_in_11 (by decide) ?_
  have hP9 : va_P G vwCl [] _ := hP
  have hD9 : va_D A [] := hD
  exact W.zret (v := 1) (ty := .boolean) hx hb hr rfl (fun t ht hW => ⟨⟨1, _, rfl, ⟨rfl, rfl⟩, by rw [ht]; exact hP9, hD9⟩, hS.F ht⟩) hS.2.2 dX12_in_15
def e_X12_seats_1 : List Cond := [.methodLink RX12 1 yX12_in, .static yX12_in, .initialized RX12, .fieldLink RX12 16 "MotionFloorModel" "hall" "LMotionFloorModel$Hall;", .methodLink RX12 36 yX11_begin, .instanceMethod yX11_begin, .selects RX11 yX11_begin yX11_begin, .initialized RX11]
def v_X12_seats_1 : List Cond := .code yX12_seats cX12_seats 2 (some .int) :: (e_X12_seats_1 ++ (wsX120 ++ (v_X12_in_1 ++ (v_X11_begin_1 ++ []))))
theorem te_X12_seats_1 : GoodIn lw_tbl e_X12_seats_1 := wGc z279 (wGc z278 (wGc z277 (wGc z225 (wGc z219 (wGc z218 (wGc z217 (wGc z227 (wG0))))))))
theorem t_X12_seats_1 : GoodIn lw_tbl v_X12_seats_1 := wGc z280 (wGa te_X12_seats_1 (wGa zcX12 (wGa t_X12_in_1 (wGa t_X11_begin_1 (wG0)))))
set_option maxHeartbeats 4000000 in
set_option maxRecDepth 100000 in
theorem m_X12_seats_1 (l : Launch) (G : va_G) (K : Nat → ClassId) (h0 h1 h2 h3 h4 h5 h6 h7 h8 h9 h10 h11 h12 h13 h14 h15 h16 h17 h18 h19 h20 h21 h22 h23 h24 h25 h26 h27 h28 h29 h30 h31 h32 h33 : Nat) (p0 : Int32) (sz : Nat) (bp0 : 1 ≤ p0.toInt ∧ p0.toInt ≤ 200) : Met l yX12_seats v_X12_seats_1 ({ frames := 1, cells := 0, slots := 0, locals := 22 }) (va_Pc [.ref h0, .int p0] (wS G K sz [(h0, .inr (9, [.ref h1, .ref h6, .ref h7, .ref h8, .ref h9, .ref h10, .int 0])), (h1, .inr (8, [.int 1, .int 0, .int (-1), .int 0, .int 0, .int (-1), .int 0, .int 0, .int 0, .int 0, .int 0, .ref h2, .ref h3, .ref h4, .ref h11, .ref h12, .ref h13, .ref h14, .ref h15, .ref h16, .ref h17, .ref h18, .ref h19, .ref h20, .ref h21, .ref h22, .ref h23, .ref h24, .ref h25, .ref h26, .int 0, .ref h27, .ref h28, .ref h29, .ref h5, .int 0, .int 0, .ref h30, .ref h31, .int (-1), .ref h32, .ref h33])), (h2, .inl (K 1, 200, .inl (fun _ => 0))), (h3, .inl (K 0, 9, .inl (upd (fun _ => 1) 6 2))), (h4, .inl (K 1, 90, .inl (fun _ => 0))), (h5, .inl (K 0, 8, .inl (fun _ => 0)))])) (va_Qi (fun (r : Int32) (u : va_W) => (p0 = r ∧ u = [(h0, .inr (9, [.ref h1, .ref h6, .ref h7, .ref h8, .ref h9, .ref h10, .int 0])), (h1, .inr (8, [.int p0, .int 0, .int (-1), .int 0, .int 0, .int (-1), .int 0, .int 0, .int 0, .int 0, .int 0, .ref h2, .ref h3, .ref h4, .ref h11, .ref h12, .ref h13, .ref h14, .ref h15, .ref h16, .ref h17, .ref h18, .ref h19, .ref h20, .ref h21, .ref h22, .ref h23, .ref h24, .ref h25, .ref h26, .int 0, .ref h27, .ref h28, .ref h29, .ref h5, .int 0, .int 0, .ref h30, .ref h31, .int (-1), .ref h32, .ref h33])), (h2, .inl (K 1, 200, .inl (fun _ => 0))), (h3, .inl (K 0, 9, .inl (upd (fun _ => 1) 6 2))), (h4, .inl (K 1, 90, .inl (fun _ => 0))), (h5, .inl (K 0, 8, .inl (fun _ => 0)))])) (wB G (va_A [(h0, .inr (9, [.ref h1, .ref h6, .ref h7, .ref h8, .ref h9, .ref h10, .int 0])), (h1, .inr (8, [.int 1, .int 0, .int (-1), .int 0, .int 0, .int (-1), .int 0, .int 0, .int 0, .int 0, .int 0, .ref h2, .ref h3, .ref h4, .ref h11, .ref h12, .ref h13, .ref h14, .ref h15, .ref h16, .ref h17, .ref h18, .ref h19, .ref h20, .ref h21, .ref h22, .ref h23, .ref h24, .ref h25, .ref h26, .int 0, .ref h27, .ref h28, .ref h29, .ref h5, .int 0, .int 0, .ref h30, .ref h31, .int (-1), .ref h32, .ref h33])), (h2, .inl (K 1, 200, .inl (fun _ => 0))), (h3, .inl (K 0, 9, .inl (upd (fun _ => 1) 6 2))), (h4, .inl (K 1, 90, .inl (fun _ => 0))), (h5, .inl (K 0, 8, .inl (fun _ => 0)))] sz)) (va_A [(h0, .inr (9, [.ref h1, .ref h6, .ref h7, .ref h8, .ref h9, .ref h10, .int 0])), (h1, .inr (8, [.int 1, .int 0, .int (-1), .int 0, .int 0, .int (-1), .int 0, .int 0, .int 0, .int 0, .int 0, .ref h2, .ref h3, .ref h4, .ref h11, .ref h12, .ref h13, .ref h14, .ref h15, .ref h16, .ref h17, .ref h18, .ref h19, .ref h20, .ref h21, .ref h22, .ref h23, .ref h24, .ref h25, .ref h26, .int 0, .ref h27, .ref h28, .ref h29, .ref h5, .int 0, .int 0, .ref h30, .ref h31, .int (-1), .ref h32, .ref h33])), (h2, .inl (K 1, 200, .inl (fun _ => 0))), (h3, .inl (K 0, 9, .inl (upd (fun _ => 1) 6 2))), (h4, .inl (K 1, 90, .inl (fun _ => 0))), (h5, .inl (K 0, 8, .inl (fun _ => 0)))] sz)) 0 0 (va_A [(h0, .inr (9, [.ref h1, .ref h6, .ref h7, .ref h8, .ref h9, .ref h10, .int 0])), (h1, .inr (8, [.int 1, .int 0, .int (-1), .int 0, .int 0, .int (-1), .int 0, .int 0, .int 0, .int 0, .int 0, .ref h2, .ref h3, .ref h4, .ref h11, .ref h12, .ref h13, .ref h14, .ref h15, .ref h16, .ref h17, .ref h18, .ref h19, .ref h20, .ref h21, .ref h22, .ref h23, .ref h24, .ref h25, .ref h26, .int 0, .ref h27, .ref h28, .ref h29, .ref h5, .int 0, .int 0, .ref h30, .ref h31, .int (-1), .ref h32, .ref h33])), (h2, .inl (K 1, 200, .inl (fun _ => 0))), (h3, .inl (K 0, 9, .inl (upd (fun _ => 1) 6 2))), (h4, .inl (K 1, 90, .inl (fun _ => 0))), (h5, .inl (K 0, 8, .inl (fun _ => 0)))] sz) := by
  refine Met.ofW (cc := cX12_seats) (maxL := 2) (ret := (some .int)) (by decide) rfl ?_
  intro p e s m args below meth c s₁ B hml hv
  obtain ⟨rfl, hsz, hP, hK, hD0, hE⟩ := hv
  have hx := B.exec
  have hb := B.bytes
  have hr := B.returns
  have hts := atoms_spec (ws := v_X12_seats_1) B.pre
  have t_ := t_X12_seats_1
  have mw : ∀ w ∈ e_X12_seats_1, w ∈ v_X12_seats_1 := fun w h => List.mem_cons_of_mem _ (List.mem_append_left _ h)
  have hw := fun w (h : w ∈ e_X12_seats_1) => hts w (mw w h)
  have iX12 : ∀ w ∈ wsX120, w ∈ v_X12_seats_1 := fun w h => List.mem_cons_of_mem _ (List.mem_append_right _ (List.mem_append_left _ h))
  have j_X12_in_1 : ∀ w ∈ v_X12_in_1, w ∈ v_X12_seats_1 := fun w h => List.mem_cons_of_mem _ (List.mem_append_right _ (List.mem_append_right _ (List.mem_append_left _ h)))
  have j_X11_begin_1 : ∀ w ∈ v_X11_begin_1, w ∈ v_X12_seats_1 := fun w h => List.mem_cons_of_mem _ (List.mem_append_right _ (List.mem_append_right _ (List.mem_append_right _ (List.mem_append_left _ h))))
  have hown : s.vm.findClass RX12 = some m.cls := findClass_of_methodNamed B.named
  have hlocks := B.notSynchronized
  subst hsz
  have hD := hD0.self (sz := s.heap.size)
  generalize hAe : va_A [(h0, .inr (9, [.ref h1, .ref h6, .ref h7, .ref h8, .ref h9, .ref h10, .int 0])), (h1, .inr (8, [.int 1, .int 0, .int (-1), .int 0, .int 0, .int (-1), .int 0, .int 0, .int 0, .int 0, .int 0, .ref h2, .ref h3, .ref h4, .ref h11, .ref h12, .ref h13, .ref h14, .ref h15, .ref h16, .ref h17, .ref h18, .ref h19, .ref h20, .ref h21, .ref h22, .ref h23, .ref h24, .ref h25, .ref h26, .int 0, .ref h27, .ref h28, .ref h29, .ref h5, .int 0, .int 0, .ref h30, .ref h31, .int (-1), .ref h32, .ref h33])), (h2, .inl (K 1, 200, .inl (fun _ => 0))), (h3, .inl (K 0, 9, .inl (upd (fun _ => 1) 6 2))), (h4, .inl (K 1, 90, .inl (fun _ => 0))), (h5, .inl (K 0, 8, .inl (fun _ => 0)))] s.heap.size = A at hD ⊢
  have hA : ∀ q : Nat, s.heap.size ≤ q → A q := fun q h => by rw [← hAe]; exact Or.inr h
  have hS : va_S A s.heap s.heap [] := va_S.rf
  have hP : va_P G vwCl [(h0, .inr (9, [.ref h1, .ref h6, .ref h7, .ref h8, .ref h9, .ref h10, .int 0])), (h1, .inr (8, [.int 1, .int 0, .int (-1), .int 0, .int 0, .int (-1), .int 0, .int 0, .int 0, .int 0, .int 0, .ref h2, .ref h3, .ref h4, .ref h11, .ref h12, .ref h13, .ref h14, .ref h15, .ref h16, .ref h17, .ref h18, .ref h19, .ref h20, .ref h21, .ref h22, .ref h23, .ref h24, .ref h25, .ref h26, .int 0, .ref h27, .ref h28, .ref h29, .ref h5, .int 0, .int 0, .ref h30, .ref h31, .int (-1), .ref h32, .ref h33])), (h2, .inl (K 1, 200, .inl (fun _ => 0))), (h3, .inl (K 0, 9, .inl (upd (fun _ => 1) 6 2))), (h4, .inl (K 1, 90, .inl (fun _ => 0))), (h5, .inl (K 0, 8, .inl (fun _ => 0)))] s.heap := hP
  have hl := lv_entry ([.ref h0, .int p0]) (n := 2) (Nat.le_of_ble_eq_true rfl)
  rw [lg_entry_eq]
  generalize (lg_sl ([.ref h0, .int p0]) ++ List.replicate (2 - (lg_sl ([.ref h0, .int p0])).length) Slot.unset).toArray = ls at hl ⊢
  have hl : lv_has ls 2 [(0, .ref h0), (1, .int p0)] := hl
  refine lv_iload_n hx hb dX12_seats_0 rfl (lv_at hl 1 rfl) ?_
  refine lv_iconst (v := 1) hx hb dX12_seats_1 (by decide) ?_
  refine lv_sipush (v := 200) hx hb dX12_seats_2 (by decide) ?_
  have hPc := hP.sub (ws' := []) [] rfl
  have hDc := hD.sub (ws' := []) [] (by decide) rfl
  refine wGoi (wc := []) (wr := [(h0, .inr (9, [.ref h1, .ref h6, .ref h7, .ref h8, .ref h9, .ref h10, .int 0])), (h1, .inr (8, [.int 1, .int 0, .int (-1), .int 0, .int 0, .int (-1), .int 0, .int 0, .int 0, .int 0, .int 0, .ref h2, .ref h3, .ref h4, .ref h11, .ref h12, .ref h13, .ref h14, .ref h15, .ref h16, .ref h17, .ref h18, .ref h19, .ref h20, .ref h21, .ref h22, .ref h23, .ref h24, .ref h25, .ref h26, .int 0, .ref h27, .ref h28, .ref h29, .ref h5, .int 0, .int 0, .ref h30, .ref h31, .int (-1), .ref h32, .ref h33])), (h2, .inl (K 1, 200, .inl (fun _ => 0))), (h3, .inl (K 0, 9, .inl (upd (fun _ => 1) 6 2))), (h4, .inl (K 1, 90, .inl (fun _ => 0))), (h5, .inl (K 0, 8, .inl (fun _ => 0)))]) (va_runS (As := [.int p0, .int 1, .int 200]) (rest := []) ⟨hx, hb, hml, hown, hts⟩ (m_X12_in_1 l G K p0 _ (by omega)) (va_cwS 3 hts (wGS t_ (mw (.methodLink RX12 1 yX12_in) (List.mem_of_getElem? (i := 0) rfl)) (mw (.static yX12_in) (List.mem_of_getElem? (i := 1) rfl)) (mw (.initialized RX12) (List.mem_of_getElem? (i := 2) rfl)) j_X12_in_1) rfl rfl rfl (by decide +kernel) ⟨Nat.le_of_ble_eq_true rfl, Nat.le_of_ble_eq_true rfl⟩) (wPS hK hE hPc hDc) rfl rfl hl.1 rfl (lv_room (Nat.le_of_ble_eq_true rfl)) dX12_seats_5 ⟨Nat.le_of_ble_eq_true rfl, Nat.le_of_ble_eq_true rfl⟩) hP hD hS hA [] [0, 1, 2, 3, 4, 5] rfl rfl rfl (by decide) (fun r u H locs hw hP hD hS => ?_)
  rcases hw with ⟨rfl, rfl⟩
  have hP : va_P G vwCl [(h0, .inr (9, [.ref h1, .ref h6, .ref h7, .ref h8, .ref h9, .ref h10, .int 0])), (h1, .inr (8, [.int 1, .int 0, .int (-1), .int 0, .int 0, .int (-1), .int 0, .int 0, .int 0, .int 0, .int 0, .ref h2, .ref h3, .ref h4, .ref h11, .ref h12, .ref h13, .ref h14, .ref h15, .ref h16, .ref h17, .ref h18, .ref h19, .ref h20, .ref h21, .ref h22, .ref h23, .ref h24, .ref h25, .ref h26, .int 0, .ref h27, .ref h28, .ref h29, .ref h5, .int 0, .int 0, .ref h30, .ref h31, .int (-1), .ref h32, .ref h33])), (h2, .inl (K 1, 200, .inl (fun _ => 0))), (h3, .inl (K 0, 9, .inl (upd (fun _ => 1) 6 2))), (h4, .inl (K 1, 90, .inl (fun _ => 0))), (h5, .inl (K 0, 8, .inl (fun _ => 0)))] _ := hP
  have hD : va_D A [(h0, .inr (9, [.ref h1, .ref h6, .ref h7, .ref h8, .ref h9, .ref h10, .int 0])), (h1, .inr (8, [.int 1, .int 0, .int (-1), .int 0, .int 0, .int (-1), .int 0, .int 0, .int 0, .int 0, .int 0, .ref h2, .ref h3, .ref h4, .ref h11, .ref h12, .ref h13, .ref h14, .ref h15, .ref h16, .ref h17, .ref h18, .ref h19, .ref h20, .ref h21, .ref h22, .ref h23, .ref h24, .ref h25, .ref h26, .int 0, .ref h27, .ref h28, .ref h29, .ref h5, .int 0, .int 0, .ref h30, .ref h31, .int (-1), .ref h32, .ref h33])), (h2, .inl (K 1, 200, .inl (fun _ => 0))), (h3, .inl (K 0, 9, .inl (upd (fun _ => 1) 6 2))), (h4, .inl (K 1, 90, .inl (fun _ => 0))), (h5, .inl (K 0, 8, .inl (fun _ => 0)))] := hD
  refine lv_if_ne (tgt := 14) hx hb dX12_seats_8 (by decide) (fun _ => ?_) (fun c_ => absurd c_ (by decide))
  refine lv_aload_n hx hb dX12_seats_14 rfl (lv_at hl 0 rfl) ?_
  refine va_get (D := G) (ci := 9) (v := .ref h1) (C := RX12) (T := TX12) (N := 7) hx hb hts iX12 hown hK hP 0 rfl rfl 0 (by decide) (hw (.fieldLink RX12 16 "MotionFloorModel" "hall" "LMotionFloorModel$Hall;") (List.mem_of_getElem? (i := 3) rfl)) (fun _ h9 => h9) rfl dX12_seats_15 ?_
  refine lv_iload_n hx hb dX12_seats_18 rfl (lv_at hl 1 rfl) ?_
  have hPc := hP.sub (ws' := [(h1, .inr (8, [.int 1, .int 0, .int (-1), .int 0, .int 0, .int (-1), .int 0, .int 0, .int 0, .int 0, .int 0, .ref h2, .ref h3, .ref h4, .ref h11, .ref h12, .ref h13, .ref h14, .ref h15, .ref h16, .ref h17, .ref h18, .ref h19, .ref h20, .ref h21, .ref h22, .ref h23, .ref h24, .ref h25, .ref h26, .int 0, .ref h27, .ref h28, .ref h29, .ref h5, .int 0, .int 0, .ref h30, .ref h31, .int (-1), .ref h32, .ref h33])), (h2, .inl (K 1, 200, .inl (fun _ => 0))), (h3, .inl (K 0, 9, .inl (upd (fun _ => 1) 6 2))), (h4, .inl (K 1, 90, .inl (fun _ => 0))), (h5, .inl (K 0, 8, .inl (fun _ => 0)))]) [1, 2, 3, 4, 5] rfl
  have hDc := hD.sub (ws' := [(h1, .inr (8, [.int 1, .int 0, .int (-1), .int 0, .int 0, .int (-1), .int 0, .int 0, .int 0, .int 0, .int 0, .ref h2, .ref h3, .ref h4, .ref h11, .ref h12, .ref h13, .ref h14, .ref h15, .ref h16, .ref h17, .ref h18, .ref h19, .ref h20, .ref h21, .ref h22, .ref h23, .ref h24, .ref h25, .ref h26, .int 0, .ref h27, .ref h28, .ref h29, .ref h5, .int 0, .int 0, .ref h30, .ref h31, .int (-1), .ref h32, .ref h33])), (h2, .inl (K 1, 200, .inl (fun _ => 0))), (h3, .inl (K 0, 9, .inl (upd (fun _ => 1) 6 2))), (h4, .inl (K 1, 90, .inl (fun _ => 0))), (h5, .inl (K 0, 8, .inl (fun _ => 0)))]) [1, 2, 3, 4, 5] (by decide) rfl
  refine wGov (wc := [(h1, .inr (8, [.int 1, .int 0, .int (-1), .int 0, .int 0, .int (-1), .int 0, .int 0, .int 0, .int 0, .int 0, .ref h2, .ref h3, .ref h4, .ref h11, .ref h12, .ref h13, .ref h14, .ref h15, .ref h16, .ref h17, .ref h18, .ref h19, .ref h20, .ref h21, .ref h22, .ref h23, .ref h24, .ref h25, .ref h26, .int 0, .ref h27, .ref h28, .ref h29, .ref h5, .int 0, .int 0, .ref h30, .ref h31, .int (-1), .ref h32, .ref h33])), (h2, .inl (K 1, 200, .inl (fun _ => 0))), (h3, .inl (K 0, 9, .inl (upd (fun _ => 1) 6 2))), (h4, .inl (K 1, 90, .inl (fun _ => 0))), (h5, .inl (K 0, 8, .inl (fun _ => 0)))]) (wr := [(h0, .inr (9, [.ref h1, .ref h6, .ref h7, .ref h8, .ref h9, .ref h10, .int 0]))]) (va_runV (As := [.int p0]) (rest := []) ⟨hx, hb, hml, hown, hts⟩ (m_X11_begin_1 l G K h1 h2 h3 h4 h5 h11 h12 h13 h14 h15 h16 h17 h18 h19 h20 h21 h22 h23 h24 h25 h26 h27 h28 h29 h30 h31 h32 h33 p0 _ (by omega)) (cwV 1 hts (wGV t_ (mw (.methodLink RX12 36 yX11_begin) (List.mem_of_getElem? (i := 4) rfl)) (mw (.instanceMethod yX11_begin) (List.mem_of_getElem? (i := 5) rfl)) (mw (.selects RX11 yX11_begin yX11_begin) (List.mem_of_getElem? (i := 6) rfl)) (mw (.initialized RX11) (List.mem_of_getElem? (i := 7) rfl)) j_X11_begin_1) rfl rfl rfl (by decide +kernel) ⟨Nat.le_of_ble_eq_true rfl, Nat.le_of_ble_eq_true rfl⟩) (wPV hK hE hPc hDc 8 0 rfl rfl) rfl rfl hl.1 rfl (lv_room (Nat.le_of_ble_eq_true rfl)) dX12_seats_19 ⟨Nat.le_of_ble_eq_true rfl, Nat.le_of_ble_eq_true rfl⟩) hP hD hS hA [1, 2, 3, 4, 5] [0] rfl rfl rfl (by decide) (fun u H locs hw hP hD hS => ?_)
  subst hw
  have hP : va_P G vwCl [(h0, .inr (9, [.ref h1, .ref h6, .ref h7, .ref h8, .ref h9, .ref h10, .int 0])), (h1, .inr (8, [.int p0, .int 0, .int (-1), .int 0, .int 0, .int (-1), .int 0, .int 0, .int 0, .int 0, .int 0, .ref h2, .ref h3, .ref h4, .ref h11, .ref h12, .ref h13, .ref h14, .ref h15, .ref h16, .ref h17, .ref h18, .ref h19, .ref h20, .ref h21, .ref h22, .ref h23, .ref h24, .ref h25, .ref h26, .int 0, .ref h27, .ref h28, .ref h29, .ref h5, .int 0, .int 0, .ref h30, .ref h31, .int (-1), .ref h32, .ref h33])), (h2, .inl (K 1, 200, .inl (fun _ => 0))), (h3, .inl (K 0, 9, .inl (upd (fun _ => 1) 6 2))), (h4, .inl (K 1, 90, .inl (fun _ => 0))), (h5, .inl (K 0, 8, .inl (fun _ => 0)))] _ := hP
  have hD : va_D A [(h0, .inr (9, [.ref h1, .ref h6, .ref h7, .ref h8, .ref h9, .ref h10, .int 0])), (h1, .inr (8, [.int p0, .int 0, .int (-1), .int 0, .int 0, .int (-1), .int 0, .int 0, .int 0, .int 0, .int 0, .ref h2, .ref h3, .ref h4, .ref h11, .ref h12, .ref h13, .ref h14, .ref h15, .ref h16, .ref h17, .ref h18, .ref h19, .ref h20, .ref h21, .ref h22, .ref h23, .ref h24, .ref h25, .ref h26, .int 0, .ref h27, .ref h28, .ref h29, .ref h5, .int 0, .int 0, .ref h30, .ref h31, .int (-1), .ref h32, .ref h33])), (h2, .inl (K 1, 200, .inl (fun _ => 0))), (h3, .inl (K 0, 9, .inl (upd (fun _ => 1) 6 2))), (h4, .inl (K 1, 90, .inl (fun _ => 0))), (h5, .inl (K 0, 8, .inl (fun _ => 0)))] := hD
  refine lv_iload_n hx hb dX12_seats_22 rfl (lv_at hl 1 rfl) ?_
  have hP9 : va_P G vwCl [(h0, .inr (9, [.ref h1, .ref h6, .ref h7, .ref h8, .ref h9, .ref h10, .int 0])), (h1, .inr (8, [.int p0, .int 0, .int (-1), .int 0, .int 0, .int (-1), .int 0, .int 0, .int 0, .int 0, .int 0, .ref h2, .ref h3, .ref h4, .ref h11, .ref h12, .ref h13, .ref h14, .ref h15, .ref h16, .ref h17, .ref h18, .ref h19, .ref h20, .ref h21, .ref h22, .ref h23, .ref h24, .ref h25, .ref h26, .int 0, .ref h27, .ref h28, .ref h29, .ref h5, .int 0, .int 0, .ref h30, .ref h31, .int (-1), .ref h32, .ref h33])), (h2, .inl (K 1, 200, .inl (fun _ => 0))), (h3, .inl (K 0, 9, .inl (upd (fun _ => 1) 6 2))), (h4, .inl (K 1, 90, .inl (fun _ => 0))), (h5, .inl (K 0, 8, .inl (fun _ => 0)))] _ := hP
  have hD9 : va_D A [(h0, .inr (9, [.ref h1, .ref h6, .ref h7, .ref h8, .ref h9, .ref h10, .int 0])), (h1, .inr (8, [.int p0, .int 0, .int (-1), .int 0, .int 0, .int (-1), .int 0, .int 0, .int 0, .int 0, .int 0, .ref h2, .ref h3, .ref h4, .ref h11, .ref h12, .ref h13, .ref h14, .ref h15, .ref h16, .ref h17, .ref h18, .ref h19, .ref h20, .ref h21, .ref h22, .ref h23, .ref h24, .ref h25, .ref h26, .int 0, .ref h27, .ref h28, .ref h29, .ref h5, .int 0, .int 0, .ref h30, .ref h31, .int (-1), .ref h32, .ref h33])), (h2, .inl (K 1, 200, .inl (fun _ => 0))), (h3, .inl (K 0, 9, .inl (upd (fun _ => 1) 6 2))), (h4, .inl (K 1, 90, .inl (fun _ => 0))), (h5, .inl (K 0, 8, .inl (fun _ => 0)))] := hD
  exact W.iret (v := p0) hx hb hr (fun t ht hW => ⟨⟨p0, _, rfl, ⟨rfl, rfl⟩, by rw [ht]; exact hP9, hD9⟩, hS.F ht⟩) hS.2.2 dX12_seats_23
def e_X2_has_0 : List Cond := [.fieldLink RX2 19 "MotionFloor$House" "seats" "I", .fieldLink RX2 9 "MotionFloor$House" "there" "[Z"]
def v_X2_has_0 : List Cond := .code yX2_has cX2_has 2 (some .boolean) :: (e_X2_has_0 ++ (wsX20 ++ []))
theorem te_X2_has_0 : GoodIn lw_tbl e_X2_has_0 := wGc z64 (wGc z10 (wG0))
theorem t_X2_has_0 : GoodIn lw_tbl v_X2_has_0 := wGc z288 (wGa te_X2_has_0 (wGa zcX2 (wG0)))
set_option maxHeartbeats 4000000 in
set_option maxRecDepth 100000 in
theorem m_X2_has_0 (l : Launch) (G : va_G) (K : Nat → ClassId) (h0 h1 h2 : Nat) (p0 : Int32) (sz : Nat) : Met l yX2_has v_X2_has_0 ({ frames := 0, cells := 0, slots := 0, locals := 0 }) (va_Pc [.ref h0, .int p0] (wS G K sz [(h0, .inr (1, [.int 1, .ref h1, .int 0, .int (-1), .int 0, .int 0, .int (-1), .ref h2])), (h1, .inl (K 1, 200, .inl (fun _ => 0)))])) (va_Qi (fun (r : Int32) (u : va_W) => ((p0.toInt < 0 ∨ (p0.toInt ≥ 0 ∧ p0.toInt ≥ 1)) ∧ 0 = r ∧ u = [(h0, .inr (1, [.int 1, .ref h1, .int 0, .int (-1), .int 0, .int 0, .int (-1), .ref h2])), (h1, .inl (K 1, 200, .inl (fun _ => 0)))]) ∨ (((p0.toInt ≥ 0 ∧ p0.toInt < 1)) ∧ 1 = r ∧ u = [(h0, .inr (1, [.int 1, .ref h1, .int 0, .int (-1), .int 0, .int 0, .int (-1), .ref h2])), (h1, .inl (K 1, 200, .inl (fun _ => 0)))])) (wB G (va_A [(h0, .inr (1, [.int 1, .ref h1, .int 0, .int (-1), .int 0, .int 0, .int (-1), .ref h2])), (h1, .inl (K 1, 200, .inl (fun _ => 0)))] sz)) (va_A [(h0, .inr (1, [.int 1, .ref h1, .int 0, .int (-1), .int 0, .int 0, .int (-1), .ref h2])), (h1, .inl (K 1, 200, .inl (fun _ => 0)))] sz)) 0 0 (va_A [(h0, .inr (1, [.int 1, .ref h1, .int 0, .int (-1), .int 0, .int 0, .int (-1), .ref h2])), (h1, .inl (K 1, 200, .inl (fun _ => 0)))] sz) := by
  refine Met.ofW (cc := cX2_has) (maxL := 2) (ret := (some .boolean)) (by decide) rfl ?_
  intro p e s m args below meth c s₁ B hml hv
  obtain ⟨rfl, hsz, hP, hK, hD0, hE⟩ := hv
  have hx := B.exec
  have hb := B.bytes
  have hr := B.returns
  have hts := atoms_spec (ws := v_X2_has_0) B.pre
  have t_ := t_X2_has_0
  have mw : ∀ w ∈ e_X2_has_0, w ∈ v_X2_has_0 := fun w h => List.mem_cons_of_mem _ (List.mem_append_left _ h)
  have hw := fun w (h : w ∈ e_X2_has_0) => hts w (mw w h)
  have iX2 : ∀ w ∈ wsX20, w ∈ v_X2_has_0 := fun w h => List.mem_cons_of_mem _ (List.mem_append_right _ (List.mem_append_left _ h))
  have hown : s.vm.findClass RX2 = some m.cls := findClass_of_methodNamed B.named
  have hlocks := B.notSynchronized
  subst hsz
  have hD := hD0.self (sz := s.heap.size)
  generalize hAe : va_A [(h0, .inr (1, [.int 1, .ref h1, .int 0, .int (-1), .int 0, .int 0, .int (-1), .ref h2])), (h1, .inl (K 1, 200, .inl (fun _ => 0)))] s.heap.size = A at hD ⊢
  have hA : ∀ q : Nat, s.heap.size ≤ q → A q := fun q h => by rw [← hAe]; exact Or.inr h
  have hS : va_S A s.heap s.heap [] := va_S.rf
  have hP : va_P G vwCl [(h0, .inr (1, [.int 1, .ref h1, .int 0, .int (-1), .int 0, .int 0, .int (-1), .ref h2])), (h1, .inl (K 1, 200, .inl (fun _ => 0)))] s.heap := hP
  have hl := lv_entry ([.ref h0, .int p0]) (n := 2) (Nat.le_of_ble_eq_true rfl)
  rw [lg_entry_eq]
  generalize (lg_sl ([.ref h0, .int p0]) ++ List.replicate (2 - (lg_sl ([.ref h0, .int p0])).length) Slot.unset).toArray = ls at hl ⊢
  have hl : lv_has ls 2 [(0, .ref h0), (1, .int p0)] := hl
  refine lv_iload_n hx hb dX2_has_0 rfl (lv_at hl 1 rfl) ?_
  refine lv_if_lt (tgt := 25) hx hb dX2_has_1 (by decide) (fun c1 => ?_) (fun c1 => ?_)
  · have c1 : p0.toInt < 0 := wLt rfl (by decide) c1
    refine lv_iconst (v := 0) hx hb dX2_has_25 (by decide) ?_
    have hP9 : va_P G vwCl [(h0, .inr (1, [.int 1, .ref h1, .int 0, .int (-1), .int 0, .int 0, .int (-1), .ref h2])), (h1, .inl (K 1, 200, .inl (fun _ => 0)))] _ := hP
    have hD9 : va_D A [(h0, .inr (1, [.int 1, .ref h1, .int 0, .int (-1), .int 0, .int 0, .int (-1), .ref h2])), (h1, .inl (K 1, 200, .inl (fun _ => 0)))] := hD
    exact W.zret (v := 0) (ty := .boolean) hx hb hr rfl (fun t ht hW => ⟨⟨0, _, rfl, Or.inl ⟨(by first | omega | decide | simp), rfl, rfl⟩, by rw [ht]; exact hP9, hD9⟩, hS.F ht⟩) hS.2.2 dX2_has_26
  · have c1 : p0.toInt ≥ 0 := wNlt rfl (by decide) c1
    refine lv_iload_n hx hb dX2_has_4 rfl (lv_at hl 1 rfl) ?_
    refine lv_aload_n hx hb dX2_has_5 rfl (lv_at hl 0 rfl) ?_
    refine va_get (D := G) (ci := 1) (v := .int 1) (C := RX2) (T := TX2) (N := 8) hx hb hts iX2 hown hK hP 0 rfl rfl 0 (by decide) (hw (.fieldLink RX2 19 "MotionFloor$House" "seats" "I") (List.mem_of_getElem? (i := 0) rfl)) (fun _ h9 => h9) rfl dX2_has_6 ?_
    refine lv_icmp_ge (tgt := 25) hx hb dX2_has_9 (by decide) (fun c2 => ?_) (fun c2 => ?_)
    · have c2 : 1 ≤ p0.toInt := wLe (by decide) rfl c2
      refine lv_iconst (v := 0) hx hb dX2_has_25 (by decide) ?_
      have hP9 : va_P G vwCl [(h0, .inr (1, [.int 1, .ref h1, .int 0, .int (-1), .int 0, .int 0, .int (-1), .ref h2])), (h1, .inl (K 1, 200, .inl (fun _ => 0)))] _ := hP
      have hD9 : va_D A [(h0, .inr (1, [.int 1, .ref h1, .int 0, .int (-1), .int 0, .int 0, .int (-1), .ref h2])), (h1, .inl (K 1, 200, .inl (fun _ => 0)))] := hD
      exact W.zret (v := 0) (ty := .boolean) hx hb hr rfl (fun t ht hW => ⟨⟨0, _, rfl, Or.inl ⟨(by first | omega | decide | simp), rfl, rfl⟩, by rw [ht]; exact hP9, hD9⟩, hS.F ht⟩) hS.2.2 dX2_has_26
    · have c2 : 1 > p0.toInt := wNle (by decide) rfl c2
      obtain rfl : p0 = 0 := wIs (b := 0) (by decide) (by omega)
      have z_0 : (0 : Int32).toInt = 0 := by decide
      refine lv_iload_n hx hb dX2_has_12 rfl (lv_at hl 1 rfl) ?_
      refine lv_aload_n hx hb dX2_has_13 rfl (lv_at hl 0 rfl) ?_
      refine va_get (D := G) (ci := 1) (v := .ref h1) (C := RX2) (T := TX2) (N := 8) hx hb hts iX2 hown hK hP 0 rfl rfl 1 (by decide) (hw (.fieldLink RX2 9 "MotionFloor$House" "there" "[Z") (List.mem_of_getElem? (i := 1) rfl)) (fun _ h9 => h9) rfl dX2_has_14 ?_
      refine va_alen (v := 200) hx hb hK hP 1 1 rfl rfl rfl dX2_has_17 ?_
      refine lv_icmp_ge (tgt := 25) hx hb dX2_has_18 (by decide) (fun c_ => absurd c_ (by decide)) (fun _ => ?_)
      refine lv_iconst (v := 1) hx hb dX2_has_21 (by decide) ?_
      refine lv_goto (tgt := 26) hx hb dX2_has_22 (by decide) ?_
      have hP9 : va_P G vwCl [(h0, .inr (1, [.int 1, .ref h1, .int 0, .int (-1), .int 0, .int 0, .int (-1), .ref h2])), (h1, .inl (K 1, 200, .inl (fun _ => 0)))] _ := hP
      have hD9 : va_D A [(h0, .inr (1, [.int 1, .ref h1, .int 0, .int (-1), .int 0, .int 0, .int (-1), .ref h2])), (h1, .inl (K 1, 200, .inl (fun _ => 0)))] := hD
      exact W.zret (v := 1) (ty := .boolean) hx hb hr rfl (fun t ht hW => ⟨⟨1, _, rfl, Or.inr (⟨(by first | omega | decide | simp), rfl, rfl⟩), by rw [ht]; exact hP9, hD9⟩, hS.F ht⟩) hS.2.2 dX2_has_26
def e_X2_isThere_0 : List Cond := [.fieldLink RX2 19 "MotionFloor$House" "seats" "I", .fieldLink RX2 9 "MotionFloor$House" "there" "[Z"]
def v_X2_isThere_0 : List Cond := .code yX2_isThere cX2_isThere 2 (some .boolean) :: (e_X2_isThere_0 ++ (wsX20 ++ []))
theorem te_X2_isThere_0 : GoodIn lw_tbl e_X2_isThere_0 := wGc z64 (wGc z10 (wG0))
theorem t_X2_isThere_0 : GoodIn lw_tbl v_X2_isThere_0 := wGc z289 (wGa te_X2_isThere_0 (wGa zcX2 (wG0)))
set_option maxHeartbeats 4000000 in
set_option maxRecDepth 100000 in
theorem m_X2_isThere_0 (l : Launch) (G : va_G) (K : Nat → ClassId) (h0 h1 h2 : Nat) (sz : Nat) : Met l yX2_isThere v_X2_isThere_0 ({ frames := 0, cells := 0, slots := 0, locals := 0 }) (va_Pc [.ref h0, .int 0] (wS G K sz [(h0, .inr (1, [.int 1, .ref h1, .int 0, .int (-1), .int 0, .int 0, .int (-1), .ref h2])), (h1, .inl (K 1, 200, .inl (fun _ => 0)))])) (va_Qi (fun (r : Int32) (u : va_W) => (0 = r ∧ u = [(h0, .inr (1, [.int 1, .ref h1, .int 0, .int (-1), .int 0, .int 0, .int (-1), .ref h2])), (h1, .inl (K 1, 200, .inl (fun _ => 0)))])) (wB G (va_A [(h0, .inr (1, [.int 1, .ref h1, .int 0, .int (-1), .int 0, .int 0, .int (-1), .ref h2])), (h1, .inl (K 1, 200, .inl (fun _ => 0)))] sz)) (va_A [(h0, .inr (1, [.int 1, .ref h1, .int 0, .int (-1), .int 0, .int 0, .int (-1), .ref h2])), (h1, .inl (K 1, 200, .inl (fun _ => 0)))] sz)) 0 0 (va_A [(h0, .inr (1, [.int 1, .ref h1, .int 0, .int (-1), .int 0, .int 0, .int (-1), .ref h2])), (h1, .inl (K 1, 200, .inl (fun _ => 0)))] sz) := by
  refine Met.ofW (cc := cX2_isThere) (maxL := 2) (ret := (some .boolean)) (by decide) rfl ?_
  intro p e s m args below meth c s₁ B hml hv
  obtain ⟨rfl, hsz, hP, hK, hD0, hE⟩ := hv
  have hx := B.exec
  have hb := B.bytes
  have hr := B.returns
  have hts := atoms_spec (ws := v_X2_isThere_0) B.pre
  have t_ := t_X2_isThere_0
  have mw : ∀ w ∈ e_X2_isThere_0, w ∈ v_X2_isThere_0 := fun w h => List.mem_cons_of_mem _ (List.mem_append_left _ h)
  have hw := fun w (h : w ∈ e_X2_isThere_0) => hts w (mw w h)
  have iX2 : ∀ w ∈ wsX20, w ∈ v_X2_isThere_0 := fun w h => List.mem_cons_of_mem _ (List.mem_append_right _ (List.mem_append_left _ h))
  have hown : s.vm.findClass RX2 = some m.cls := findClass_of_methodNamed B.named
  have hlocks := B.notSynchronized
  subst hsz
  have hD := hD0.self (sz := s.heap.size)
  generalize hAe : va_A [(h0, .inr (1, [.int 1, .ref h1, .int 0, .int (-1), .int 0, .int 0, .int (-1), .ref h2])), (h1, .inl (K 1, 200, .inl (fun _ => 0)))] s.heap.size = A at hD ⊢
  have hA : ∀ q : Nat, s.heap.size ≤ q → A q := fun q h => by rw [← hAe]; exact Or.inr h
  have hS : va_S A s.heap s.heap [] := va_S.rf
  have hP : va_P G vwCl [(h0, .inr (1, [.int 1, .ref h1, .int 0, .int (-1), .int 0, .int 0, .int (-1), .ref h2])), (h1, .inl (K 1, 200, .inl (fun _ => 0)))] s.heap := hP
  have hl := lv_entry ([.ref h0, .int 0]) (n := 2) (Nat.le_of_ble_eq_true rfl)
  rw [lg_entry_eq]
  generalize (lg_sl ([.ref h0, .int 0]) ++ List.replicate (2 - (lg_sl ([.ref h0, .int 0])).length) Slot.unset).toArray = ls at hl ⊢
  have hl : lv_has ls 2 [(0, .ref h0), (1, .int 0)] := hl
  refine lv_iload_n hx hb dX2_isThere_0 rfl (lv_at hl 1 rfl) ?_
  refine lv_if_lt (tgt := 34) hx hb dX2_isThere_1 (by decide) (fun c_ => absurd c_ (by decide)) (fun _ => ?_)
  refine lv_iload_n hx hb dX2_isThere_4 rfl (lv_at hl 1 rfl) ?_
  refine lv_aload_n hx hb dX2_isThere_5 rfl (lv_at hl 0 rfl) ?_
  refine va_get (D := G) (ci := 1) (v := .int 1) (C := RX2) (T := TX2) (N := 8) hx hb hts iX2 hown hK hP 0 rfl rfl 0 (by decide) (hw (.fieldLink RX2 19 "MotionFloor$House" "seats" "I") (List.mem_of_getElem? (i := 0) rfl)) (fun _ h9 => h9) rfl dX2_isThere_6 ?_
  refine lv_icmp_ge (tgt := 34) hx hb dX2_isThere_9 (by decide) (fun c_ => absurd c_ (by decide)) (fun _ => ?_)
  refine lv_iload_n hx hb dX2_isThere_12 rfl (lv_at hl 1 rfl) ?_
  refine lv_aload_n hx hb dX2_isThere_13 rfl (lv_at hl 0 rfl) ?_
  refine va_get (D := G) (ci := 1) (v := .ref h1) (C := RX2) (T := TX2) (N := 8) hx hb hts iX2 hown hK hP 0 rfl rfl 1 (by decide) (hw (.fieldLink RX2 9 "MotionFloor$House" "there" "[Z") (List.mem_of_getElem? (i := 1) rfl)) (fun _ h9 => h9) rfl dX2_isThere_14 ?_
  refine va_alen (v := 200) hx hb hK hP 1 1 rfl rfl rfl dX2_isThere_17 ?_
  refine lv_icmp_ge (tgt := 34) hx hb dX2_isThere_18 (by decide) (fun c_ => absurd c_ (by decide)) (fun _ => ?_)
  refine lv_aload_n hx hb dX2_isThere_21 rfl (lv_at hl 0 rfl) ?_
  refine va_get (D := G) (ci := 1) (v := .ref h1) (C := RX2) (T := TX2) (N := 8) hx hb hts iX2 hown hK hP 0 rfl rfl 1 (by decide) (hw (.fieldLink RX2 9 "MotionFloor$House" "there" "[Z") (List.mem_of_getElem? (i := 1) rfl)) (fun _ h9 => h9) rfl dX2_isThere_22 ?_
  refine lv_iload_n hx hb dX2_isThere_25 rfl (lv_at hl 1 rfl) ?_
  refine va_zald hx hb hK hP 1 1 rfl rfl (vp_in_iff.mpr (by decide)) dX2_isThere_26 ?_
  refine wTop (v1 := .int 0) rfl ?_
  refine lv_if_eq (tgt := 34) hx hb dX2_isThere_27 (by decide) (fun _ => ?_) (fun c_ => absurd c_ (by decide))
  refine lv_iconst (v := 0) hx hb dX2_isThere_34 (by decide) ?_
  have hP9 : va_P G vwCl [(h0, .inr (1, [.int 1, .ref h1, .int 0, .int (-1), .int 0, .int 0, .int (-1), .ref h2])), (h1, .inl (K 1, 200, .inl (fun _ => 0)))] _ := hP
  have hD9 : va_D A [(h0, .inr (1, [.int 1, .ref h1, .int 0, .int (-1), .int 0, .int 0, .int (-1), .ref h2])), (h1, .inl (K 1, 200, .inl (fun _ => 0)))] := hD
  exact W.zret (v := 0) (ty := .boolean) hx hb hr rfl (fun t ht hW => ⟨⟨0, _, rfl, ⟨rfl, rfl⟩, by rw [ht]; exact hP9, hD9⟩, hS.F ht⟩) hS.2.2 dX2_isThere_35
def e_X8_againstThere_0 : List Cond := [.methodLink RX8 114 yX2_has, .instanceMethod yX2_has, .selects RX2 yX2_has yX2_has, .initialized RX2, .methodLink RX8 82 yX2_isThere, .instanceMethod yX2_isThere, .selects RX2 yX2_isThere yX2_isThere]
def v_X8_againstThere_0 : List Cond := .code yX8_againstThere cX8_againstThere 2 (some .int) :: (e_X8_againstThere_0 ++ (v_X2_has_0 ++ (v_X2_isThere_0 ++ [])))
theorem te_X8_againstThere_0 : GoodIn lw_tbl e_X8_againstThere_0 := wGc z295 (wGc z294 (wGc z293 (wGc z57 (wGc z292 (wGc z291 (wGc z290 (wG0)))))))
theorem t_X8_againstThere_0 : GoodIn lw_tbl v_X8_againstThere_0 := wGc z296 (wGa te_X8_againstThere_0 (wGa t_X2_has_0 (wGa t_X2_isThere_0 (wG0))))
set_option maxHeartbeats 4000000 in
set_option maxRecDepth 100000 in
theorem m_X8_againstThere_0 (l : Launch) (G : va_G) (K : Nat → ClassId) (h0 h1 h2 : Nat) (p0 : Int32) (sz : Nat) : Met l yX8_againstThere v_X8_againstThere_0 ({ frames := 1, cells := 0, slots := 0, locals := 21 }) (va_Pc [.ref h0, .int p0] (wS G K sz [(h0, .inr (1, [.int 1, .ref h1, .int 0, .int (-1), .int 0, .int 0, .int (-1), .ref h2])), (h1, .inl (K 1, 200, .inl (fun _ => 0)))])) (va_Qi (fun (r : Int32) (u : va_W) => (((p0.toInt < 0 ∨ (p0.toInt ≥ 0 ∧ p0.toInt ≥ 1))) ∧ 9 = r ∧ u = [(h0, .inr (1, [.int 1, .ref h1, .int 0, .int (-1), .int 0, .int 0, .int (-1), .ref h2])), (h1, .inl (K 1, 200, .inl (fun _ => 0)))]) ∨ ((((p0.toInt ≥ 0 ∧ p0.toInt < 1))) ∧ 0 = r ∧ u = [(h0, .inr (1, [.int 1, .ref h1, .int 0, .int (-1), .int 0, .int 0, .int (-1), .ref h2])), (h1, .inl (K 1, 200, .inl (fun _ => 0)))])) (wB G (va_A [(h0, .inr (1, [.int 1, .ref h1, .int 0, .int (-1), .int 0, .int 0, .int (-1), .ref h2])), (h1, .inl (K 1, 200, .inl (fun _ => 0)))] sz)) (va_A [(h0, .inr (1, [.int 1, .ref h1, .int 0, .int (-1), .int 0, .int 0, .int (-1), .ref h2])), (h1, .inl (K 1, 200, .inl (fun _ => 0)))] sz)) 0 0 (va_A [(h0, .inr (1, [.int 1, .ref h1, .int 0, .int (-1), .int 0, .int 0, .int (-1), .ref h2])), (h1, .inl (K 1, 200, .inl (fun _ => 0)))] sz) := by
  refine Met.ofW (cc := cX8_againstThere) (maxL := 2) (ret := (some .int)) (by decide) rfl ?_
  intro p e s m args below meth c s₁ B hml hv
  obtain ⟨rfl, hsz, hP, hK, hD0, hE⟩ := hv
  have hx := B.exec
  have hb := B.bytes
  have hr := B.returns
  have hts := atoms_spec (ws := v_X8_againstThere_0) B.pre
  have t_ := t_X8_againstThere_0
  have mw : ∀ w ∈ e_X8_againstThere_0, w ∈ v_X8_againstThere_0 := fun w h => List.mem_cons_of_mem _ (List.mem_append_left _ h)
  have hw := fun w (h : w ∈ e_X8_againstThere_0) => hts w (mw w h)
  have j_X2_has_0 : ∀ w ∈ v_X2_has_0, w ∈ v_X8_againstThere_0 := fun w h => List.mem_cons_of_mem _ (List.mem_append_right _ (List.mem_append_left _ h))
  have j_X2_isThere_0 : ∀ w ∈ v_X2_isThere_0, w ∈ v_X8_againstThere_0 := fun w h => List.mem_cons_of_mem _ (List.mem_append_right _ (List.mem_append_right _ (List.mem_append_left _ h)))
  have hown : s.vm.findClass RX8 = some m.cls := findClass_of_methodNamed B.named
  have hlocks := B.notSynchronized
  subst hsz
  have hD := hD0.self (sz := s.heap.size)
  generalize hAe : va_A [(h0, .inr (1, [.int 1, .ref h1, .int 0, .int (-1), .int 0, .int 0, .int (-1), .ref h2])), (h1, .inl (K 1, 200, .inl (fun _ => 0)))] s.heap.size = A at hD ⊢
  have hA : ∀ q : Nat, s.heap.size ≤ q → A q := fun q h => by rw [← hAe]; exact Or.inr h
  have hS : va_S A s.heap s.heap [] := va_S.rf
  have hP : va_P G vwCl [(h0, .inr (1, [.int 1, .ref h1, .int 0, .int (-1), .int 0, .int 0, .int (-1), .ref h2])), (h1, .inl (K 1, 200, .inl (fun _ => 0)))] s.heap := hP
  have hl := lv_entry ([.ref h0, .int p0]) (n := 2) (Nat.le_of_ble_eq_true rfl)
  rw [lg_entry_eq]
  generalize (lg_sl ([.ref h0, .int p0]) ++ List.replicate (2 - (lg_sl ([.ref h0, .int p0])).length) Slot.unset).toArray = ls at hl ⊢
  have hl : lv_has ls 2 [(0, .ref h0), (1, .int p0)] := hl
  refine lv_aload_n hx hb dX8_againstThere_0 rfl (lv_at hl 0 rfl) ?_
  refine lv_iload_n hx hb dX8_againstThere_1 rfl (lv_at hl 1 rfl) ?_
  have hPc := hP.sub (ws' := [(h0, .inr (1, [.int 1, .ref h1, .int 0, .int (-1), .int 0, .int 0, .int (-1), .ref h2])), (h1, .inl (K 1, 200, .inl (fun _ => 0)))]) [0, 1] rfl
  have hDc := hD.sub (ws' := [(h0, .inr (1, [.int 1, .ref h1, .int 0, .int (-1), .int 0, .int 0, .int (-1), .ref h2])), (h1, .inl (K 1, 200, .inl (fun _ => 0)))]) [0, 1] (by decide) rfl
  refine wGoi (wc := [(h0, .inr (1, [.int 1, .ref h1, .int 0, .int (-1), .int 0, .int 0, .int (-1), .ref h2])), (h1, .inl (K 1, 200, .inl (fun _ => 0)))]) (wr := []) (va_runV (As := [.int p0]) (rest := []) ⟨hx, hb, hml, hown, hts⟩ (m_X2_has_0 l G K h0 h1 h2 p0 _) (cwV 1 hts (wGV t_ (mw (.methodLink RX8 114 yX2_has) (List.mem_of_getElem? (i := 0) rfl)) (mw (.instanceMethod yX2_has) (List.mem_of_getElem? (i := 1) rfl)) (mw (.selects RX2 yX2_has yX2_has) (List.mem_of_getElem? (i := 2) rfl)) (mw (.initialized RX2) (List.mem_of_getElem? (i := 3) rfl)) j_X2_has_0) rfl rfl rfl (by decide +kernel) ⟨Nat.le_of_ble_eq_true rfl, Nat.le_of_ble_eq_true rfl⟩) (wPV hK hE hPc hDc 1 0 rfl rfl) rfl rfl hl.1 rfl (lv_room (Nat.le_of_ble_eq_true rfl)) dX8_againstThere_2 ⟨Nat.le_of_ble_eq_true rfl, Nat.le_of_ble_eq_true rfl⟩) hP hD hS hA [0, 1] [] rfl rfl rfl (by decide) (fun r u H locs hw hP hD hS => ?_)
  rcases hw with ⟨c_w, rfl, rfl⟩ | ⟨c_w, rfl, rfl⟩
  · have c1 := c_w
    have hP : va_P G vwCl [(h0, .inr (1, [.int 1, .ref h1, .int 0, .int (-1), .int 0, .int 0, .int (-1), .ref h2])), (h1, .inl (K 1, 200, .inl (fun _ => 0)))] _ := hP
    have hD : va_D A [(h0, .inr (1, [.int 1, .ref h1, .int 0, .int (-1), .int 0, .int 0, .int (-1), .ref h2])), (h1, .inl (K 1, 200, .inl (fun _ => 0)))] := hD
    refine lv_if_ne (tgt := 11) hx hb dX8_againstThere_5 (by decide) (fun c_ => absurd c_ (by decide)) (fun _ => ?_)
    refine lv_bipush (v := 9) hx hb dX8_againstThere_8 (by decide) ?_
    have hP9 : va_P G vwCl [(h0, .inr (1, [.int 1, .ref h1, .int 0, .int (-1), .int 0, .int 0, .int (-1), .ref h2])), (h1, .inl (K 1, 200, .inl (fun _ => 0)))] _ := hP
    have hD9 : va_D A [(h0, .inr (1, [.int 1, .ref h1, .int 0, .int (-1), .int 0, .int 0, .int (-1), .ref h2])), (h1, .inl (K 1, 200, .inl (fun _ => 0)))] := hD
    exact W.iret (v := 9) hx hb hr (fun t ht hW => ⟨⟨9, _, rfl, Or.inl ⟨(by first | omega | decide | simp), rfl, rfl⟩, by rw [ht]; exact hP9, hD9⟩, hS.F ht⟩) hS.2.2 dX8_againstThere_10
  · have c2 := c_w
    have hP : va_P G vwCl [(h0, .inr (1, [.int 1, .ref h1, .int 0, .int (-1), .int 0, .int 0, .int (-1), .ref h2])), (h1, .inl (K 1, 200, .inl (fun _ => 0)))] _ := hP
    have hD : va_D A [(h0, .inr (1, [.int 1, .ref h1, .int 0, .int (-1), .int 0, .int 0, .int (-1), .ref h2])), (h1, .inl (K 1, 200, .inl (fun _ => 0)))] := hD
    obtain rfl : p0 = 0 := wIs (b := 0) (by decide) (by omega)
    have z_0 : (0 : Int32).toInt = 0 := by decide
    refine lv_if_ne (tgt := 11) hx hb dX8_againstThere_5 (by decide) (fun _ => ?_) (fun c_ => absurd c_ (by decide))
    refine lv_aload_n hx hb dX8_againstThere_11 rfl (lv_at hl 0 rfl) ?_
    refine lv_iload_n hx hb dX8_againstThere_12 rfl (lv_at hl 1 rfl) ?_
    have hPc := hP.sub (ws' := [(h0, .inr (1, [.int 1, .ref h1, .int 0, .int (-1), .int 0, .int 0, .int (-1), .ref h2])), (h1, .inl (K 1, 200, .inl (fun _ => 0)))]) [0, 1] rfl
    have hDc := hD.sub (ws' := [(h0, .inr (1, [.int 1, .ref h1, .int 0, .int (-1), .int 0, .int 0, .int (-1), .ref h2])), (h1, .inl (K 1, 200, .inl (fun _ => 0)))]) [0, 1] (by decide) rfl
    refine wGoi (wc := [(h0, .inr (1, [.int 1, .ref h1, .int 0, .int (-1), .int 0, .int 0, .int (-1), .ref h2])), (h1, .inl (K 1, 200, .inl (fun _ => 0)))]) (wr := []) (va_runV (As := [.int 0]) (rest := []) ⟨hx, hb, hml, hown, hts⟩ (m_X2_isThere_0 l G K h0 h1 h2 _) (cwV 1 hts (wGV t_ (mw (.methodLink RX8 82 yX2_isThere) (List.mem_of_getElem? (i := 4) rfl)) (mw (.instanceMethod yX2_isThere) (List.mem_of_getElem? (i := 5) rfl)) (mw (.selects RX2 yX2_isThere yX2_isThere) (List.mem_of_getElem? (i := 6) rfl)) (mw (.initialized RX2) (List.mem_of_getElem? (i := 3) rfl)) j_X2_isThere_0) rfl rfl rfl (by decide +kernel) ⟨Nat.le_of_ble_eq_true rfl, Nat.le_of_ble_eq_true rfl⟩) (wPV hK hE hPc hDc 1 0 rfl rfl) rfl rfl hl.1 rfl (lv_room (Nat.le_of_ble_eq_true rfl)) dX8_againstThere_13 ⟨Nat.le_of_ble_eq_true rfl, Nat.le_of_ble_eq_true rfl⟩) hP hD hS hA [0, 1] [] rfl rfl rfl (by decide) (fun r u H locs hw hP hD hS => ?_)
    rcases hw with ⟨rfl, rfl⟩
    have hP : va_P G vwCl [(h0, .inr (1, [.int 1, .ref h1, .int 0, .int (-1), .int 0, .int 0, .int (-1), .ref h2])), (h1, .inl (K 1, 200, .inl (fun _ => 0)))] _ := hP
    have hD : va_D A [(h0, .inr (1, [.int 1, .ref h1, .int 0, .int (-1), .int 0, .int 0, .int (-1), .ref h2])), (h1, .inl (K 1, 200, .inl (fun _ => 0)))] := hD
    refine lv_if_eq (tgt := 24) hx hb dX8_againstThere_16 (by decide) (fun _ => ?_) (fun c_ => absurd c_ (by decide))
    refine lv_iconst (v := 0) hx hb dX8_againstThere_24 (by decide) ?_
    have hP9 : va_P G vwCl [(h0, .inr (1, [.int 1, .ref h1, .int 0, .int (-1), .int 0, .int 0, .int (-1), .ref h2])), (h1, .inl (K 1, 200, .inl (fun _ => 0)))] _ := hP
    have hD9 : va_D A [(h0, .inr (1, [.int 1, .ref h1, .int 0, .int (-1), .int 0, .int 0, .int (-1), .ref h2])), (h1, .inl (K 1, 200, .inl (fun _ => 0)))] := hD
    exact W.iret (v := 0) hx hb hr (fun t ht hW => ⟨⟨0, _, rfl, Or.inr (⟨(by first | omega | decide | simp), rfl, rfl⟩), by rw [ht]; exact hP9, hD9⟩, hS.F ht⟩) hS.2.2 dX8_againstThere_25
def e_X8_againstOnFloor_0 : List Cond := [.fieldLink RX8 34 "MotionFloor$Assembly" "house" "LMotionFloor$House;", .methodLink RX8 38 yX8_againstThere, .static yX8_againstThere, .initialized RX8]
def v_X8_againstOnFloor_0 : List Cond := .code yX8_againstOnFloor cX8_againstOnFloor 4 (some .int) :: (e_X8_againstOnFloor_0 ++ (wsX00 ++ (v_X8_againstThere_0 ++ [])))
theorem te_X8_againstOnFloor_0 : GoodIn lw_tbl e_X8_againstOnFloor_0 := wGc z300 (wGc z299 (wGc z298 (wGc z297 (wG0))))
theorem t_X8_againstOnFloor_0 : GoodIn lw_tbl v_X8_againstOnFloor_0 := wGc z301 (wGa te_X8_againstOnFloor_0 (wGa zcX0 (wGa t_X8_againstThere_0 (wG0))))
set_option maxHeartbeats 4000000 in
set_option maxRecDepth 100000 in
theorem m_X8_againstOnFloor_0 (l : Launch) (G : va_G) (K : Nat → ClassId) (h0 h1 h2 h3 h4 h5 h6 h7 h8 h9 : Nat) (p0 : Int32) (sz : Nat) : Met l yX8_againstOnFloor v_X8_againstOnFloor_0 ({ frames := 2, cells := 0, slots := 0, locals := 42 }) (va_Pc [.ref h0, .int 1, .int p0, .int 0] (wS G K sz [(h0, .inr (0, [.ref h1, .ref h3, .ref h4, .ref h5, .ref h6, .ref h7, .ref h8, .int 0, .int 0, .int 0, .null])), (h1, .inr (1, [.int 1, .ref h2, .int 0, .int (-1), .int 0, .int 0, .int (-1), .ref h9])), (h2, .inl (K 1, 200, .inl (fun _ => 0)))])) (va_Qi (fun (r : Int32) (u : va_W) => ((((p0.toInt < 0 ∨ (p0.toInt ≥ 0 ∧ p0.toInt ≥ 1)))) ∧ 9 = r ∧ u = [(h0, .inr (0, [.ref h1, .ref h3, .ref h4, .ref h5, .ref h6, .ref h7, .ref h8, .int 0, .int 0, .int 0, .null])), (h1, .inr (1, [.int 1, .ref h2, .int 0, .int (-1), .int 0, .int 0, .int (-1), .ref h9])), (h2, .inl (K 1, 200, .inl (fun _ => 0)))]) ∨ (((((p0.toInt ≥ 0 ∧ p0.toInt < 1)))) ∧ 0 = r ∧ u = [(h0, .inr (0, [.ref h1, .ref h3, .ref h4, .ref h5, .ref h6, .ref h7, .ref h8, .int 0, .int 0, .int 0, .null])), (h1, .inr (1, [.int 1, .ref h2, .int 0, .int (-1), .int 0, .int 0, .int (-1), .ref h9])), (h2, .inl (K 1, 200, .inl (fun _ => 0)))])) (wB G (va_A [(h0, .inr (0, [.ref h1, .ref h3, .ref h4, .ref h5, .ref h6, .ref h7, .ref h8, .int 0, .int 0, .int 0, .null])), (h1, .inr (1, [.int 1, .ref h2, .int 0, .int (-1), .int 0, .int 0, .int (-1), .ref h9])), (h2, .inl (K 1, 200, .inl (fun _ => 0)))] sz)) (va_A [(h0, .inr (0, [.ref h1, .ref h3, .ref h4, .ref h5, .ref h6, .ref h7, .ref h8, .int 0, .int 0, .int 0, .null])), (h1, .inr (1, [.int 1, .ref h2, .int 0, .int (-1), .int 0, .int 0, .int (-1), .ref h9])), (h2, .inl (K 1, 200, .inl (fun _ => 0)))] sz)) 0 0 (va_A [(h0, .inr (0, [.ref h1, .ref h3, .ref h4, .ref h5, .ref h6, .ref h7, .ref h8, .int 0, .int 0, .int 0, .null])), (h1, .inr (1, [.int 1, .ref h2, .int 0, .int (-1), .int 0, .int 0, .int (-1), .ref h9])), (h2, .inl (K 1, 200, .inl (fun _ => 0)))] sz) := by
  refine Met.ofW (cc := cX8_againstOnFloor) (maxL := 4) (ret := (some .int)) (by decide) rfl ?_
  intro p e s m args below meth c s₁ B hml hv
  obtain ⟨rfl, hsz, hP, hK, hD0, hE⟩ := hv
  have hx := B.exec
  have hb := B.bytes
  have hr := B.returns
  have hts := atoms_spec (ws := v_X8_againstOnFloor_0) B.pre
  have t_ := t_X8_againstOnFloor_0
  have mw : ∀ w ∈ e_X8_againstOnFloor_0, w ∈ v_X8_againstOnFloor_0 := fun w h => List.mem_cons_of_mem _ (List.mem_append_left _ h)
  have hw := fun w (h : w ∈ e_X8_againstOnFloor_0) => hts w (mw w h)
  have iX0 : ∀ w ∈ wsX00, w ∈ v_X8_againstOnFloor_0 := fun w h => List.mem_cons_of_mem _ (List.mem_append_right _ (List.mem_append_left _ h))
  have j_X8_againstThere_0 : ∀ w ∈ v_X8_againstThere_0, w ∈ v_X8_againstOnFloor_0 := fun w h => List.mem_cons_of_mem _ (List.mem_append_right _ (List.mem_append_right _ (List.mem_append_left _ h)))
  have hown : s.vm.findClass RX8 = some m.cls := findClass_of_methodNamed B.named
  have hlocks := B.notSynchronized
  subst hsz
  have hD := hD0.self (sz := s.heap.size)
  generalize hAe : va_A [(h0, .inr (0, [.ref h1, .ref h3, .ref h4, .ref h5, .ref h6, .ref h7, .ref h8, .int 0, .int 0, .int 0, .null])), (h1, .inr (1, [.int 1, .ref h2, .int 0, .int (-1), .int 0, .int 0, .int (-1), .ref h9])), (h2, .inl (K 1, 200, .inl (fun _ => 0)))] s.heap.size = A at hD ⊢
  have hA : ∀ q : Nat, s.heap.size ≤ q → A q := fun q h => by rw [← hAe]; exact Or.inr h
  have hS : va_S A s.heap s.heap [] := va_S.rf
  have hP : va_P G vwCl [(h0, .inr (0, [.ref h1, .ref h3, .ref h4, .ref h5, .ref h6, .ref h7, .ref h8, .int 0, .int 0, .int 0, .null])), (h1, .inr (1, [.int 1, .ref h2, .int 0, .int (-1), .int 0, .int 0, .int (-1), .ref h9])), (h2, .inl (K 1, 200, .inl (fun _ => 0)))] s.heap := hP
  have hl := lv_entry ([.ref h0, .int 1, .int p0, .int 0]) (n := 4) (Nat.le_of_ble_eq_true rfl)
  rw [lg_entry_eq]
  generalize (lg_sl ([.ref h0, .int 1, .int p0, .int 0]) ++ List.replicate (4 - (lg_sl ([.ref h0, .int 1, .int p0, .int 0])).length) Slot.unset).toArray = ls at hl ⊢
  have hl : lv_has ls 4 [(0, .ref h0), (1, .int 1), (2, .int p0), (3, .int 0)] := hl
  refine lv_iload_n hx hb dX8_againstOnFloor_0 rfl (lv_at hl 1 rfl) ?_
  refine lv_tableIn (off := 51) (tgt := 52) hx hb dX8_againstOnFloor_1 (by decide) (by decide) (by decide) (by decide) ?_
  refine lv_aload_n hx hb dX8_againstOnFloor_52 rfl (lv_at hl 0 rfl) ?_
  refine va_get (D := G) (ci := 0) (v := .ref h1) (C := RX0) (T := TX0) (N := 11) hx hb hts iX0 hown hK hP 0 rfl rfl 0 (by decide) (hw (.fieldLink RX8 34 "MotionFloor$Assembly" "house" "LMotionFloor$House;") (List.mem_of_getElem? (i := 0) rfl)) (fun _ h9 => h9) rfl dX8_againstOnFloor_53 ?_
  refine lv_iload_n hx hb dX8_againstOnFloor_56 rfl (lv_at hl 2 rfl) ?_
  have hPc := hP.sub (ws' := [(h1, .inr (1, [.int 1, .ref h2, .int 0, .int (-1), .int 0, .int 0, .int (-1), .ref h9])), (h2, .inl (K 1, 200, .inl (fun _ => 0)))]) [1, 2] rfl
  have hDc := hD.sub (ws' := [(h1, .inr (1, [.int 1, .ref h2, .int 0, .int (-1), .int 0, .int 0, .int (-1), .ref h9])), (h2, .inl (K 1, 200, .inl (fun _ => 0)))]) [1, 2] (by decide) rfl
  refine wGoi (wc := [(h1, .inr (1, [.int 1, .ref h2, .int 0, .int (-1), .int 0, .int 0, .int (-1), .ref h9])), (h2, .inl (K 1, 200, .inl (fun _ => 0)))]) (wr := [(h0, .inr (0, [.ref h1, .ref h3, .ref h4, .ref h5, .ref h6, .ref h7, .ref h8, .int 0, .int 0, .int 0, .null]))]) (va_runS (As := [.ref h1, .int p0]) (rest := []) ⟨hx, hb, hml, hown, hts⟩ (m_X8_againstThere_0 l G K h1 h2 h9 p0 _) (va_cwS 2 hts (wGS t_ (mw (.methodLink RX8 38 yX8_againstThere) (List.mem_of_getElem? (i := 1) rfl)) (mw (.static yX8_againstThere) (List.mem_of_getElem? (i := 2) rfl)) (mw (.initialized RX8) (List.mem_of_getElem? (i := 3) rfl)) j_X8_againstThere_0) rfl rfl rfl (by decide +kernel) ⟨Nat.le_of_ble_eq_true rfl, Nat.le_of_ble_eq_true rfl⟩) (wPS hK hE hPc hDc) rfl rfl hl.1 rfl (lv_room (Nat.le_of_ble_eq_true rfl)) dX8_againstOnFloor_57 ⟨Nat.le_of_ble_eq_true rfl, Nat.le_of_ble_eq_true rfl⟩) hP hD hS hA [1, 2] [0] rfl rfl rfl (by decide) (fun r u H locs hw hP hD hS => ?_)
  rcases hw with ⟨c_w, rfl, rfl⟩ | ⟨c_w, rfl, rfl⟩
  · have c1 := c_w
    have hP : va_P G vwCl [(h0, .inr (0, [.ref h1, .ref h3, .ref h4, .ref h5, .ref h6, .ref h7, .ref h8, .int 0, .int 0, .int 0, .null])), (h1, .inr (1, [.int 1, .ref h2, .int 0, .int (-1), .int 0, .int 0, .int (-1), .ref h9])), (h2, .inl (K 1, 200, .inl (fun _ => 0)))] _ := hP
    have hD : va_D A [(h0, .inr (0, [.ref h1, .ref h3, .ref h4, .ref h5, .ref h6, .ref h7, .ref h8, .int 0, .int 0, .int 0, .null])), (h1, .inr (1, [.int 1, .ref h2, .int 0, .int (-1), .int 0, .int 0, .int (-1), .ref h9])), (h2, .inl (K 1, 200, .inl (fun _ => 0)))] := hD
    have hP9 : va_P G vwCl [(h0, .inr (0, [.ref h1, .ref h3, .ref h4, .ref h5, .ref h6, .ref h7, .ref h8, .int 0, .int 0, .int 0, .null])), (h1, .inr (1, [.int 1, .ref h2, .int 0, .int (-1), .int 0, .int 0, .int (-1), .ref h9])), (h2, .inl (K 1, 200, .inl (fun _ => 0)))] _ := hP
    have hD9 : va_D A [(h0, .inr (0, [.ref h1, .ref h3, .ref h4, .ref h5, .ref h6, .ref h7, .ref h8, .int 0, .int 0, .int 0, .null])), (h1, .inr (1, [.int 1, .ref h2, .int 0, .int (-1), .int 0, .int 0, .int (-1), .ref h9])), (h2, .inl (K 1, 200, .inl (fun _ => 0)))] := hD
    exact W.iret (v := 9) hx hb hr (fun t ht hW => ⟨⟨9, _, rfl, Or.inl ⟨(by first | omega | decide | simp), rfl, rfl⟩, by rw [ht]; exact hP9, hD9⟩, hS.F ht⟩) hS.2.2 dX8_againstOnFloor_60
  · have c2 := c_w
    have hP : va_P G vwCl [(h0, .inr (0, [.ref h1, .ref h3, .ref h4, .ref h5, .ref h6, .ref h7, .ref h8, .int 0, .int 0, .int 0, .null])), (h1, .inr (1, [.int 1, .ref h2, .int 0, .int (-1), .int 0, .int 0, .int (-1), .ref h9])), (h2, .inl (K 1, 200, .inl (fun _ => 0)))] _ := hP
    have hD : va_D A [(h0, .inr (0, [.ref h1, .ref h3, .ref h4, .ref h5, .ref h6, .ref h7, .ref h8, .int 0, .int 0, .int 0, .null])), (h1, .inr (1, [.int 1, .ref h2, .int 0, .int (-1), .int 0, .int 0, .int (-1), .ref h9])), (h2, .inl (K 1, 200, .inl (fun _ => 0)))] := hD
    obtain rfl : p0 = 0 := wIs (b := 0) (by decide) (by omega)
    have z_0 : (0 : Int32).toInt = 0 := by decide
    have hP9 : va_P G vwCl [(h0, .inr (0, [.ref h1, .ref h3, .ref h4, .ref h5, .ref h6, .ref h7, .ref h8, .int 0, .int 0, .int 0, .null])), (h1, .inr (1, [.int 1, .ref h2, .int 0, .int (-1), .int 0, .int 0, .int (-1), .ref h9])), (h2, .inl (K 1, 200, .inl (fun _ => 0)))] _ := hP
    have hD9 : va_D A [(h0, .inr (0, [.ref h1, .ref h3, .ref h4, .ref h5, .ref h6, .ref h7, .ref h8, .int 0, .int 0, .int 0, .null])), (h1, .inr (1, [.int 1, .ref h2, .int 0, .int (-1), .int 0, .int 0, .int (-1), .ref h9])), (h2, .inl (K 1, 200, .inl (fun _ => 0)))] := hD
    exact W.iret (v := 0) hx hb hr (fun t ht hW => ⟨⟨0, _, rfl, Or.inr (⟨(by first | omega | decide | simp), rfl, rfl⟩), by rw [ht]; exact hP9, hD9⟩, hS.F ht⟩) hS.2.2 dX8_againstOnFloor_60
def e_X3_isFull_0 : List Cond := [.fieldLink RX3 28 "MotionFloor$Ledger" "size" "I", .fieldLink RX3 21 "MotionFloor$Ledger" "most" "I"]
def v_X3_isFull_0 : List Cond := .code yX3_isFull cX3_isFull 1 (some .boolean) :: (e_X3_isFull_0 ++ (wsX30 ++ []))
theorem te_X3_isFull_0 : GoodIn lw_tbl e_X3_isFull_0 := wGc z302 (wGc z37 (wG0))
theorem t_X3_isFull_0 : GoodIn lw_tbl v_X3_isFull_0 := wGc z303 (wGa te_X3_isFull_0 (wGa zcX3 (wG0)))
set_option maxHeartbeats 4000000 in
set_option maxRecDepth 100000 in
theorem m_X3_isFull_0 (l : Launch) (G : va_G) (K : Nat → ClassId) (h0 h1 : Nat) (sz : Nat) : Met l yX3_isFull v_X3_isFull_0 ({ frames := 0, cells := 0, slots := 0, locals := 0 }) (va_Pc [.ref h0] (wS G K sz [(h0, .inr (2, [.int 7, .int 600, .ref h1, .int 0]))])) (va_Qi (fun (r : Int32) (u : va_W) => (0 = r ∧ u = [(h0, .inr (2, [.int 7, .int 600, .ref h1, .int 0]))])) (wB G (va_A [(h0, .inr (2, [.int 7, .int 600, .ref h1, .int 0]))] sz)) (va_A [(h0, .inr (2, [.int 7, .int 600, .ref h1, .int 0]))] sz)) 0 0 (va_A [(h0, .inr (2, [.int 7, .int 600, .ref h1, .int 0]))] sz) := by
  refine Met.ofW (cc := cX3_isFull) (maxL := 1) (ret := (some .boolean)) (by decide) rfl ?_
  intro p e s m args below meth c s₁ B hml hv
  obtain ⟨rfl, hsz, hP, hK, hD0, hE⟩ := hv
  have hx := B.exec
  have hb := B.bytes
  have hr := B.returns
  have hts := atoms_spec (ws := v_X3_isFull_0) B.pre
  have t_ := t_X3_isFull_0
  have mw : ∀ w ∈ e_X3_isFull_0, w ∈ v_X3_isFull_0 := fun w h => List.mem_cons_of_mem _ (List.mem_append_left _ h)
  have hw := fun w (h : w ∈ e_X3_isFull_0) => hts w (mw w h)
  have iX3 : ∀ w ∈ wsX30, w ∈ v_X3_isFull_0 := fun w h => List.mem_cons_of_mem _ (List.mem_append_right _ (List.mem_append_left _ h))
  have hown : s.vm.findClass RX3 = some m.cls := findClass_of_methodNamed B.named
  have hlocks := B.notSynchronized
  subst hsz
  have hD := hD0.self (sz := s.heap.size)
  generalize hAe : va_A [(h0, .inr (2, [.int 7, .int 600, .ref h1, .int 0]))] s.heap.size = A at hD ⊢
  have hA : ∀ q : Nat, s.heap.size ≤ q → A q := fun q h => by rw [← hAe]; exact Or.inr h
  have hS : va_S A s.heap s.heap [] := va_S.rf
  have hP : va_P G vwCl [(h0, .inr (2, [.int 7, .int 600, .ref h1, .int 0]))] s.heap := hP
  have hl := lv_entry ([.ref h0]) (n := 1) (Nat.le_of_ble_eq_true rfl)
  rw [lg_entry_eq]
  generalize (lg_sl ([.ref h0]) ++ List.replicate (1 - (lg_sl ([.ref h0])).length) Slot.unset).toArray = ls at hl ⊢
  have hl : lv_has ls 1 [(0, .ref h0)] := hl
  refine lv_aload_n hx hb dX3_isFull_0 rfl (lv_at hl 0 rfl) ?_
  refine va_get (D := G) (ci := 2) (v := .int 0) (C := RX3) (T := TX3) (N := 4) hx hb hts iX3 hown hK hP 0 rfl rfl 3 (by decide) (hw (.fieldLink RX3 28 "MotionFloor$Ledger" "size" "I") (List.mem_of_getElem? (i := 0) rfl)) (fun _ h9 => h9) rfl dX3_isFull_1 ?_
  refine lv_aload_n hx hb dX3_isFull_4 rfl (lv_at hl 0 rfl) ?_
  refine va_get (D := G) (ci := 2) (v := .int 600) (C := RX3) (T := TX3) (N := 4) hx hb hts iX3 hown hK hP 0 rfl rfl 1 (by decide) (hw (.fieldLink RX3 21 "MotionFloor$Ledger" "most" "I") (List.mem_of_getElem? (i := 1) rfl)) (fun _ h9 => h9) rfl dX3_isFull_5 ?_
  refine lv_icmp_lt (tgt := 15) hx hb dX3_isFull_8 (by decide) (fun _ => ?_) (fun c_ => absurd c_ (by decide))
  refine lv_iconst (v := 0) hx hb dX3_isFull_15 (by decide) ?_
  have hP9 : va_P G vwCl [(h0, .inr (2, [.int 7, .int 600, .ref h1, .int 0]))] _ := hP
  have hD9 : va_D A [(h0, .inr (2, [.int 7, .int 600, .ref h1, .int 0]))] := hD
  exact W.zret (v := 0) (ty := .boolean) hx hb hr rfl (fun t ht hW => ⟨⟨0, _, rfl, ⟨rfl, rfl⟩, by rw [ht]; exact hP9, hD9⟩, hS.F ht⟩) hS.2.2 dX3_isFull_16
def e_X8_against_0 : List Cond := [.methodLink RX8 9 yX8_againstOnFloor, .static yX8_againstOnFloor, .initialized RX8, .fieldLink RX8 22 "MotionFloor$Assembly" "minutes" "LMotionFloor$Ledger;", .methodLink RX8 28 yX3_isFull, .instanceMethod yX3_isFull, .selects RX3 yX3_isFull yX3_isFull, .initialized RX3]
def v_X8_against_0 : List Cond := .code yX8_against cX8_against 7 (some .int) :: (e_X8_against_0 ++ (wsX00 ++ (v_X8_againstOnFloor_0 ++ (v_X3_isFull_0 ++ []))))
theorem te_X8_against_0 : GoodIn lw_tbl e_X8_against_0 := wGc z309 (wGc z308 (wGc z297 (wGc z307 (wGc z306 (wGc z305 (wGc z304 (wGc z89 (wG0))))))))
theorem t_X8_against_0 : GoodIn lw_tbl v_X8_against_0 := wGc z310 (wGa te_X8_against_0 (wGa zcX0 (wGa t_X8_againstOnFloor_0 (wGa t_X3_isFull_0 (wG0)))))
set_option maxHeartbeats 4000000 in
set_option maxRecDepth 100000 in
theorem m_X8_against_0 (l : Launch) (G : va_G) (K : Nat → ClassId) (h0 h1 h2 h3 h4 h5 h6 h7 h8 h9 h10 : Nat) (p0 : Int32) (sz : Nat) : Met l yX8_against v_X8_against_0 ({ frames := 3, cells := 0, slots := 0, locals := 65 }) (va_Pc [.ref h0, .int 1, .int p0, .int 0, .int 0, .int 0] (wS G K sz [(h0, .inr (0, [.ref h1, .ref h4, .ref h5, .ref h6, .ref h2, .ref h7, .ref h8, .int 0, .int 0, .int 0, .null])), (h1, .inr (1, [.int 1, .ref h3, .int 0, .int (-1), .int 0, .int 0, .int (-1), .ref h9])), (h2, .inr (2, [.int 7, .int 600, .ref h10, .int 0])), (h3, .inl (K 1, 200, .inl (fun _ => 0)))])) (va_Qi (fun (r : Int32) (u : va_W) => (((((p0.toInt < 0 ∨ (p0.toInt ≥ 0 ∧ p0.toInt ≥ 1))))) ∧ 9 = r ∧ u = [(h0, .inr (0, [.ref h1, .ref h4, .ref h5, .ref h6, .ref h2, .ref h7, .ref h8, .int 0, .int 0, .int 0, .null])), (h1, .inr (1, [.int 1, .ref h3, .int 0, .int (-1), .int 0, .int 0, .int (-1), .ref h9])), (h2, .inr (2, [.int 7, .int 600, .ref h10, .int 0])), (h3, .inl (K 1, 200, .inl (fun _ => 0)))]) ∨ ((((((p0.toInt ≥ 0 ∧ p0.toInt < 1))))) ∧ 0 = r ∧ u = [(h0, .inr (0, [.ref h1, .ref h4, .ref h5, .ref h6, .ref h2, .ref h7, .ref h8, .int 0, .int 0, .int 0, .null])), (h1, .inr (1, [.int 1, .ref h3, .int 0, .int (-1), .int 0, .int 0, .int (-1), .ref h9])), (h2, .inr (2, [.int 7, .int 600, .ref h10, .int 0])), (h3, .inl (K 1, 200, .inl (fun _ => 0)))])) (wB G (va_A [(h0, .inr (0, [.ref h1, .ref h4, .ref h5, .ref h6, .ref h2, .ref h7, .ref h8, .int 0, .int 0, .int 0, .null])), (h1, .inr (1, [.int 1, .ref h3, .int 0, .int (-1), .int 0, .int 0, .int (-1), .ref h9])), (h2, .inr (2, [.int 7, .int 600, .ref h10, .int 0])), (h3, .inl (K 1, 200, .inl (fun _ => 0)))] sz)) (va_A [(h0, .inr (0, [.ref h1, .ref h4, .ref h5, .ref h6, .ref h2, .ref h7, .ref h8, .int 0, .int 0, .int 0, .null])), (h1, .inr (1, [.int 1, .ref h3, .int 0, .int (-1), .int 0, .int 0, .int (-1), .ref h9])), (h2, .inr (2, [.int 7, .int 600, .ref h10, .int 0])), (h3, .inl (K 1, 200, .inl (fun _ => 0)))] sz)) 0 0 (va_A [(h0, .inr (0, [.ref h1, .ref h4, .ref h5, .ref h6, .ref h2, .ref h7, .ref h8, .int 0, .int 0, .int 0, .null])), (h1, .inr (1, [.int 1, .ref h3, .int 0, .int (-1), .int 0, .int 0, .int (-1), .ref h9])), (h2, .inr (2, [.int 7, .int 600, .ref h10, .int 0])), (h3, .inl (K 1, 200, .inl (fun _ => 0)))] sz) := by
  refine Met.ofW (cc := cX8_against) (maxL := 7) (ret := (some .int)) (by decide) rfl ?_
  intro p e s m args below meth c s₁ B hml hv
  obtain ⟨rfl, hsz, hP, hK, hD0, hE⟩ := hv
  have hx := B.exec
  have hb := B.bytes
  have hr := B.returns
  have hts := atoms_spec (ws := v_X8_against_0) B.pre
  have t_ := t_X8_against_0
  have mw : ∀ w ∈ e_X8_against_0, w ∈ v_X8_against_0 := fun w h => List.mem_cons_of_mem _ (List.mem_append_left _ h)
  have hw := fun w (h : w ∈ e_X8_against_0) => hts w (mw w h)
  have iX0 : ∀ w ∈ wsX00, w ∈ v_X8_against_0 := fun w h => List.mem_cons_of_mem _ (List.mem_append_right _ (List.mem_append_left _ h))
  have j_X8_againstOnFloor_0 : ∀ w ∈ v_X8_againstOnFloor_0, w ∈ v_X8_against_0 := fun w h => List.mem_cons_of_mem _ (List.mem_append_right _ (List.mem_append_right _ (List.mem_append_left _ h)))
  have j_X3_isFull_0 : ∀ w ∈ v_X3_isFull_0, w ∈ v_X8_against_0 := fun w h => List.mem_cons_of_mem _ (List.mem_append_right _ (List.mem_append_right _ (List.mem_append_right _ (List.mem_append_left _ h))))
  have hown : s.vm.findClass RX8 = some m.cls := findClass_of_methodNamed B.named
  have hlocks := B.notSynchronized
  subst hsz
  have hD := hD0.self (sz := s.heap.size)
  generalize hAe : va_A [(h0, .inr (0, [.ref h1, .ref h4, .ref h5, .ref h6, .ref h2, .ref h7, .ref h8, .int 0, .int 0, .int 0, .null])), (h1, .inr (1, [.int 1, .ref h3, .int 0, .int (-1), .int 0, .int 0, .int (-1), .ref h9])), (h2, .inr (2, [.int 7, .int 600, .ref h10, .int 0])), (h3, .inl (K 1, 200, .inl (fun _ => 0)))] s.heap.size = A at hD ⊢
  have hA : ∀ q : Nat, s.heap.size ≤ q → A q := fun q h => by rw [← hAe]; exact Or.inr h
  have hS : va_S A s.heap s.heap [] := va_S.rf
  have hP : va_P G vwCl [(h0, .inr (0, [.ref h1, .ref h4, .ref h5, .ref h6, .ref h2, .ref h7, .ref h8, .int 0, .int 0, .int 0, .null])), (h1, .inr (1, [.int 1, .ref h3, .int 0, .int (-1), .int 0, .int 0, .int (-1), .ref h9])), (h2, .inr (2, [.int 7, .int 600, .ref h10, .int 0])), (h3, .inl (K 1, 200, .inl (fun _ => 0)))] s.heap := hP
  have hl := lv_entry ([.ref h0, .int 1, .int p0, .int 0, .int 0, .int 0]) (n := 7) (Nat.le_of_ble_eq_true rfl)
  rw [lg_entry_eq]
  generalize (lg_sl ([.ref h0, .int 1, .int p0, .int 0, .int 0, .int 0]) ++ List.replicate (7 - (lg_sl ([.ref h0, .int 1, .int p0, .int 0, .int 0, .int 0])).length) Slot.unset).toArray = ls at hl ⊢
  have hl : lv_has ls 7 [(0, .ref h0), (1, .int 1), (2, .int p0), (3, .int 0), (4, .int 0), (5, .int 0)] := hl
  refine lv_iload_n hx hb dX8_against_0 rfl (lv_at hl 1 rfl) ?_
  refine lv_bipush (v := 9) hx hb dX8_against_1 (by decide) ?_
  refine lv_icmp_gt (tgt := 18) hx hb dX8_against_3 (by decide) (fun c_ => absurd c_ (by decide)) (fun _ => ?_)
  refine lv_aload_n hx hb dX8_against_6 rfl (lv_at hl 0 rfl) ?_
  refine lv_iload_n hx hb dX8_against_7 rfl (lv_at hl 1 rfl) ?_
  refine lv_iload_n hx hb dX8_against_8 rfl (lv_at hl 2 rfl) ?_
  refine lv_iload_n hx hb dX8_against_9 rfl (lv_at hl 3 rfl) ?_
  have hPc := hP.sub (ws' := [(h0, .inr (0, [.ref h1, .ref h4, .ref h5, .ref h6, .ref h2, .ref h7, .ref h8, .int 0, .int 0, .int 0, .null])), (h1, .inr (1, [.int 1, .ref h3, .int 0, .int (-1), .int 0, .int 0, .int (-1), .ref h9])), (h3, .inl (K 1, 200, .inl (fun _ => 0)))]) [0, 1, 3] rfl
  have hDc := hD.sub (ws' := [(h0, .inr (0, [.ref h1, .ref h4, .ref h5, .ref h6, .ref h2, .ref h7, .ref h8, .int 0, .int 0, .int 0, .null])), (h1, .inr (1, [.int 1, .ref h3, .int 0, .int (-1), .int 0, .int 0, .int (-1), .ref h9])), (h3, .inl (K 1, 200, .inl (fun _ => 0)))]) [0, 1, 3] (by decide) rfl
  refine wGoi (wc := [(h0, .inr (0, [.ref h1, .ref h4, .ref h5, .ref h6, .ref h2, .ref h7, .ref h8, .int 0, .int 0, .int 0, .null])), (h1, .inr (1, [.int 1, .ref h3, .int 0, .int (-1), .int 0, .int 0, .int (-1), .ref h9])), (h3, .inl (K 1, 200, .inl (fun _ => 0)))]) (wr := [(h2, .inr (2, [.int 7, .int 600, .ref h10, .int 0]))]) (va_runS (As := [.ref h0, .int 1, .int p0, .int 0]) (rest := []) ⟨hx, hb, hml, hown, hts⟩ (m_X8_againstOnFloor_0 l G K h0 h1 h3 h4 h5 h6 h2 h7 h8 h9 p0 _) (va_cwS 4 hts (wGS t_ (mw (.methodLink RX8 9 yX8_againstOnFloor) (List.mem_of_getElem? (i := 0) rfl)) (mw (.static yX8_againstOnFloor) (List.mem_of_getElem? (i := 1) rfl)) (mw (.initialized RX8) (List.mem_of_getElem? (i := 2) rfl)) j_X8_againstOnFloor_0) rfl rfl rfl (by decide +kernel) ⟨Nat.le_of_ble_eq_true rfl, Nat.le_of_ble_eq_true rfl⟩) (wPS hK hE hPc hDc) rfl rfl hl.1 rfl (lv_room (Nat.le_of_ble_eq_true rfl)) dX8_against_10 ⟨Nat.le_of_ble_eq_true rfl, Nat.le_of_ble_eq_true rfl⟩) hP hD hS hA [0, 1, 3] [2] rfl rfl rfl (by decide) (fun r u H locs hw hP hD hS => ?_)
  rcases hw with ⟨c_w, rfl, rfl⟩ | ⟨c_w, rfl, rfl⟩
  · have c1 := c_w
    have hP : va_P G vwCl [(h2, .inr (2, [.int 7, .int 600, .ref h10, .int 0])), (h0, .inr (0, [.ref h1, .ref h4, .ref h5, .ref h6, .ref h2, .ref h7, .ref h8, .int 0, .int 0, .int 0, .null])), (h1, .inr (1, [.int 1, .ref h3, .int 0, .int (-1), .int 0, .int 0, .int (-1), .ref h9])), (h3, .inl (K 1, 200, .inl (fun _ => 0)))] _ := hP
    have hD : va_D A [(h2, .inr (2, [.int 7, .int 600, .ref h10, .int 0])), (h0, .inr (0, [.ref h1, .ref h4, .ref h5, .ref h6, .ref h2, .ref h7, .ref h8, .int 0, .int 0, .int 0, .null])), (h1, .inr (1, [.int 1, .ref h3, .int 0, .int (-1), .int 0, .int 0, .int (-1), .ref h9])), (h3, .inl (K 1, 200, .inl (fun _ => 0)))] := hD
    refine lv_istore (lv' := [(6, .int 9), (0, .ref h0), (1, .int 1), (2, .int p0), (3, .int 0), (4, .int 0), (5, .int 0)]) hx hb dX8_against_13 hl (by decide) rfl (fun ls hl => ?_)
    refine lv_goto (tgt := 49) hx hb dX8_against_15 (by decide) ?_
    refine lv_iload hx hb dX8_against_49 (lv_at hl 0 rfl) ?_
    refine lv_if_ne (tgt := 69) hx hb dX8_against_51 (by decide) (fun _ => ?_) (fun c_ => absurd c_ (by decide))
    refine lv_iload hx hb dX8_against_69 (lv_at hl 0 rfl) ?_
    have hP9 := hP.sub (ws' := [(h0, .inr (0, [.ref h1, .ref h4, .ref h5, .ref h6, .ref h2, .ref h7, .ref h8, .int 0, .int 0, .int 0, .null])), (h1, .inr (1, [.int 1, .ref h3, .int 0, .int (-1), .int 0, .int 0, .int (-1), .ref h9])), (h2, .inr (2, [.int 7, .int 600, .ref h10, .int 0])), (h3, .inl (K 1, 200, .inl (fun _ => 0)))]) [1, 2, 0, 3] rfl
    have hD9 := hD.sub (ws' := [(h0, .inr (0, [.ref h1, .ref h4, .ref h5, .ref h6, .ref h2, .ref h7, .ref h8, .int 0, .int 0, .int 0, .null])), (h1, .inr (1, [.int 1, .ref h3, .int 0, .int (-1), .int 0, .int 0, .int (-1), .ref h9])), (h2, .inr (2, [.int 7, .int 600, .ref h10, .int 0])), (h3, .inl (K 1, 200, .inl (fun _ => 0)))]) [1, 2, 0, 3] (by decide) rfl
    exact W.iret (v := 9) hx hb hr (fun t ht hW => ⟨⟨9, _, rfl, Or.inl ⟨(by first | omega | decide | simp), rfl, rfl⟩, by rw [ht]; exact hP9, hD9⟩, hS.F ht⟩) hS.2.2 dX8_against_71
  · have c2 := c_w
    have hP : va_P G vwCl [(h2, .inr (2, [.int 7, .int 600, .ref h10, .int 0])), (h0, .inr (0, [.ref h1, .ref h4, .ref h5, .ref h6, .ref h2, .ref h7, .ref h8, .int 0, .int 0, .int 0, .null])), (h1, .inr (1, [.int 1, .ref h3, .int 0, .int (-1), .int 0, .int 0, .int (-1), .ref h9])), (h3, .inl (K 1, 200, .inl (fun _ => 0)))] _ := hP
    have hD : va_D A [(h2, .inr (2, [.int 7, .int 600, .ref h10, .int 0])), (h0, .inr (0, [.ref h1, .ref h4, .ref h5, .ref h6, .ref h2, .ref h7, .ref h8, .int 0, .int 0, .int 0, .null])), (h1, .inr (1, [.int 1, .ref h3, .int 0, .int (-1), .int 0, .int 0, .int (-1), .ref h9])), (h3, .inl (K 1, 200, .inl (fun _ => 0)))] := hD
    obtain rfl : p0 = 0 := wIs (b := 0) (by decide) (by omega)
    have z_0 : (0 : Int32).toInt = 0 := by decide
    refine lv_istore (lv' := [(6, .int 0), (0, .ref h0), (1, .int 1), (2, .int 0), (3, .int 0), (4, .int 0), (5, .int 0)]) hx hb dX8_against_13 hl (by decide) rfl (fun ls hl => ?_)
    refine lv_goto (tgt := 49) hx hb dX8_against_15 (by decide) ?_
    refine lv_iload hx hb dX8_against_49 (lv_at hl 0 rfl) ?_
    refine lv_if_ne (tgt := 69) hx hb dX8_against_51 (by decide) (fun c_ => absurd c_ (by decide)) (fun _ => ?_)
    refine lv_aload_n hx hb dX8_against_54 rfl (lv_at hl 1 rfl) ?_
    refine va_get (D := G) (ci := 0) (v := .ref h2) (C := RX0) (T := TX0) (N := 11) hx hb hts iX0 hown hK hP 1 rfl rfl 4 (by decide) (hw (.fieldLink RX8 22 "MotionFloor$Assembly" "minutes" "LMotionFloor$Ledger;") (List.mem_of_getElem? (i := 3) rfl)) (fun _ h9 => h9) rfl dX8_against_55 ?_
    have hPc := hP.sub (ws' := [(h2, .inr (2, [.int 7, .int 600, .ref h10, .int 0]))]) [0] rfl
    have hDc := hD.sub (ws' := [(h2, .inr (2, [.int 7, .int 600, .ref h10, .int 0]))]) [0] (by decide) rfl
    refine wGoi (wc := [(h2, .inr (2, [.int 7, .int 600, .ref h10, .int 0]))]) (wr := [(h0, .inr (0, [.ref h1, .ref h4, .ref h5, .ref h6, .ref h2, .ref h7, .ref h8, .int 0, .int 0, .int 0, .null])), (h1, .inr (1, [.int 1, .ref h3, .int 0, .int (-1), .int 0, .int 0, .int (-1), .ref h9])), (h3, .inl (K 1, 200, .inl (fun _ => 0)))]) (va_runV (As := []) (rest := []) ⟨hx, hb, hml, hown, hts⟩ (m_X3_isFull_0 l G K h2 h10 _) (cwV 0 hts (wGV t_ (mw (.methodLink RX8 28 yX3_isFull) (List.mem_of_getElem? (i := 4) rfl)) (mw (.instanceMethod yX3_isFull) (List.mem_of_getElem? (i := 5) rfl)) (mw (.selects RX3 yX3_isFull yX3_isFull) (List.mem_of_getElem? (i := 6) rfl)) (mw (.initialized RX3) (List.mem_of_getElem? (i := 7) rfl)) j_X3_isFull_0) rfl rfl rfl (by decide +kernel) ⟨Nat.le_of_ble_eq_true rfl, Nat.le_of_ble_eq_true rfl⟩) (wPV hK hE hPc hDc 2 0 rfl rfl) rfl rfl hl.1 rfl (lv_room (Nat.le_of_ble_eq_true rfl)) dX8_against_58 ⟨Nat.le_of_ble_eq_true rfl, Nat.le_of_ble_eq_true rfl⟩) hP hD hS hA [0] [1, 2, 3] rfl rfl rfl (by decide) (fun r u H locs hw hP hD hS => ?_)
    rcases hw with ⟨rfl, rfl⟩
    have hP : va_P G vwCl [(h0, .inr (0, [.ref h1, .ref h4, .ref h5, .ref h6, .ref h2, .ref h7, .ref h8, .int 0, .int 0, .int 0, .null])), (h1, .inr (1, [.int 1, .ref h3, .int 0, .int (-1), .int 0, .int 0, .int (-1), .ref h9])), (h3, .inl (K 1, 200, .inl (fun _ => 0))), (h2, .inr (2, [.int 7, .int 600, .ref h10, .int 0]))] _ := hP
    have hD : va_D A [(h0, .inr (0, [.ref h1, .ref h4, .ref h5, .ref h6, .ref h2, .ref h7, .ref h8, .int 0, .int 0, .int 0, .null])), (h1, .inr (1, [.int 1, .ref h3, .int 0, .int (-1), .int 0, .int 0, .int (-1), .ref h9])), (h3, .inl (K 1, 200, .inl (fun _ => 0))), (h2, .inr (2, [.int 7, .int 600, .ref h10, .int 0]))] := hD
    refine lv_if_eq (tgt := 69) hx hb dX8_against_61 (by decide) (fun _ => ?_) (fun c_ => absurd c_ (by decide))
    refine lv_iload hx hb dX8_against_69 (lv_at hl 0 rfl) ?_
    have hP9 := hP.sub (ws' := [(h0, .inr (0, [.ref h1, .ref h4, .ref h5, .ref h6, .ref h2, .ref h7, .ref h8, .int 0, .int 0, .int 0, .null])), (h1, .inr (1, [.int 1, .ref h3, .int 0, .int (-1), .int 0, .int 0, .int (-1), .ref h9])), (h2, .inr (2, [.int 7, .int 600, .ref h10, .int 0])), (h3, .inl (K 1, 200, .inl (fun _ => 0)))]) [0, 1, 3, 2] rfl
    have hD9 := hD.sub (ws' := [(h0, .inr (0, [.ref h1, .ref h4, .ref h5, .ref h6, .ref h2, .ref h7, .ref h8, .int 0, .int 0, .int 0, .null])), (h1, .inr (1, [.int 1, .ref h3, .int 0, .int (-1), .int 0, .int 0, .int (-1), .ref h9])), (h2, .inr (2, [.int 7, .int 600, .ref h10, .int 0])), (h3, .inl (K 1, 200, .inl (fun _ => 0)))]) [0, 1, 3, 2] (by decide) rfl
    exact W.iret (v := 0) hx hb hr (fun t ht hW => ⟨⟨0, _, rfl, Or.inr (⟨(by first | omega | decide | simp), rfl, rfl⟩), by rw [ht]; exact hP9, hD9⟩, hS.F ht⟩) hS.2.2 dX8_against_71
def e_X5_at_0 : List Cond := []
def v_X5_at_0 : List Cond := .code yX5_at cX5_at 2 (some (.object "MotionFloor$Motion")) :: (e_X5_at_0 ++ [])
theorem te_X5_at_0 : GoodIn lw_tbl e_X5_at_0 := wG0
theorem t_X5_at_0 : GoodIn lw_tbl v_X5_at_0 := wGc z311 (wGa te_X5_at_0 (wG0))
set_option maxHeartbeats 4000000 in
set_option maxRecDepth 100000 in
theorem m_X5_at_0 (l : Launch) (G : va_G) (K : Nat → ClassId) (h0 h1 : Nat) (sz : Nat) : Met l yX5_at v_X5_at_0 ({ frames := 0, cells := 0, slots := 0, locals := 0 }) (va_Pc [.ref h0, .int (-1)] (wS G K sz [(h0, .inr (4, [.ref h1, .int 0]))])) (va_Qq (fun (r : Option Nat) (u : va_W) => (none = r ∧ u = [(h0, .inr (4, [.ref h1, .int 0]))])) (wB G (va_A [(h0, .inr (4, [.ref h1, .int 0]))] sz)) (va_A [(h0, .inr (4, [.ref h1, .int 0]))] sz)) 0 0 (va_A [(h0, .inr (4, [.ref h1, .int 0]))] sz) := by
  refine Met.ofW (cc := cX5_at) (maxL := 2) (ret := (some (.object "MotionFloor$Motion"))) (by decide) rfl ?_
  intro p e s m args below meth c s₁ B hml hv
  obtain ⟨rfl, hsz, hP, hK, hD0, hE⟩ := hv
  have hx := B.exec
  have hb := B.bytes
  have hr := B.returns
  have hts := atoms_spec (ws := v_X5_at_0) B.pre
  have t_ := t_X5_at_0
  have mw : ∀ w ∈ e_X5_at_0, w ∈ v_X5_at_0 := fun w h => List.mem_cons_of_mem _ (List.mem_append_left _ h)
  have hw := fun w (h : w ∈ e_X5_at_0) => hts w (mw w h)
  have hown : s.vm.findClass RX5 = some m.cls := findClass_of_methodNamed B.named
  have hlocks := B.notSynchronized
  subst hsz
  have hD := hD0.self (sz := s.heap.size)
  generalize hAe : va_A [(h0, .inr (4, [.ref h1, .int 0]))] s.heap.size = A at hD ⊢
  have hA : ∀ q : Nat, s.heap.size ≤ q → A q := fun q h => by rw [← hAe]; exact Or.inr h
  have hS : va_S A s.heap s.heap [] := va_S.rf
  have hP : va_P G vwCl [(h0, .inr (4, [.ref h1, .int 0]))] s.heap := hP
  have hl := lv_entry ([.ref h0, .int (-1)]) (n := 2) (Nat.le_of_ble_eq_true rfl)
  rw [lg_entry_eq]
  generalize (lg_sl ([.ref h0, .int (-1)]) ++ List.replicate (2 - (lg_sl ([.ref h0, .int (-1)])).length) Slot.unset).toArray = ls at hl ⊢
  have hl : lv_has ls 2 [(0, .ref h0), (1, .int (-1))] := hl
  refine lv_iload_n hx hb dX5_at_0 rfl (lv_at hl 1 rfl) ?_
  refine lv_if_lt (tgt := 21) hx hb dX5_at_1 (by decide) (fun _ => ?_) (fun c_ => absurd c_ (by decide))
  refine lv_null hx hb dX5_at_21 ?_
  refine lv_goto (tgt := 31) hx hb dX5_at_22 (by decide) ?_
  have hP9 : va_P G vwCl [(h0, .inr (4, [.ref h1, .int 0]))] _ := hP
  have hD9 : va_D A [(h0, .inr (4, [.ref h1, .int 0]))] := hD
  exact W.aret (v := .null) hx hb hr (Or.inl ⟨_, rfl⟩) (Or.inl rfl) (fun t ht hW => ⟨⟨none, _, rfl, ⟨rfl, rfl⟩, by rw [ht]; exact hP9, hD9⟩, hS.F ht⟩) hS.2.2 dX5_at_31
def e_X5_top_0 : List Cond := [.fieldLink RX5 17 "MotionFloor$Pile" "size" "I", .methodLink RX5 21 yX5_at, .instanceMethod yX5_at, .selects RX5 yX5_at yX5_at, .initialized RX5]
def v_X5_top_0 : List Cond := .code yX5_top cX5_top 1 (some (.object "MotionFloor$Motion")) :: (e_X5_top_0 ++ (wsX50 ++ (v_X5_at_0 ++ [])))
theorem te_X5_top_0 : GoodIn lw_tbl e_X5_top_0 := wGc z315 (wGc z314 (wGc z313 (wGc z312 (wGc z26 (wG0)))))
theorem t_X5_top_0 : GoodIn lw_tbl v_X5_top_0 := wGc z316 (wGa te_X5_top_0 (wGa zcX5 (wGa t_X5_at_0 (wG0))))
set_option maxHeartbeats 4000000 in
set_option maxRecDepth 100000 in
theorem m_X5_top_0 (l : Launch) (G : va_G) (K : Nat → ClassId) (h0 h1 : Nat) (sz : Nat) : Met l yX5_top v_X5_top_0 ({ frames := 1, cells := 0, slots := 0, locals := 21 }) (va_Pc [.ref h0] (wS G K sz [(h0, .inr (4, [.ref h1, .int 0]))])) (va_Qq (fun (r : Option Nat) (u : va_W) => (none = r ∧ u = [(h0, .inr (4, [.ref h1, .int 0]))])) (wB G (va_A [(h0, .inr (4, [.ref h1, .int 0]))] sz)) (va_A [(h0, .inr (4, [.ref h1, .int 0]))] sz)) 0 0 (va_A [(h0, .inr (4, [.ref h1, .int 0]))] sz) := by
  refine Met.ofW (cc := cX5_top) (maxL := 1) (ret := (some (.object "MotionFloor$Motion"))) (by decide) rfl ?_
  intro p e s m args below meth c s₁ B hml hv
  obtain ⟨rfl, hsz, hP, hK, hD0, hE⟩ := hv
  have hx := B.exec
  have hb := B.bytes
  have hr := B.returns
  have hts := atoms_spec (ws := v_X5_top_0) B.pre
  have t_ := t_X5_top_0
  have mw : ∀ w ∈ e_X5_top_0, w ∈ v_X5_top_0 := fun w h => List.mem_cons_of_mem _ (List.mem_append_left _ h)
  have hw := fun w (h : w ∈ e_X5_top_0) => hts w (mw w h)
  have iX5 : ∀ w ∈ wsX50, w ∈ v_X5_top_0 := fun w h => List.mem_cons_of_mem _ (List.mem_append_right _ (List.mem_append_left _ h))
  have j_X5_at_0 : ∀ w ∈ v_X5_at_0, w ∈ v_X5_top_0 := fun w h => List.mem_cons_of_mem _ (List.mem_append_right _ (List.mem_append_right _ (List.mem_append_left _ h)))
  have hown : s.vm.findClass RX5 = some m.cls := findClass_of_methodNamed B.named
  have hlocks := B.notSynchronized
  subst hsz
  have hD := hD0.self (sz := s.heap.size)
  generalize hAe : va_A [(h0, .inr (4, [.ref h1, .int 0]))] s.heap.size = A at hD ⊢
  have hA : ∀ q : Nat, s.heap.size ≤ q → A q := fun q h => by rw [← hAe]; exact Or.inr h
  have hS : va_S A s.heap s.heap [] := va_S.rf
  have hP : va_P G vwCl [(h0, .inr (4, [.ref h1, .int 0]))] s.heap := hP
  have hl := lv_entry ([.ref h0]) (n := 1) (Nat.le_of_ble_eq_true rfl)
  rw [lg_entry_eq]
  generalize (lg_sl ([.ref h0]) ++ List.replicate (1 - (lg_sl ([.ref h0])).length) Slot.unset).toArray = ls at hl ⊢
  have hl : lv_has ls 1 [(0, .ref h0)] := hl
  refine lv_aload_n hx hb dX5_top_0 rfl (lv_at hl 0 rfl) ?_
  refine lv_aload_n hx hb dX5_top_1 rfl (lv_at hl 0 rfl) ?_
  refine va_get (D := G) (ci := 4) (v := .int 0) (C := RX5) (T := TX5) (N := 2) hx hb hts iX5 hown hK hP 0 rfl rfl 1 (by decide) (hw (.fieldLink RX5 17 "MotionFloor$Pile" "size" "I") (List.mem_of_getElem? (i := 0) rfl)) (fun _ h9 => h9) rfl dX5_top_2 ?_
  refine lv_iconst (v := 1) hx hb dX5_top_5 (by decide) ?_
  refine lv_isub hx hb dX5_top_6 ?_
  refine wTop (v1 := .int (-1)) (congrArg Value.int (by decide)) ?_
  have hPc := hP.sub (ws' := [(h0, .inr (4, [.ref h1, .int 0]))]) [0] rfl
  have hDc := hD.sub (ws' := [(h0, .inr (4, [.ref h1, .int 0]))]) [0] (by decide) rfl
  refine wGoq (wc := [(h0, .inr (4, [.ref h1, .int 0]))]) (wr := []) (va_runV (As := [.int (-1)]) (rest := []) ⟨hx, hb, hml, hown, hts⟩ (m_X5_at_0 l G K h0 h1 _) (cwV 1 hts (wGV t_ (mw (.methodLink RX5 21 yX5_at) (List.mem_of_getElem? (i := 1) rfl)) (mw (.instanceMethod yX5_at) (List.mem_of_getElem? (i := 2) rfl)) (mw (.selects RX5 yX5_at yX5_at) (List.mem_of_getElem? (i := 3) rfl)) (mw (.initialized RX5) (List.mem_of_getElem? (i := 4) rfl)) j_X5_at_0) rfl rfl rfl (by decide +kernel) ⟨Nat.le_of_ble_eq_true rfl, Nat.le_of_ble_eq_true rfl⟩) (wPV hK hE hPc hDc 4 0 rfl rfl) rfl rfl hl.1 rfl (lv_room (Nat.le_of_ble_eq_true rfl)) dX5_top_7 ⟨Nat.le_of_ble_eq_true rfl, Nat.le_of_ble_eq_true rfl⟩) hP hD hS hA [0] [] rfl rfl rfl (by decide) (fun r u H locs hw hP hD hS => ?_)
  rcases hw with ⟨rfl, rfl⟩
  have hP : va_P G vwCl [(h0, .inr (4, [.ref h1, .int 0]))] _ := hP
  have hD : va_D A [(h0, .inr (4, [.ref h1, .int 0]))] := hD
  refine wTop (v1 := .null) rfl ?_
  have hP9 : va_P G vwCl [(h0, .inr (4, [.ref h1, .int 0]))] _ := hP
  have hD9 : va_D A [(h0, .inr (4, [.ref h1, .int 0]))] := hD
  exact W.aret (v := .null) hx hb hr (Or.inl ⟨_, rfl⟩) (Or.inl rfl) (fun t ht hW => ⟨⟨none, _, rfl, ⟨rfl, rfl⟩, by rw [ht]; exact hP9, hD9⟩, hS.F ht⟩) hS.2.2 dX5_top_10
def e_X2_has_1 : List Cond := [.fieldLink RX2 19 "MotionFloor$House" "seats" "I", .fieldLink RX2 9 "MotionFloor$House" "there" "[Z"]
def v_X2_has_1 : List Cond := .code yX2_has cX2_has 2 (some .boolean) :: (e_X2_has_1 ++ (wsX20 ++ []))
theorem te_X2_has_1 : GoodIn lw_tbl e_X2_has_1 := wGc z64 (wGc z10 (wG0))
theorem t_X2_has_1 : GoodIn lw_tbl v_X2_has_1 := wGc z288 (wGa te_X2_has_1 (wGa zcX2 (wG0)))
set_option maxHeartbeats 4000000 in
set_option maxRecDepth 100000 in
theorem m_X2_has_1 (l : Launch) (G : va_G) (K : Nat → ClassId) (h0 h1 h2 : Nat) (sz : Nat) : Met l yX2_has v_X2_has_1 ({ frames := 0, cells := 0, slots := 0, locals := 0 }) (va_Pc [.ref h0, .int 0] (wS G K sz [(h0, .inr (1, [.int 1, .ref h1, .int 0, .int (-1), .int 0, .int 0, .int (-1), .ref h2])), (h1, .inl (K 1, 200, .inl (fun _ => 0)))])) (va_Qi (fun (r : Int32) (u : va_W) => (1 = r ∧ u = [(h0, .inr (1, [.int 1, .ref h1, .int 0, .int (-1), .int 0, .int 0, .int (-1), .ref h2])), (h1, .inl (K 1, 200, .inl (fun _ => 0)))])) (wB G (va_A [(h0, .inr (1, [.int 1, .ref h1, .int 0, .int (-1), .int 0, .int 0, .int (-1), .ref h2])), (h1, .inl (K 1, 200, .inl (fun _ => 0)))] sz)) (va_A [(h0, .inr (1, [.int 1, .ref h1, .int 0, .int (-1), .int 0, .int 0, .int (-1), .ref h2])), (h1, .inl (K 1, 200, .inl (fun _ => 0)))] sz)) 0 0 (va_A [(h0, .inr (1, [.int 1, .ref h1, .int 0, .int (-1), .int 0, .int 0, .int (-1), .ref h2])), (h1, .inl (K 1, 200, .inl (fun _ => 0)))] sz) := by
  refine Met.ofW (cc := cX2_has) (maxL := 2) (ret := (some .boolean)) (by decide) rfl ?_
  intro p e s m args below meth c s₁ B hml hv
  obtain ⟨rfl, hsz, hP, hK, hD0, hE⟩ := hv
  have hx := B.exec
  have hb := B.bytes
  have hr := B.returns
  have hts := atoms_spec (ws := v_X2_has_1) B.pre
  have t_ := t_X2_has_1
  have mw : ∀ w ∈ e_X2_has_1, w ∈ v_X2_has_1 := fun w h => List.mem_cons_of_mem _ (List.mem_append_left _ h)
  have hw := fun w (h : w ∈ e_X2_has_1) => hts w (mw w h)
  have iX2 : ∀ w ∈ wsX20, w ∈ v_X2_has_1 := fun w h => List.mem_cons_of_mem _ (List.mem_append_right _ (List.mem_append_left _ h))
  have hown : s.vm.findClass RX2 = some m.cls := findClass_of_methodNamed B.named
  have hlocks := B.notSynchronized
  subst hsz
  have hD := hD0.self (sz := s.heap.size)
  generalize hAe : va_A [(h0, .inr (1, [.int 1, .ref h1, .int 0, .int (-1), .int 0, .int 0, .int (-1), .ref h2])), (h1, .inl (K 1, 200, .inl (fun _ => 0)))] s.heap.size = A at hD ⊢
  have hA : ∀ q : Nat, s.heap.size ≤ q → A q := fun q h => by rw [← hAe]; exact Or.inr h
  have hS : va_S A s.heap s.heap [] := va_S.rf
  have hP : va_P G vwCl [(h0, .inr (1, [.int 1, .ref h1, .int 0, .int (-1), .int 0, .int 0, .int (-1), .ref h2])), (h1, .inl (K 1, 200, .inl (fun _ => 0)))] s.heap := hP
  have hl := lv_entry ([.ref h0, .int 0]) (n := 2) (Nat.le_of_ble_eq_true rfl)
  rw [lg_entry_eq]
  generalize (lg_sl ([.ref h0, .int 0]) ++ List.replicate (2 - (lg_sl ([.ref h0, .int 0])).length) Slot.unset).toArray = ls at hl ⊢
  have hl : lv_has ls 2 [(0, .ref h0), (1, .int 0)] := hl
  refine lv_iload_n hx hb dX2_has_0 rfl (lv_at hl 1 rfl) ?_
  refine lv_if_lt (tgt := 25) hx hb dX2_has_1 (by decide) (fun c_ => absurd c_ (by decide)) (fun _ => ?_)
  refine lv_iload_n hx hb dX2_has_4 rfl (lv_at hl 1 rfl) ?_
  refine lv_aload_n hx hb dX2_has_5 rfl (lv_at hl 0 rfl) ?_
  refine va_get (D := G) (ci := 1) (v := .int 1) (C := RX2) (T := TX2) (N := 8) hx hb hts iX2 hown hK hP 0 rfl rfl 0 (by decide) (hw (.fieldLink RX2 19 "MotionFloor$House" "seats" "I") (List.mem_of_getElem? (i := 0) rfl)) (fun _ h9 => h9) rfl dX2_has_6 ?_
  refine lv_icmp_ge (tgt := 25) hx hb dX2_has_9 (by decide) (fun c_ => absurd c_ (by decide)) (fun _ => ?_)
  refine lv_iload_n hx hb dX2_has_12 rfl (lv_at hl 1 rfl) ?_
  refine lv_aload_n hx hb dX2_has_13 rfl (lv_at hl 0 rfl) ?_
  refine va_get (D := G) (ci := 1) (v := .ref h1) (C := RX2) (T := TX2) (N := 8) hx hb hts iX2 hown hK hP 0 rfl rfl 1 (by decide) (hw (.fieldLink RX2 9 "MotionFloor$House" "there" "[Z") (List.mem_of_getElem? (i := 1) rfl)) (fun _ h9 => h9) rfl dX2_has_14 ?_
  refine va_alen (v := 200) hx hb hK hP 1 1 rfl rfl rfl dX2_has_17 ?_
  refine lv_icmp_ge (tgt := 25) hx hb dX2_has_18 (by decide) (fun c_ => absurd c_ (by decide)) (fun _ => ?_)
  refine lv_iconst (v := 1) hx hb dX2_has_21 (by decide) ?_
  refine lv_goto (tgt := 26) hx hb dX2_has_22 (by decide) ?_
  have hP9 : va_P G vwCl [(h0, .inr (1, [.int 1, .ref h1, .int 0, .int (-1), .int 0, .int 0, .int (-1), .ref h2])), (h1, .inl (K 1, 200, .inl (fun _ => 0)))] _ := hP
  have hD9 : va_D A [(h0, .inr (1, [.int 1, .ref h1, .int 0, .int (-1), .int 0, .int 0, .int (-1), .ref h2])), (h1, .inl (K 1, 200, .inl (fun _ => 0)))] := hD
  exact W.zret (v := 1) (ty := .boolean) hx hb hr rfl (fun t ht hW => ⟨⟨1, _, rfl, ⟨rfl, rfl⟩, by rw [ht]; exact hP9, hD9⟩, hS.F ht⟩) hS.2.2 dX2_has_26
def e_X2_arrive_0 : List Cond := [.methodLink RX2 53 yX2_has, .instanceMethod yX2_has, .selects RX2 yX2_has yX2_has, .initialized RX2, .fieldLink RX2 9 "MotionFloor$House" "there" "[Z", .fieldLink RX2 41 "MotionFloor$House" "present" "I"]
def v_X2_arrive_0 : List Cond := .code yX2_arrive cX2_arrive 2 (some .int) :: (e_X2_arrive_0 ++ (wsX20 ++ (v_X2_has_1 ++ [])))
theorem te_X2_arrive_0 : GoodIn lw_tbl e_X2_arrive_0 := wGc z317 (wGc z294 (wGc z293 (wGc z57 (wGc z10 (wGc z51 (wG0))))))
theorem t_X2_arrive_0 : GoodIn lw_tbl v_X2_arrive_0 := wGc z318 (wGa te_X2_arrive_0 (wGa zcX2 (wGa t_X2_has_1 (wG0))))
set_option maxHeartbeats 4000000 in
set_option maxRecDepth 100000 in
theorem m_X2_arrive_0 (l : Launch) (G : va_G) (K : Nat → ClassId) (h0 h1 h2 : Nat) (sz : Nat) : Met l yX2_arrive v_X2_arrive_0 ({ frames := 1, cells := 0, slots := 0, locals := 21 }) (va_Pc [.ref h0, .int 0] (wS G K sz [(h0, .inr (1, [.int 1, .ref h1, .int 0, .int (-1), .int 0, .int 0, .int (-1), .ref h2])), (h1, .inl (K 1, 200, .inl (fun _ => 0)))])) (va_Qi (fun (r : Int32) (u : va_W) => (1 = r ∧ u = [(h0, .inr (1, [.int 1, .ref h1, .int 1, .int (-1), .int 0, .int 0, .int (-1), .ref h2])), (h1, .inl (K 1, 200, .inl (upd (fun _ => 0) 0 1)))])) (wB G (va_A [(h0, .inr (1, [.int 1, .ref h1, .int 0, .int (-1), .int 0, .int 0, .int (-1), .ref h2])), (h1, .inl (K 1, 200, .inl (fun _ => 0)))] sz)) (va_A [(h0, .inr (1, [.int 1, .ref h1, .int 0, .int (-1), .int 0, .int 0, .int (-1), .ref h2])), (h1, .inl (K 1, 200, .inl (fun _ => 0)))] sz)) 0 0 (va_A [(h0, .inr (1, [.int 1, .ref h1, .int 0, .int (-1), .int 0, .int 0, .int (-1), .ref h2])), (h1, .inl (K 1, 200, .inl (fun _ => 0)))] sz) := by
  refine Met.ofW (cc := cX2_arrive) (maxL := 2) (ret := (some .int)) (by decide) rfl ?_
  intro p e s m args below meth c s₁ B hml hv
  obtain ⟨rfl, hsz, hP, hK, hD0, hE⟩ := hv
  have hx := B.exec
  have hb := B.bytes
  have hr := B.returns
  have hts := atoms_spec (ws := v_X2_arrive_0) B.pre
  have t_ := t_X2_arrive_0
  have mw : ∀ w ∈ e_X2_arrive_0, w ∈ v_X2_arrive_0 := fun w h => List.mem_cons_of_mem _ (List.mem_append_left _ h)
  have hw := fun w (h : w ∈ e_X2_arrive_0) => hts w (mw w h)
  have iX2 : ∀ w ∈ wsX20, w ∈ v_X2_arrive_0 := fun w h => List.mem_cons_of_mem _ (List.mem_append_right _ (List.mem_append_left _ h))
  have j_X2_has_1 : ∀ w ∈ v_X2_has_1, w ∈ v_X2_arrive_0 := fun w h => List.mem_cons_of_mem _ (List.mem_append_right _ (List.mem_append_right _ (List.mem_append_left _ h)))
  have hown : s.vm.findClass RX2 = some m.cls := findClass_of_methodNamed B.named
  have hlocks := B.notSynchronized
  subst hsz
  have hD := hD0.self (sz := s.heap.size)
  generalize hAe : va_A [(h0, .inr (1, [.int 1, .ref h1, .int 0, .int (-1), .int 0, .int 0, .int (-1), .ref h2])), (h1, .inl (K 1, 200, .inl (fun _ => 0)))] s.heap.size = A at hD ⊢
  have hA : ∀ q : Nat, s.heap.size ≤ q → A q := fun q h => by rw [← hAe]; exact Or.inr h
  have hS : va_S A s.heap s.heap [] := va_S.rf
  have hP : va_P G vwCl [(h0, .inr (1, [.int 1, .ref h1, .int 0, .int (-1), .int 0, .int 0, .int (-1), .ref h2])), (h1, .inl (K 1, 200, .inl (fun _ => 0)))] s.heap := hP
  have hl := lv_entry ([.ref h0, .int 0]) (n := 2) (Nat.le_of_ble_eq_true rfl)
  rw [lg_entry_eq]
  generalize (lg_sl ([.ref h0, .int 0]) ++ List.replicate (2 - (lg_sl ([.ref h0, .int 0])).length) Slot.unset).toArray = ls at hl ⊢
  have hl : lv_has ls 2 [(0, .ref h0), (1, .int 0)] := hl
  refine lv_aload_n hx hb dX2_arrive_0 rfl (lv_at hl 0 rfl) ?_
  refine lv_iload_n hx hb dX2_arrive_1 rfl (lv_at hl 1 rfl) ?_
  have hPc := hP.sub (ws' := [(h0, .inr (1, [.int 1, .ref h1, .int 0, .int (-1), .int 0, .int 0, .int (-1), .ref h2])), (h1, .inl (K 1, 200, .inl (fun _ => 0)))]) [0, 1] rfl
  have hDc := hD.sub (ws' := [(h0, .inr (1, [.int 1, .ref h1, .int 0, .int (-1), .int 0, .int 0, .int (-1), .ref h2])), (h1, .inl (K 1, 200, .inl (fun _ => 0)))]) [0, 1] (by decide) rfl
  refine wGoi (wc := [(h0, .inr (1, [.int 1, .ref h1, .int 0, .int (-1), .int 0, .int 0, .int (-1), .ref h2])), (h1, .inl (K 1, 200, .inl (fun _ => 0)))]) (wr := []) (va_runV (As := [.int 0]) (rest := []) ⟨hx, hb, hml, hown, hts⟩ (m_X2_has_1 l G K h0 h1 h2 _) (cwV 1 hts (wGV t_ (mw (.methodLink RX2 53 yX2_has) (List.mem_of_getElem? (i := 0) rfl)) (mw (.instanceMethod yX2_has) (List.mem_of_getElem? (i := 1) rfl)) (mw (.selects RX2 yX2_has yX2_has) (List.mem_of_getElem? (i := 2) rfl)) (mw (.initialized RX2) (List.mem_of_getElem? (i := 3) rfl)) j_X2_has_1) rfl rfl rfl (by decide +kernel) ⟨Nat.le_of_ble_eq_true rfl, Nat.le_of_ble_eq_true rfl⟩) (wPV hK hE hPc hDc 1 0 rfl rfl) rfl rfl hl.1 rfl (lv_room (Nat.le_of_ble_eq_true rfl)) dX2_arrive_2 ⟨Nat.le_of_ble_eq_true rfl, Nat.le_of_ble_eq_true rfl⟩) hP hD hS hA [0, 1] [] rfl rfl rfl (by decide) (fun r u H locs hw hP hD hS => ?_)
  rcases hw with ⟨rfl, rfl⟩
  have hP : va_P G vwCl [(h0, .inr (1, [.int 1, .ref h1, .int 0, .int (-1), .int 0, .int 0, .int (-1), .ref h2])), (h1, .inl (K 1, 200, .inl (fun _ => 0)))] _ := hP
  have hD : va_D A [(h0, .inr (1, [.int 1, .ref h1, .int 0, .int (-1), .int 0, .int 0, .int (-1), .ref h2])), (h1, .inl (K 1, 200, .inl (fun _ => 0)))] := hD
  refine lv_if_eq (tgt := 34) hx hb dX2_arrive_5 (by decide) (fun c_ => absurd c_ (by decide)) (fun _ => ?_)
  refine lv_aload_n hx hb dX2_arrive_8 rfl (lv_at hl 0 rfl) ?_
  refine va_get (D := G) (ci := 1) (v := .ref h1) (C := RX2) (T := TX2) (N := 8) hx hb hts iX2 hown hK hP 0 rfl rfl 1 (by decide) (hw (.fieldLink RX2 9 "MotionFloor$House" "there" "[Z") (List.mem_of_getElem? (i := 4) rfl)) (fun _ h9 => h9) rfl dX2_arrive_9 ?_
  refine lv_iload_n hx hb dX2_arrive_12 rfl (lv_at hl 1 rfl) ?_
  refine va_zald hx hb hK hP 1 1 rfl rfl (vp_in_iff.mpr (by decide)) dX2_arrive_13 ?_
  refine wTop (v1 := .int 0) rfl ?_
  refine lv_if_ne (tgt := 34) hx hb dX2_arrive_14 (by decide) (fun c_ => absurd c_ (by decide)) (fun _ => ?_)
  refine lv_aload_n hx hb dX2_arrive_17 rfl (lv_at hl 0 rfl) ?_
  refine va_get (D := G) (ci := 1) (v := .ref h1) (C := RX2) (T := TX2) (N := 8) hx hb hts iX2 hown hK hP 0 rfl rfl 1 (by decide) (hw (.fieldLink RX2 9 "MotionFloor$House" "there" "[Z") (List.mem_of_getElem? (i := 4) rfl)) (fun _ h9 => h9) rfl dX2_arrive_18 ?_
  refine lv_iload_n hx hb dX2_arrive_21 rfl (lv_at hl 1 rfl) ?_
  refine lv_iconst (v := 1) hx hb dX2_arrive_22 (by decide) ?_
  refine va_zast hx hb hK hP hD hS 1 1 rfl rfl (vp_in_iff.mpr (by decide)) dX2_arrive_23 (fun H locs hP hD hS => ?_)
  have hP : va_P G vwCl [(h0, .inr (1, [.int 1, .ref h1, .int 0, .int (-1), .int 0, .int 0, .int (-1), .ref h2])), (h1, .inl (K 1, 200, .inl (upd (fun _ => 0) 0 1)))] _ := hP
  have hD : va_D A [(h0, .inr (1, [.int 1, .ref h1, .int 0, .int (-1), .int 0, .int 0, .int (-1), .ref h2])), (h1, .inl (K 1, 200, .inl (upd (fun _ => 0) 0 1)))] := hD
  refine lv_aload_n hx hb dX2_arrive_24 rfl (lv_at hl 0 rfl) ?_
  refine lv_dup hx hb dX2_arrive_25 rfl ?_
  refine va_get (D := G) (ci := 1) (v := .int 0) (C := RX2) (T := TX2) (N := 8) hx hb hts iX2 hown hK hP 0 rfl rfl 2 (by decide) (hw (.fieldLink RX2 41 "MotionFloor$House" "present" "I") (List.mem_of_getElem? (i := 5) rfl)) (fun _ h9 => h9) rfl dX2_arrive_26 ?_
  refine lv_iconst (v := 1) hx hb dX2_arrive_29 (by decide) ?_
  refine lv_iadd hx hb dX2_arrive_30 ?_
  refine wTop (v1 := .int 1) (congrArg Value.int (by decide)) ?_
  refine va_put (D := G) (ci := 1) (v := .int 1) (ty := .int) (C := RX2) (T := TX2) (N := 8) hx hb hts iX2 tyX2 tyX2_ok nmX2 hown hK hP hD hS 0 rfl rfl 2 (by decide) (hw (.fieldLink RX2 41 "MotionFloor$House" "present" "I") (List.mem_of_getElem? (i := 5) rfl)) (fun _ h9 => h9) rfl (by decide +kernel) rfl rfl (Nat.le_of_ble_eq_true rfl) dX2_arrive_31 (fun H locs hP hD hS => ?_)
  have hP : va_P G vwCl [(h0, .inr (1, [.int 1, .ref h1, .int 1, .int (-1), .int 0, .int 0, .int (-1), .ref h2])), (h1, .inl (K 1, 200, .inl (upd (fun _ => 0) 0 1)))] _ := hP
  have hD : va_D A [(h0, .inr (1, [.int 1, .ref h1, .int 1, .int (-1), .int 0, .int 0, .int (-1), .ref h2])), (h1, .inl (K 1, 200, .inl (upd (fun _ => 0) 0 1)))] := hD
  refine lv_aload_n hx hb dX2_arrive_34 rfl (lv_at hl 0 rfl) ?_
  refine va_get (D := G) (ci := 1) (v := .int 1) (C := RX2) (T := TX2) (N := 8) hx hb hts iX2 hown hK hP 0 rfl rfl 2 (by decide) (hw (.fieldLink RX2 41 "MotionFloor$House" "present" "I") (List.mem_of_getElem? (i := 5) rfl)) (fun _ h9 => h9) rfl dX2_arrive_35 ?_
  have hP9 : va_P G vwCl [(h0, .inr (1, [.int 1, .ref h1, .int 1, .int (-1), .int 0, .int 0, .int (-1), .ref h2])), (h1, .inl (K 1, 200, .inl (upd (fun _ => 0) 0 1)))] _ := hP
  have hD9 : va_D A [(h0, .inr (1, [.int 1, .ref h1, .int 1, .int (-1), .int 0, .int 0, .int (-1), .ref h2])), (h1, .inl (K 1, 200, .inl (upd (fun _ => 0) 0 1)))] := hD
  exact W.iret (v := 1) hx hb hr (fun t ht hW => ⟨⟨1, _, rfl, ⟨rfl, rfl⟩, by rw [ht]; exact hP9, hD9⟩, hS.F ht⟩) hS.2.2 dX2_arrive_38
def e_X1_perform_0 : List Cond := [.fieldLink RX1 9 "MotionFloor$Assembly" "pending" "LMotionFloor$Pile;", .methodLink RX1 15 yX5_top, .instanceMethod yX5_top, .selects RX5 yX5_top yX5_top, .initialized RX5, .fieldLink RX1 21 "MotionFloor$Assembly" "house" "LMotionFloor$House;", .methodLink RX1 25 yX2_arrive, .instanceMethod yX2_arrive, .selects RX2 yX2_arrive yX2_arrive, .initialized RX2]
def v_X1_perform_0 : List Cond := .code yX1_perform cX1_perform 7 (some .int) :: (e_X1_perform_0 ++ (wsX00 ++ (v_X5_top_0 ++ (v_X2_arrive_0 ++ []))))
theorem te_X1_perform_0 : GoodIn lw_tbl e_X1_perform_0 := wGc z326 (wGc z325 (wGc z324 (wGc z323 (wGc z26 (wGc z322 (wGc z321 (wGc z320 (wGc z319 (wGc z57 (wG0))))))))))
theorem t_X1_perform_0 : GoodIn lw_tbl v_X1_perform_0 := wGc z327 (wGa te_X1_perform_0 (wGa zcX0 (wGa t_X5_top_0 (wGa t_X2_arrive_0 (wG0)))))
set_option maxHeartbeats 4000000 in
set_option maxRecDepth 100000 in
theorem m_X1_perform_0 (l : Launch) (G : va_G) (K : Nat → ClassId) (h0 h1 h2 h3 h4 h5 h6 h7 h8 h9 h10 : Nat) (sz : Nat) : Met l yX1_perform v_X1_perform_0 ({ frames := 2, cells := 0, slots := 0, locals := 42 }) (va_Pc [.ref h0, .int 1, .int 0, .int 0, .int 0, .int 0] (wS G K sz [(h0, .inr (0, [.ref h1, .ref h2, .ref h4, .ref h5, .ref h6, .ref h7, .ref h8, .int 0, .int 0, .int 0, .null])), (h1, .inr (1, [.int 1, .ref h3, .int 0, .int (-1), .int 0, .int 0, .int (-1), .ref h9])), (h2, .inr (4, [.ref h10, .int 0])), (h3, .inl (K 1, 200, .inl (fun _ => 0)))])) (va_Qi (fun (r : Int32) (u : va_W) => (1 = r ∧ u = [(h0, .inr (0, [.ref h1, .ref h2, .ref h4, .ref h5, .ref h6, .ref h7, .ref h8, .int 0, .int 0, .int 0, .null])), (h1, .inr (1, [.int 1, .ref h3, .int 1, .int (-1), .int 0, .int 0, .int (-1), .ref h9])), (h2, .inr (4, [.ref h10, .int 0])), (h3, .inl (K 1, 200, .inl (upd (fun _ => 0) 0 1)))])) (wB G (va_A [(h0, .inr (0, [.ref h1, .ref h2, .ref h4, .ref h5, .ref h6, .ref h7, .ref h8, .int 0, .int 0, .int 0, .null])), (h1, .inr (1, [.int 1, .ref h3, .int 0, .int (-1), .int 0, .int 0, .int (-1), .ref h9])), (h2, .inr (4, [.ref h10, .int 0])), (h3, .inl (K 1, 200, .inl (fun _ => 0)))] sz)) (va_A [(h0, .inr (0, [.ref h1, .ref h2, .ref h4, .ref h5, .ref h6, .ref h7, .ref h8, .int 0, .int 0, .int 0, .null])), (h1, .inr (1, [.int 1, .ref h3, .int 0, .int (-1), .int 0, .int 0, .int (-1), .ref h9])), (h2, .inr (4, [.ref h10, .int 0])), (h3, .inl (K 1, 200, .inl (fun _ => 0)))] sz)) 0 0 (va_A [(h0, .inr (0, [.ref h1, .ref h2, .ref h4, .ref h5, .ref h6, .ref h7, .ref h8, .int 0, .int 0, .int 0, .null])), (h1, .inr (1, [.int 1, .ref h3, .int 0, .int (-1), .int 0, .int 0, .int (-1), .ref h9])), (h2, .inr (4, [.ref h10, .int 0])), (h3, .inl (K 1, 200, .inl (fun _ => 0)))] sz) := by
  refine Met.ofW (cc := cX1_perform) (maxL := 7) (ret := (some .int)) (by decide) rfl ?_
  intro p e s m args below meth c s₁ B hml hv
  obtain ⟨rfl, hsz, hP, hK, hD0, hE⟩ := hv
  have hx := B.exec
  have hb := B.bytes
  have hr := B.returns
  have hts := atoms_spec (ws := v_X1_perform_0) B.pre
  have t_ := t_X1_perform_0
  have mw : ∀ w ∈ e_X1_perform_0, w ∈ v_X1_perform_0 := fun w h => List.mem_cons_of_mem _ (List.mem_append_left _ h)
  have hw := fun w (h : w ∈ e_X1_perform_0) => hts w (mw w h)
  have iX0 : ∀ w ∈ wsX00, w ∈ v_X1_perform_0 := fun w h => List.mem_cons_of_mem _ (List.mem_append_right _ (List.mem_append_left _ h))
  have j_X5_top_0 : ∀ w ∈ v_X5_top_0, w ∈ v_X1_perform_0 := fun w h => List.mem_cons_of_mem _ (List.mem_append_right _ (List.mem_append_right _ (List.mem_append_left _ h)))
  have j_X2_arrive_0 : ∀ w ∈ v_X2_arrive_0, w ∈ v_X1_perform_0 := fun w h => List.mem_cons_of_mem _ (List.mem_append_right _ (List.mem_append_right _ (List.mem_append_right _ (List.mem_append_left _ h))))
  have hown : s.vm.findClass RX1 = some m.cls := findClass_of_methodNamed B.named
  have hlocks := B.notSynchronized
  subst hsz
  have hD := hD0.self (sz := s.heap.size)
  generalize hAe : va_A [(h0, .inr (0, [.ref h1, .ref h2, .ref h4, .ref h5, .ref h6, .ref h7, .ref h8, .int 0, .int 0, .int 0, .null])), (h1, .inr (1, [.int 1, .ref h3, .int 0, .int (-1), .int 0, .int 0, .int (-1), .ref h9])), (h2, .inr (4, [.ref h10, .int 0])), (h3, .inl (K 1, 200, .inl (fun _ => 0)))] s.heap.size = A at hD ⊢
  have hA : ∀ q : Nat, s.heap.size ≤ q → A q := fun q h => by rw [← hAe]; exact Or.inr h
  have hS : va_S A s.heap s.heap [] := va_S.rf
  have hP : va_P G vwCl [(h0, .inr (0, [.ref h1, .ref h2, .ref h4, .ref h5, .ref h6, .ref h7, .ref h8, .int 0, .int 0, .int 0, .null])), (h1, .inr (1, [.int 1, .ref h3, .int 0, .int (-1), .int 0, .int 0, .int (-1), .ref h9])), (h2, .inr (4, [.ref h10, .int 0])), (h3, .inl (K 1, 200, .inl (fun _ => 0)))] s.heap := hP
  have hl := lv_entry ([.ref h0, .int 1, .int 0, .int 0, .int 0, .int 0]) (n := 7) (Nat.le_of_ble_eq_true rfl)
  rw [lg_entry_eq]
  generalize (lg_sl ([.ref h0, .int 1, .int 0, .int 0, .int 0, .int 0]) ++ List.replicate (7 - (lg_sl ([.ref h0, .int 1, .int 0, .int 0, .int 0, .int 0])).length) Slot.unset).toArray = ls at hl ⊢
  have hl : lv_has ls 7 [(0, .ref h0), (1, .int 1), (2, .int 0), (3, .int 0), (4, .int 0), (5, .int 0)] := hl
  refine lv_aload_n hx hb dX1_perform_0 rfl (lv_at hl 0 rfl) ?_
  refine va_get (D := G) (ci := 0) (v := .ref h2) (C := RX0) (T := TX0) (N := 11) hx hb hts iX0 hown hK hP 0 rfl rfl 1 (by decide) (hw (.fieldLink RX1 9 "MotionFloor$Assembly" "pending" "LMotionFloor$Pile;") (List.mem_of_getElem? (i := 0) rfl)) (fun _ h9 => h9) rfl dX1_perform_1 ?_
  have hPc := hP.sub (ws' := [(h2, .inr (4, [.ref h10, .int 0]))]) [2] rfl
  have hDc := hD.sub (ws' := [(h2, .inr (4, [.ref h10, .int 0]))]) [2] (by decide) rfl
  refine wGoq (wc := [(h2, .inr (4, [.ref h10, .int 0]))]) (wr := [(h0, .inr (0, [.ref h1, .ref h2, .ref h4, .ref h5, .ref h6, .ref h7, .ref h8, .int 0, .int 0, .int 0, .null])), (h1, .inr (1, [.int 1, .ref h3, .int 0, .int (-1), .int 0, .int 0, .int (-1), .ref h9])), (h3, .inl (K 1, 200, .inl (fun _ => 0)))]) (va_runV (As := []) (rest := []) ⟨hx, hb, hml, hown, hts⟩ (m_X5_top_0 l G K h2 h10 _) (cwV 0 hts (wGV t_ (mw (.methodLink RX1 15 yX5_top) (List.mem_of_getElem? (i := 1) rfl)) (mw (.instanceMethod yX5_top) (List.mem_of_getElem? (i := 2) rfl)) (mw (.selects RX5 yX5_top yX5_top) (List.mem_of_getElem? (i := 3) rfl)) (mw (.initialized RX5) (List.mem_of_getElem? (i := 4) rfl)) j_X5_top_0) rfl rfl rfl (by decide +kernel) ⟨Nat.le_of_ble_eq_true rfl, Nat.le_of_ble_eq_true rfl⟩) (wPV hK hE hPc hDc 4 0 rfl rfl) rfl rfl hl.1 rfl (lv_room (Nat.le_of_ble_eq_true rfl)) dX1_perform_4 ⟨Nat.le_of_ble_eq_true rfl, Nat.le_of_ble_eq_true rfl⟩) hP hD hS hA [2] [0, 1, 3] rfl rfl rfl (by decide) (fun r u H locs hw hP hD hS => ?_)
  rcases hw with ⟨rfl, rfl⟩
  have hP : va_P G vwCl [(h0, .inr (0, [.ref h1, .ref h2, .ref h4, .ref h5, .ref h6, .ref h7, .ref h8, .int 0, .int 0, .int 0, .null])), (h1, .inr (1, [.int 1, .ref h3, .int 0, .int (-1), .int 0, .int 0, .int (-1), .ref h9])), (h3, .inl (K 1, 200, .inl (fun _ => 0))), (h2, .inr (4, [.ref h10, .int 0]))] _ := hP
  have hD : va_D A [(h0, .inr (0, [.ref h1, .ref h2, .ref h4, .ref h5, .ref h6, .ref h7, .ref h8, .int 0, .int 0, .int 0, .null])), (h1, .inr (1, [.int 1, .ref h3, .int 0, .int (-1), .int 0, .int 0, .int (-1), .ref h9])), (h3, .inl (K 1, 200, .inl (fun _ => 0))), (h2, .inr (4, [.ref h10, .int 0]))] := hD
  refine wTop (v1 := .null) rfl ?_
  refine lv_astoreN (lv' := [(6, .null), (0, .ref h0), (1, .int 1), (2, .int 0), (3, .int 0), (4, .int 0), (5, .int 0)]) hx hb dX1_perform_7 hl (by decide) rfl (fun ls hl => ?_)
  refine lv_iload_n hx hb dX1_perform_9 rfl (lv_at hl 2 rfl) ?_
  refine lv_tableIn (off := 102) (tgt := 112) hx hb dX1_perform_10 (by decide) (by decide) (by decide) (by decide) ?_
  refine lv_aload_n hx hb dX1_perform_112 rfl (lv_at hl 1 rfl) ?_
  refine va_get (D := G) (ci := 0) (v := .ref h1) (C := RX0) (T := TX0) (N := 11) hx hb hts iX0 hown hK hP 0 rfl rfl 0 (by decide) (hw (.fieldLink RX1 21 "MotionFloor$Assembly" "house" "LMotionFloor$House;") (List.mem_of_getElem? (i := 5) rfl)) (fun _ h9 => h9) rfl dX1_perform_113 ?_
  refine lv_iload_n hx hb dX1_perform_116 rfl (lv_at hl 3 rfl) ?_
  have hPc := hP.sub (ws' := [(h1, .inr (1, [.int 1, .ref h3, .int 0, .int (-1), .int 0, .int 0, .int (-1), .ref h9])), (h3, .inl (K 1, 200, .inl (fun _ => 0)))]) [1, 2] rfl
  have hDc := hD.sub (ws' := [(h1, .inr (1, [.int 1, .ref h3, .int 0, .int (-1), .int 0, .int 0, .int (-1), .ref h9])), (h3, .inl (K 1, 200, .inl (fun _ => 0)))]) [1, 2] (by decide) rfl
  refine wGoi (wc := [(h1, .inr (1, [.int 1, .ref h3, .int 0, .int (-1), .int 0, .int 0, .int (-1), .ref h9])), (h3, .inl (K 1, 200, .inl (fun _ => 0)))]) (wr := [(h0, .inr (0, [.ref h1, .ref h2, .ref h4, .ref h5, .ref h6, .ref h7, .ref h8, .int 0, .int 0, .int 0, .null])), (h2, .inr (4, [.ref h10, .int 0]))]) (va_runV (As := [.int 0]) (rest := []) ⟨hx, hb, hml, hown, hts⟩ (m_X2_arrive_0 l G K h1 h3 h9 _) (cwV 1 hts (wGV t_ (mw (.methodLink RX1 25 yX2_arrive) (List.mem_of_getElem? (i := 6) rfl)) (mw (.instanceMethod yX2_arrive) (List.mem_of_getElem? (i := 7) rfl)) (mw (.selects RX2 yX2_arrive yX2_arrive) (List.mem_of_getElem? (i := 8) rfl)) (mw (.initialized RX2) (List.mem_of_getElem? (i := 9) rfl)) j_X2_arrive_0) rfl rfl rfl (by decide +kernel) ⟨Nat.le_of_ble_eq_true rfl, Nat.le_of_ble_eq_true rfl⟩) (wPV hK hE hPc hDc 1 0 rfl rfl) rfl rfl hl.1 rfl (lv_room (Nat.le_of_ble_eq_true rfl)) dX1_perform_117 ⟨Nat.le_of_ble_eq_true rfl, Nat.le_of_ble_eq_true rfl⟩) hP hD hS hA [1, 2] [0, 3] rfl rfl rfl (by decide) (fun r u H locs hw hP hD hS => ?_)
  rcases hw with ⟨rfl, rfl⟩
  have hP : va_P G vwCl [(h0, .inr (0, [.ref h1, .ref h2, .ref h4, .ref h5, .ref h6, .ref h7, .ref h8, .int 0, .int 0, .int 0, .null])), (h2, .inr (4, [.ref h10, .int 0])), (h1, .inr (1, [.int 1, .ref h3, .int 1, .int (-1), .int 0, .int 0, .int (-1), .ref h9])), (h3, .inl (K 1, 200, .inl (upd (fun _ => 0) 0 1)))] _ := hP
  have hD : va_D A [(h0, .inr (0, [.ref h1, .ref h2, .ref h4, .ref h5, .ref h6, .ref h7, .ref h8, .int 0, .int 0, .int 0, .null])), (h2, .inr (4, [.ref h10, .int 0])), (h1, .inr (1, [.int 1, .ref h3, .int 1, .int (-1), .int 0, .int 0, .int (-1), .ref h9])), (h3, .inl (K 1, 200, .inl (upd (fun _ => 0) 0 1)))] := hD
  have hP9 := hP.sub (ws' := [(h0, .inr (0, [.ref h1, .ref h2, .ref h4, .ref h5, .ref h6, .ref h7, .ref h8, .int 0, .int 0, .int 0, .null])), (h1, .inr (1, [.int 1, .ref h3, .int 1, .int (-1), .int 0, .int 0, .int (-1), .ref h9])), (h2, .inr (4, [.ref h10, .int 0])), (h3, .inl (K 1, 200, .inl (upd (fun _ => 0) 0 1)))]) [0, 2, 1, 3] rfl
  have hD9 := hD.sub (ws' := [(h0, .inr (0, [.ref h1, .ref h2, .ref h4, .ref h5, .ref h6, .ref h7, .ref h8, .int 0, .int 0, .int 0, .null])), (h1, .inr (1, [.int 1, .ref h3, .int 1, .int (-1), .int 0, .int 0, .int (-1), .ref h9])), (h2, .inr (4, [.ref h10, .int 0])), (h3, .inl (K 1, 200, .inl (upd (fun _ => 0) 0 1)))]) [0, 2, 1, 3] (by decide) rfl
  exact W.iret (v := 1) hx hb hr (fun t ht hW => ⟨⟨1, _, rfl, ⟨rfl, rfl⟩, by rw [ht]; exact hP9, hD9⟩, hS.F ht⟩) hS.2.2 dX1_perform_120
def e_X3_makeRoom_0 : List Cond := [.fieldLink RX3 15 "MotionFloor$Ledger" "columns" "I", .fieldLink RX3 24 "MotionFloor$Ledger" "cells" "[I"]
def v_X3_makeRoom_0 : List Cond := .code yX3_makeRoom cX3_makeRoom 3 none :: (e_X3_makeRoom_0 ++ (wsX30 ++ []))
theorem te_X3_makeRoom_0 : GoodIn lw_tbl e_X3_makeRoom_0 := wGc z38 (wGc z36 (wG0))
theorem t_X3_makeRoom_0 : GoodIn lw_tbl v_X3_makeRoom_0 := wGc z328 (wGa te_X3_makeRoom_0 (wGa zcX3 (wG0)))
set_option maxHeartbeats 4000000 in
set_option maxRecDepth 100000 in
theorem m_X3_makeRoom_0 (l : Launch) (G : va_G) (K : Nat → ClassId) (h0 h1 : Nat) (sz : Nat) : Met l yX3_makeRoom v_X3_makeRoom_0 ({ frames := 0, cells := 0, slots := 0, locals := 0 }) (va_Pc [.ref h0, .int 1] (wS G K sz [(h0, .inr (2, [.int 7, .int 600, .ref h1, .int 1])), (h1, .inl (K 0, 112, .inl (fun _ => 0)))])) (va_Qv (fun u : va_W => (u = [(h0, .inr (2, [.int 7, .int 600, .ref h1, .int 1])), (h1, .inl (K 0, 112, .inl (fun _ => 0)))])) (wB G (va_A [(h0, .inr (2, [.int 7, .int 600, .ref h1, .int 1])), (h1, .inl (K 0, 112, .inl (fun _ => 0)))] sz)) (va_A [(h0, .inr (2, [.int 7, .int 600, .ref h1, .int 1])), (h1, .inl (K 0, 112, .inl (fun _ => 0)))] sz)) 0 0 (va_A [(h0, .inr (2, [.int 7, .int 600, .ref h1, .int 1])), (h1, .inl (K 0, 112, .inl (fun _ => 0)))] sz) := by
  refine Met.ofW (cc := cX3_makeRoom) (maxL := 3) (ret := none) (by decide) rfl ?_
  intro p e s m args below meth c s₁ B hml hv
  obtain ⟨rfl, hsz, hP, hK, hD0, hE⟩ := hv
  have hx := B.exec
  have hb := B.bytes
  have hr := B.returns
  have hts := atoms_spec (ws := v_X3_makeRoom_0) B.pre
  have t_ := t_X3_makeRoom_0
  have mw : ∀ w ∈ e_X3_makeRoom_0, w ∈ v_X3_makeRoom_0 := fun w h => List.mem_cons_of_mem _ (List.mem_append_left _ h)
  have hw := fun w (h : w ∈ e_X3_makeRoom_0) => hts w (mw w h)
  have iX3 : ∀ w ∈ wsX30, w ∈ v_X3_makeRoom_0 := fun w h => List.mem_cons_of_mem _ (List.mem_append_right _ (List.mem_append_left _ h))
  have hown : s.vm.findClass RX3 = some m.cls := findClass_of_methodNamed B.named
  have hlocks := B.notSynchronized
  subst hsz
  have hD := hD0.self (sz := s.heap.size)
  generalize hAe : va_A [(h0, .inr (2, [.int 7, .int 600, .ref h1, .int 1])), (h1, .inl (K 0, 112, .inl (fun _ => 0)))] s.heap.size = A at hD ⊢
  have hA : ∀ q : Nat, s.heap.size ≤ q → A q := fun q h => by rw [← hAe]; exact Or.inr h
  have hS : va_S A s.heap s.heap [] := va_S.rf
  have hP : va_P G vwCl [(h0, .inr (2, [.int 7, .int 600, .ref h1, .int 1])), (h1, .inl (K 0, 112, .inl (fun _ => 0)))] s.heap := hP
  have hl := lv_entry ([.ref h0, .int 1]) (n := 3) (Nat.le_of_ble_eq_true rfl)
  rw [lg_entry_eq]
  generalize (lg_sl ([.ref h0, .int 1]) ++ List.replicate (3 - (lg_sl ([.ref h0, .int 1])).length) Slot.unset).toArray = ls at hl ⊢
  have hl : lv_has ls 3 [(0, .ref h0), (1, .int 1)] := hl
  refine lv_iload_n hx hb dX3_makeRoom_0 rfl (lv_at hl 1 rfl) ?_
  refine lv_aload_n hx hb dX3_makeRoom_1 rfl (lv_at hl 0 rfl) ?_
  refine va_get (D := G) (ci := 2) (v := .int 7) (C := RX3) (T := TX3) (N := 4) hx hb hts iX3 hown hK hP 0 rfl rfl 0 (by decide) (hw (.fieldLink RX3 15 "MotionFloor$Ledger" "columns" "I") (List.mem_of_getElem? (i := 0) rfl)) (fun _ h9 => h9) rfl dX3_makeRoom_2 ?_
  refine lv_imul hx hb dX3_makeRoom_5 ?_
  refine wTop (v1 := .int 7) (congrArg Value.int (by decide)) ?_
  refine lv_istore_n (lv' := [(2, .int 7), (0, .ref h0), (1, .int 1)]) hx hb dX3_makeRoom_6 rfl hl (by decide) rfl (fun ls hl => ?_)
  refine lv_iload_n hx hb dX3_makeRoom_7 rfl (lv_at hl 0 rfl) ?_
  refine lv_aload_n hx hb dX3_makeRoom_8 rfl (lv_at hl 1 rfl) ?_
  refine va_get (D := G) (ci := 2) (v := .ref h1) (C := RX3) (T := TX3) (N := 4) hx hb hts iX3 hown hK hP 0 rfl rfl 2 (by decide) (hw (.fieldLink RX3 24 "MotionFloor$Ledger" "cells" "[I") (List.mem_of_getElem? (i := 1) rfl)) (fun _ h9 => h9) rfl dX3_makeRoom_9 ?_
  refine va_alen (v := 112) hx hb hK hP 1 0 rfl rfl rfl dX3_makeRoom_12 ?_
  refine lv_icmp_le (tgt := 50) hx hb dX3_makeRoom_13 (by decide) (fun _ => ?_) (fun c_ => absurd c_ (by decide))
  have hP9 : va_P G vwCl [(h0, .inr (2, [.int 7, .int 600, .ref h1, .int 1])), (h1, .inl (K 0, 112, .inl (fun _ => 0)))] _ := hP
  have hD9 : va_D A [(h0, .inr (2, [.int 7, .int 600, .ref h1, .int 1])), (h1, .inl (K 0, 112, .inl (fun _ => 0)))] := hD
  exact W.vret hx hb hr (fun t ht hW => ⟨⟨_, rfl, rfl, by rw [ht]; exact hP9, hD9⟩, hS.F ht⟩) hS.2.2 dX3_makeRoom_50
def e_X3_open_0 : List Cond := [.methodLink RX3 31 yX3_isFull, .instanceMethod yX3_isFull, .selects RX3 yX3_isFull yX3_isFull, .initialized RX3, .fieldLink RX3 28 "MotionFloor$Ledger" "size" "I", .methodLink RX3 35 yX3_makeRoom, .instanceMethod yX3_makeRoom, .selects RX3 yX3_makeRoom yX3_makeRoom]
def v_X3_open_0 : List Cond := .code yX3_open cX3_open 1 none :: (e_X3_open_0 ++ (wsX30 ++ (v_X3_isFull_0 ++ (v_X3_makeRoom_0 ++ []))))
theorem te_X3_open_0 : GoodIn lw_tbl e_X3_open_0 := wGc z332 (wGc z305 (wGc z304 (wGc z89 (wGc z302 (wGc z331 (wGc z330 (wGc z329 (wG0))))))))
theorem t_X3_open_0 : GoodIn lw_tbl v_X3_open_0 := wGc z333 (wGa te_X3_open_0 (wGa zcX3 (wGa t_X3_isFull_0 (wGa t_X3_makeRoom_0 (wG0)))))
set_option maxHeartbeats 4000000 in
set_option maxRecDepth 100000 in
theorem m_X3_open_0 (l : Launch) (G : va_G) (K : Nat → ClassId) (h0 h1 : Nat) (sz : Nat) : Met l yX3_open v_X3_open_0 ({ frames := 1, cells := 0, slots := 0, locals := 22 }) (va_Pc [.ref h0] (wS G K sz [(h0, .inr (2, [.int 7, .int 600, .ref h1, .int 0])), (h1, .inl (K 0, 112, .inl (fun _ => 0)))])) (va_Qv (fun u : va_W => (u = [(h0, .inr (2, [.int 7, .int 600, .ref h1, .int 1])), (h1, .inl (K 0, 112, .inl (fun _ => 0)))])) (wB G (va_A [(h0, .inr (2, [.int 7, .int 600, .ref h1, .int 0])), (h1, .inl (K 0, 112, .inl (fun _ => 0)))] sz)) (va_A [(h0, .inr (2, [.int 7, .int 600, .ref h1, .int 0])), (h1, .inl (K 0, 112, .inl (fun _ => 0)))] sz)) 0 0 (va_A [(h0, .inr (2, [.int 7, .int 600, .ref h1, .int 0])), (h1, .inl (K 0, 112, .inl (fun _ => 0)))] sz) := by
  refine Met.ofW (cc := cX3_open) (maxL := 1) (ret := none) (by decide) rfl ?_
  intro p e s m args below meth c s₁ B hml hv
  obtain ⟨rfl, hsz, hP, hK, hD0, hE⟩ := hv
  have hx := B.exec
  have hb := B.bytes
  have hr := B.returns
  have hts := atoms_spec (ws := v_X3_open_0) B.pre
  have t_ := t_X3_open_0
  have mw : ∀ w ∈ e_X3_open_0, w ∈ v_X3_open_0 := fun w h => List.mem_cons_of_mem _ (List.mem_append_left _ h)
  have hw := fun w (h : w ∈ e_X3_open_0) => hts w (mw w h)
  have iX3 : ∀ w ∈ wsX30, w ∈ v_X3_open_0 := fun w h => List.mem_cons_of_mem _ (List.mem_append_right _ (List.mem_append_left _ h))
  have j_X3_isFull_0 : ∀ w ∈ v_X3_isFull_0, w ∈ v_X3_open_0 := fun w h => List.mem_cons_of_mem _ (List.mem_append_right _ (List.mem_append_right _ (List.mem_append_left _ h)))
  have j_X3_makeRoom_0 : ∀ w ∈ v_X3_makeRoom_0, w ∈ v_X3_open_0 := fun w h => List.mem_cons_of_mem _ (List.mem_append_right _ (List.mem_append_right _ (List.mem_append_right _ (List.mem_append_left _ h))))
  have hown : s.vm.findClass RX3 = some m.cls := findClass_of_methodNamed B.named
  have hlocks := B.notSynchronized
  subst hsz
  have hD := hD0.self (sz := s.heap.size)
  generalize hAe : va_A [(h0, .inr (2, [.int 7, .int 600, .ref h1, .int 0])), (h1, .inl (K 0, 112, .inl (fun _ => 0)))] s.heap.size = A at hD ⊢
  have hA : ∀ q : Nat, s.heap.size ≤ q → A q := fun q h => by rw [← hAe]; exact Or.inr h
  have hS : va_S A s.heap s.heap [] := va_S.rf
  have hP : va_P G vwCl [(h0, .inr (2, [.int 7, .int 600, .ref h1, .int 0])), (h1, .inl (K 0, 112, .inl (fun _ => 0)))] s.heap := hP
  have hl := lv_entry ([.ref h0]) (n := 1) (Nat.le_of_ble_eq_true rfl)
  rw [lg_entry_eq]
  generalize (lg_sl ([.ref h0]) ++ List.replicate (1 - (lg_sl ([.ref h0])).length) Slot.unset).toArray = ls at hl ⊢
  have hl : lv_has ls 1 [(0, .ref h0)] := hl
  refine lv_aload_n hx hb dX3_open_0 rfl (lv_at hl 0 rfl) ?_
  have hPc := hP.sub (ws' := [(h0, .inr (2, [.int 7, .int 600, .ref h1, .int 0]))]) [0] rfl
  have hDc := hD.sub (ws' := [(h0, .inr (2, [.int 7, .int 600, .ref h1, .int 0]))]) [0] (by decide) rfl
  refine wGoi (wc := [(h0, .inr (2, [.int 7, .int 600, .ref h1, .int 0]))]) (wr := [(h1, .inl (K 0, 112, .inl (fun _ => 0)))]) (va_runV (As := []) (rest := []) ⟨hx, hb, hml, hown, hts⟩ (m_X3_isFull_0 l G K h0 h1 _) (cwV 0 hts (wGV t_ (mw (.methodLink RX3 31 yX3_isFull) (List.mem_of_getElem? (i := 0) rfl)) (mw (.instanceMethod yX3_isFull) (List.mem_of_getElem? (i := 1) rfl)) (mw (.selects RX3 yX3_isFull yX3_isFull) (List.mem_of_getElem? (i := 2) rfl)) (mw (.initialized RX3) (List.mem_of_getElem? (i := 3) rfl)) j_X3_isFull_0) rfl rfl rfl (by decide +kernel) ⟨Nat.le_of_ble_eq_true rfl, Nat.le_of_ble_eq_true rfl⟩) (wPV hK hE hPc hDc 2 0 rfl rfl) rfl rfl hl.1 rfl (lv_room (Nat.le_of_ble_eq_true rfl)) dX3_open_1 ⟨Nat.le_of_ble_eq_true rfl, Nat.le_of_ble_eq_true rfl⟩) hP hD hS hA [0] [1] rfl rfl rfl (by decide) (fun r u H locs hw hP hD hS => ?_)
  rcases hw with ⟨rfl, rfl⟩
  have hP : va_P G vwCl [(h1, .inl (K 0, 112, .inl (fun _ => 0))), (h0, .inr (2, [.int 7, .int 600, .ref h1, .int 0]))] _ := hP
  have hD : va_D A [(h1, .inl (K 0, 112, .inl (fun _ => 0))), (h0, .inr (2, [.int 7, .int 600, .ref h1, .int 0]))] := hD
  refine lv_if_ne (tgt := 25) hx hb dX3_open_4 (by decide) (fun c_ => absurd c_ (by decide)) (fun _ => ?_)
  refine lv_aload_n hx hb dX3_open_7 rfl (lv_at hl 0 rfl) ?_
  refine lv_dup hx hb dX3_open_8 rfl ?_
  refine va_get (D := G) (ci := 2) (v := .int 0) (C := RX3) (T := TX3) (N := 4) hx hb hts iX3 hown hK hP 1 rfl rfl 3 (by decide) (hw (.fieldLink RX3 28 "MotionFloor$Ledger" "size" "I") (List.mem_of_getElem? (i := 4) rfl)) (fun _ h9 => h9) rfl dX3_open_9 ?_
  refine lv_iconst (v := 1) hx hb dX3_open_12 (by decide) ?_
  refine lv_iadd hx hb dX3_open_13 ?_
  refine wTop (v1 := .int 1) (congrArg Value.int (by decide)) ?_
  refine va_put (D := G) (ci := 2) (v := .int 1) (ty := .int) (C := RX3) (T := TX3) (N := 4) hx hb hts iX3 tyX3 tyX3_ok nmX3 hown hK hP hD hS 1 rfl rfl 3 (by decide) (hw (.fieldLink RX3 28 "MotionFloor$Ledger" "size" "I") (List.mem_of_getElem? (i := 4) rfl)) (fun _ h9 => h9) rfl (by decide +kernel) rfl rfl (Nat.le_of_ble_eq_true rfl) dX3_open_14 (fun H locs hP hD hS => ?_)
  have hP : va_P G vwCl [(h1, .inl (K 0, 112, .inl (fun _ => 0))), (h0, .inr (2, [.int 7, .int 600, .ref h1, .int 1]))] _ := hP
  have hD : va_D A [(h1, .inl (K 0, 112, .inl (fun _ => 0))), (h0, .inr (2, [.int 7, .int 600, .ref h1, .int 1]))] := hD
  refine lv_aload_n hx hb dX3_open_17 rfl (lv_at hl 0 rfl) ?_
  refine lv_aload_n hx hb dX3_open_18 rfl (lv_at hl 0 rfl) ?_
  refine va_get (D := G) (ci := 2) (v := .int 1) (C := RX3) (T := TX3) (N := 4) hx hb hts iX3 hown hK hP 1 rfl rfl 3 (by decide) (hw (.fieldLink RX3 28 "MotionFloor$Ledger" "size" "I") (List.mem_of_getElem? (i := 4) rfl)) (fun _ h9 => h9) rfl dX3_open_19 ?_
  have hPc := hP.sub (ws' := [(h0, .inr (2, [.int 7, .int 600, .ref h1, .int 1])), (h1, .inl (K 0, 112, .inl (fun _ => 0)))]) [1, 0] rfl
  have hDc := hD.sub (ws' := [(h0, .inr (2, [.int 7, .int 600, .ref h1, .int 1])), (h1, .inl (K 0, 112, .inl (fun _ => 0)))]) [1, 0] (by decide) rfl
  refine wGov (wc := [(h0, .inr (2, [.int 7, .int 600, .ref h1, .int 1])), (h1, .inl (K 0, 112, .inl (fun _ => 0)))]) (wr := []) (va_runV (As := [.int 1]) (rest := []) ⟨hx, hb, hml, hown, hts⟩ (m_X3_makeRoom_0 l G K h0 h1 _) (cwV 1 hts (wGV t_ (mw (.methodLink RX3 35 yX3_makeRoom) (List.mem_of_getElem? (i := 5) rfl)) (mw (.instanceMethod yX3_makeRoom) (List.mem_of_getElem? (i := 6) rfl)) (mw (.selects RX3 yX3_makeRoom yX3_makeRoom) (List.mem_of_getElem? (i := 7) rfl)) (mw (.initialized RX3) (List.mem_of_getElem? (i := 3) rfl)) j_X3_makeRoom_0) rfl rfl rfl (by decide +kernel) ⟨Nat.le_of_ble_eq_true rfl, Nat.le_of_ble_eq_true rfl⟩) (wPV hK hE hPc hDc 2 0 rfl rfl) rfl rfl hl.1 rfl (lv_room (Nat.le_of_ble_eq_true rfl)) dX3_open_22 ⟨Nat.le_of_ble_eq_true rfl, Nat.le_of_ble_eq_true rfl⟩) hP hD hS hA [1, 0] [] rfl rfl rfl (by decide) (fun u H locs hw hP hD hS => ?_)
  subst hw
  have hP : va_P G vwCl [(h0, .inr (2, [.int 7, .int 600, .ref h1, .int 1])), (h1, .inl (K 0, 112, .inl (fun _ => 0)))] _ := hP
  have hD : va_D A [(h0, .inr (2, [.int 7, .int 600, .ref h1, .int 1])), (h1, .inl (K 0, 112, .inl (fun _ => 0)))] := hD
  have hP9 : va_P G vwCl [(h0, .inr (2, [.int 7, .int 600, .ref h1, .int 1])), (h1, .inl (K 0, 112, .inl (fun _ => 0)))] _ := hP
  have hD9 : va_D A [(h0, .inr (2, [.int 7, .int 600, .ref h1, .int 1])), (h1, .inl (K 0, 112, .inl (fun _ => 0)))] := hD
  exact W.vret hx hb hr (fun t ht hW => ⟨⟨_, rfl, rfl, by rw [ht]; exact hP9, hD9⟩, hS.F ht⟩) hS.2.2 dX3_open_25
def e_X3_write_0 : List Cond := [.fieldLink RX3 28 "MotionFloor$Ledger" "size" "I", .fieldLink RX3 15 "MotionFloor$Ledger" "columns" "I", .fieldLink RX3 24 "MotionFloor$Ledger" "cells" "[I"]
def v_X3_write_0 : List Cond := .code yX3_write cX3_write 4 none :: (e_X3_write_0 ++ (wsX30 ++ []))
theorem te_X3_write_0 : GoodIn lw_tbl e_X3_write_0 := wGc z302 (wGc z38 (wGc z36 (wG0)))
theorem t_X3_write_0 : GoodIn lw_tbl v_X3_write_0 := wGc z334 (wGa te_X3_write_0 (wGa zcX3 (wG0)))
set_option maxHeartbeats 4000000 in
set_option maxRecDepth 100000 in
theorem m_X3_write_0 (l : Launch) (G : va_G) (K : Nat → ClassId) (h0 h1 : Nat) (sz : Nat) : Met l yX3_write v_X3_write_0 ({ frames := 0, cells := 0, slots := 0, locals := 0 }) (va_Pc [.ref h0, .int 0, .int 1] (wS G K sz [(h0, .inr (2, [.int 7, .int 600, .ref h1, .int 1])), (h1, .inl (K 0, 112, .inl (fun _ => 0)))])) (va_Qv (fun u : va_W => (u = [(h0, .inr (2, [.int 7, .int 600, .ref h1, .int 1])), (h1, .inl (K 0, 112, .inl (upd (fun _ => 0) 0 1)))])) (wB G (va_A [(h0, .inr (2, [.int 7, .int 600, .ref h1, .int 1])), (h1, .inl (K 0, 112, .inl (fun _ => 0)))] sz)) (va_A [(h0, .inr (2, [.int 7, .int 600, .ref h1, .int 1])), (h1, .inl (K 0, 112, .inl (fun _ => 0)))] sz)) 0 0 (va_A [(h0, .inr (2, [.int 7, .int 600, .ref h1, .int 1])), (h1, .inl (K 0, 112, .inl (fun _ => 0)))] sz) := by
  refine Met.ofW (cc := cX3_write) (maxL := 4) (ret := none) (by decide) rfl ?_
  intro p e s m args below meth c s₁ B hml hv
  obtain ⟨rfl, hsz, hP, hK, hD0, hE⟩ := hv
  have hx := B.exec
  have hb := B.bytes
  have hr := B.returns
  have hts := atoms_spec (ws := v_X3_write_0) B.pre
  have t_ := t_X3_write_0
  have mw : ∀ w ∈ e_X3_write_0, w ∈ v_X3_write_0 := fun w h => List.mem_cons_of_mem _ (List.mem_append_left _ h)
  have hw := fun w (h : w ∈ e_X3_write_0) => hts w (mw w h)
  have iX3 : ∀ w ∈ wsX30, w ∈ v_X3_write_0 := fun w h => List.mem_cons_of_mem _ (List.mem_append_right _ (List.mem_append_left _ h))
  have hown : s.vm.findClass RX3 = some m.cls := findClass_of_methodNamed B.named
  have hlocks := B.notSynchronized
  subst hsz
  have hD := hD0.self (sz := s.heap.size)
  generalize hAe : va_A [(h0, .inr (2, [.int 7, .int 600, .ref h1, .int 1])), (h1, .inl (K 0, 112, .inl (fun _ => 0)))] s.heap.size = A at hD ⊢
  have hA : ∀ q : Nat, s.heap.size ≤ q → A q := fun q h => by rw [← hAe]; exact Or.inr h
  have hS : va_S A s.heap s.heap [] := va_S.rf
  have hP : va_P G vwCl [(h0, .inr (2, [.int 7, .int 600, .ref h1, .int 1])), (h1, .inl (K 0, 112, .inl (fun _ => 0)))] s.heap := hP
  have hl := lv_entry ([.ref h0, .int 0, .int 1]) (n := 4) (Nat.le_of_ble_eq_true rfl)
  rw [lg_entry_eq]
  generalize (lg_sl ([.ref h0, .int 0, .int 1]) ++ List.replicate (4 - (lg_sl ([.ref h0, .int 0, .int 1])).length) Slot.unset).toArray = ls at hl ⊢
  have hl : lv_has ls 4 [(0, .ref h0), (1, .int 0), (2, .int 1)] := hl
  refine lv_aload_n hx hb dX3_write_0 rfl (lv_at hl 0 rfl) ?_
  refine va_get (D := G) (ci := 2) (v := .int 1) (C := RX3) (T := TX3) (N := 4) hx hb hts iX3 hown hK hP 0 rfl rfl 3 (by decide) (hw (.fieldLink RX3 28 "MotionFloor$Ledger" "size" "I") (List.mem_of_getElem? (i := 0) rfl)) (fun _ h9 => h9) rfl dX3_write_1 ?_
  refine lv_iconst (v := 1) hx hb dX3_write_4 (by decide) ?_
  refine lv_isub hx hb dX3_write_5 ?_
  refine wTop (v1 := .int 0) (congrArg Value.int (by decide)) ?_
  refine lv_aload_n hx hb dX3_write_6 rfl (lv_at hl 0 rfl) ?_
  refine va_get (D := G) (ci := 2) (v := .int 7) (C := RX3) (T := TX3) (N := 4) hx hb hts iX3 hown hK hP 0 rfl rfl 0 (by decide) (hw (.fieldLink RX3 15 "MotionFloor$Ledger" "columns" "I") (List.mem_of_getElem? (i := 1) rfl)) (fun _ h9 => h9) rfl dX3_write_7 ?_
  refine lv_imul hx hb dX3_write_10 ?_
  refine wTop (v1 := .int 0) (congrArg Value.int (by decide)) ?_
  refine lv_iload_n hx hb dX3_write_11 rfl (lv_at hl 1 rfl) ?_
  refine lv_iadd hx hb dX3_write_12 ?_
  refine wTop (v1 := .int 0) (congrArg Value.int (by decide)) ?_
  refine lv_istore_n (lv' := [(3, .int 0), (0, .ref h0), (1, .int 0), (2, .int 1)]) hx hb dX3_write_13 rfl hl (by decide) rfl (fun ls hl => ?_)
  refine lv_iload_n hx hb dX3_write_14 rfl (lv_at hl 2 rfl) ?_
  refine lv_if_lt (tgt := 46) hx hb dX3_write_15 (by decide) (fun c_ => absurd c_ (by decide)) (fun _ => ?_)
  refine lv_iload_n hx hb dX3_write_18 rfl (lv_at hl 2 rfl) ?_
  refine lv_aload_n hx hb dX3_write_19 rfl (lv_at hl 1 rfl) ?_
  refine va_get (D := G) (ci := 2) (v := .int 7) (C := RX3) (T := TX3) (N := 4) hx hb hts iX3 hown hK hP 0 rfl rfl 0 (by decide) (hw (.fieldLink RX3 15 "MotionFloor$Ledger" "columns" "I") (List.mem_of_getElem? (i := 1) rfl)) (fun _ h9 => h9) rfl dX3_write_20 ?_
  refine lv_icmp_ge (tgt := 46) hx hb dX3_write_23 (by decide) (fun c_ => absurd c_ (by decide)) (fun _ => ?_)
  refine lv_iload_n hx hb dX3_write_26 rfl (lv_at hl 0 rfl) ?_
  refine lv_if_lt (tgt := 46) hx hb dX3_write_27 (by decide) (fun c_ => absurd c_ (by decide)) (fun _ => ?_)
  refine lv_iload_n hx hb dX3_write_30 rfl (lv_at hl 0 rfl) ?_
  refine lv_aload_n hx hb dX3_write_31 rfl (lv_at hl 1 rfl) ?_
  refine va_get (D := G) (ci := 2) (v := .ref h1) (C := RX3) (T := TX3) (N := 4) hx hb hts iX3 hown hK hP 0 rfl rfl 2 (by decide) (hw (.fieldLink RX3 24 "MotionFloor$Ledger" "cells" "[I") (List.mem_of_getElem? (i := 2) rfl)) (fun _ h9 => h9) rfl dX3_write_32 ?_
  refine va_alen (v := 112) hx hb hK hP 1 0 rfl rfl rfl dX3_write_35 ?_
  refine lv_icmp_ge (tgt := 46) hx hb dX3_write_36 (by decide) (fun c_ => absurd c_ (by decide)) (fun _ => ?_)
  refine lv_aload_n hx hb dX3_write_39 rfl (lv_at hl 1 rfl) ?_
  refine va_get (D := G) (ci := 2) (v := .ref h1) (C := RX3) (T := TX3) (N := 4) hx hb hts iX3 hown hK hP 0 rfl rfl 2 (by decide) (hw (.fieldLink RX3 24 "MotionFloor$Ledger" "cells" "[I") (List.mem_of_getElem? (i := 2) rfl)) (fun _ h9 => h9) rfl dX3_write_40 ?_
  refine lv_iload_n hx hb dX3_write_43 rfl (lv_at hl 0 rfl) ?_
  refine lv_iload_n hx hb dX3_write_44 rfl (lv_at hl 3 rfl) ?_
  refine va_iast hx hb hK hP hD hS 1 0 rfl rfl (vp_in_iff.mpr (by decide)) dX3_write_45 (fun H locs hP hD hS => ?_)
  have hP : va_P G vwCl [(h0, .inr (2, [.int 7, .int 600, .ref h1, .int 1])), (h1, .inl (K 0, 112, .inl (upd (fun _ => 0) 0 1)))] _ := hP
  have hD : va_D A [(h0, .inr (2, [.int 7, .int 600, .ref h1, .int 1])), (h1, .inl (K 0, 112, .inl (upd (fun _ => 0) 0 1)))] := hD
  have hP9 : va_P G vwCl [(h0, .inr (2, [.int 7, .int 600, .ref h1, .int 1])), (h1, .inl (K 0, 112, .inl (upd (fun _ => 0) 0 1)))] _ := hP
  have hD9 : va_D A [(h0, .inr (2, [.int 7, .int 600, .ref h1, .int 1])), (h1, .inl (K 0, 112, .inl (upd (fun _ => 0) 0 1)))] := hD
  exact W.vret hx hb hr (fun t ht hW => ⟨⟨_, rfl, rfl, by rw [ht]; exact hP9, hD9⟩, hS.F ht⟩) hS.2.2 dX3_write_46
def e_X3_write_1 : List Cond := [.fieldLink RX3 28 "MotionFloor$Ledger" "size" "I", .fieldLink RX3 15 "MotionFloor$Ledger" "columns" "I", .fieldLink RX3 24 "MotionFloor$Ledger" "cells" "[I"]
def v_X3_write_1 : List Cond := .code yX3_write cX3_write 4 none :: (e_X3_write_1 ++ (wsX30 ++ []))
theorem te_X3_write_1 : GoodIn lw_tbl e_X3_write_1 := wGc z302 (wGc z38 (wGc z36 (wG0)))
theorem t_X3_write_1 : GoodIn lw_tbl v_X3_write_1 := wGc z334 (wGa te_X3_write_1 (wGa zcX3 (wG0)))
set_option maxHeartbeats 4000000 in
set_option maxRecDepth 100000 in
theorem m_X3_write_1 (l : Launch) (G : va_G) (K : Nat → ClassId) (h0 h1 : Nat) (sz : Nat) : Met l yX3_write v_X3_write_1 ({ frames := 0, cells := 0, slots := 0, locals := 0 }) (va_Pc [.ref h0, .int 1, .int 0] (wS G K sz [(h0, .inr (2, [.int 7, .int 600, .ref h1, .int 1])), (h1, .inl (K 0, 112, .inl (upd (fun _ => 0) 0 1)))])) (va_Qv (fun u : va_W => (u = [(h0, .inr (2, [.int 7, .int 600, .ref h1, .int 1])), (h1, .inl (K 0, 112, .inl (upd (upd (fun _ => 0) 0 1) 1 0)))])) (wB G (va_A [(h0, .inr (2, [.int 7, .int 600, .ref h1, .int 1])), (h1, .inl (K 0, 112, .inl (upd (fun _ => 0) 0 1)))] sz)) (va_A [(h0, .inr (2, [.int 7, .int 600, .ref h1, .int 1])), (h1, .inl (K 0, 112, .inl (upd (fun _ => 0) 0 1)))] sz)) 0 0 (va_A [(h0, .inr (2, [.int 7, .int 600, .ref h1, .int 1])), (h1, .inl (K 0, 112, .inl (upd (fun _ => 0) 0 1)))] sz) := by
  refine Met.ofW (cc := cX3_write) (maxL := 4) (ret := none) (by decide) rfl ?_
  intro p e s m args below meth c s₁ B hml hv
  obtain ⟨rfl, hsz, hP, hK, hD0, hE⟩ := hv
  have hx := B.exec
  have hb := B.bytes
  have hr := B.returns
  have hts := atoms_spec (ws := v_X3_write_1) B.pre
  have t_ := t_X3_write_1
  have mw : ∀ w ∈ e_X3_write_1, w ∈ v_X3_write_1 := fun w h => List.mem_cons_of_mem _ (List.mem_append_left _ h)
  have hw := fun w (h : w ∈ e_X3_write_1) => hts w (mw w h)
  have iX3 : ∀ w ∈ wsX30, w ∈ v_X3_write_1 := fun w h => List.mem_cons_of_mem _ (List.mem_append_right _ (List.mem_append_left _ h))
  have hown : s.vm.findClass RX3 = some m.cls := findClass_of_methodNamed B.named
  have hlocks := B.notSynchronized
  subst hsz
  have hD := hD0.self (sz := s.heap.size)
  generalize hAe : va_A [(h0, .inr (2, [.int 7, .int 600, .ref h1, .int 1])), (h1, .inl (K 0, 112, .inl (upd (fun _ => 0) 0 1)))] s.heap.size = A at hD ⊢
  have hA : ∀ q : Nat, s.heap.size ≤ q → A q := fun q h => by rw [← hAe]; exact Or.inr h
  have hS : va_S A s.heap s.heap [] := va_S.rf
  have hP : va_P G vwCl [(h0, .inr (2, [.int 7, .int 600, .ref h1, .int 1])), (h1, .inl (K 0, 112, .inl (upd (fun _ => 0) 0 1)))] s.heap := hP
  have hl := lv_entry ([.ref h0, .int 1, .int 0]) (n := 4) (Nat.le_of_ble_eq_true rfl)
  rw [lg_entry_eq]
  generalize (lg_sl ([.ref h0, .int 1, .int 0]) ++ List.replicate (4 - (lg_sl ([.ref h0, .int 1, .int 0])).length) Slot.unset).toArray = ls at hl ⊢
  have hl : lv_has ls 4 [(0, .ref h0), (1, .int 1), (2, .int 0)] := hl
  refine lv_aload_n hx hb dX3_write_0 rfl (lv_at hl 0 rfl) ?_
  refine va_get (D := G) (ci := 2) (v := .int 1) (C := RX3) (T := TX3) (N := 4) hx hb hts iX3 hown hK hP 0 rfl rfl 3 (by decide) (hw (.fieldLink RX3 28 "MotionFloor$Ledger" "size" "I") (List.mem_of_getElem? (i := 0) rfl)) (fun _ h9 => h9) rfl dX3_write_1 ?_
  refine lv_iconst (v := 1) hx hb dX3_write_4 (by decide) ?_
  refine lv_isub hx hb dX3_write_5 ?_
  refine wTop (v1 := .int 0) (congrArg Value.int (by decide)) ?_
  refine lv_aload_n hx hb dX3_write_6 rfl (lv_at hl 0 rfl) ?_
  refine va_get (D := G) (ci := 2) (v := .int 7) (C := RX3) (T := TX3) (N := 4) hx hb hts iX3 hown hK hP 0 rfl rfl 0 (by decide) (hw (.fieldLink RX3 15 "MotionFloor$Ledger" "columns" "I") (List.mem_of_getElem? (i := 1) rfl)) (fun _ h9 => h9) rfl dX3_write_7 ?_
  refine lv_imul hx hb dX3_write_10 ?_
  refine wTop (v1 := .int 0) (congrArg Value.int (by decide)) ?_
  refine lv_iload_n hx hb dX3_write_11 rfl (lv_at hl 1 rfl) ?_
  refine lv_iadd hx hb dX3_write_12 ?_
  refine wTop (v1 := .int 1) (congrArg Value.int (by decide)) ?_
  refine lv_istore_n (lv' := [(3, .int 1), (0, .ref h0), (1, .int 1), (2, .int 0)]) hx hb dX3_write_13 rfl hl (by decide) rfl (fun ls hl => ?_)
  refine lv_iload_n hx hb dX3_write_14 rfl (lv_at hl 2 rfl) ?_
  refine lv_if_lt (tgt := 46) hx hb dX3_write_15 (by decide) (fun c_ => absurd c_ (by decide)) (fun _ => ?_)
  refine lv_iload_n hx hb dX3_write_18 rfl (lv_at hl 2 rfl) ?_
  refine lv_aload_n hx hb dX3_write_19 rfl (lv_at hl 1 rfl) ?_
  refine va_get (D := G) (ci := 2) (v := .int 7) (C := RX3) (T := TX3) (N := 4) hx hb hts iX3 hown hK hP 0 rfl rfl 0 (by decide) (hw (.fieldLink RX3 15 "MotionFloor$Ledger" "columns" "I") (List.mem_of_getElem? (i := 1) rfl)) (fun _ h9 => h9) rfl dX3_write_20 ?_
  refine lv_icmp_ge (tgt := 46) hx hb dX3_write_23 (by decide) (fun c_ => absurd c_ (by decide)) (fun _ => ?_)
  refine lv_iload_n hx hb dX3_write_26 rfl (lv_at hl 0 rfl) ?_
  refine lv_if_lt (tgt := 46) hx hb dX3_write_27 (by decide) (fun c_ => absurd c_ (by decide)) (fun _ => ?_)
  refine lv_iload_n hx hb dX3_write_30 rfl (lv_at hl 0 rfl) ?_
  refine lv_aload_n hx hb dX3_write_31 rfl (lv_at hl 1 rfl) ?_
  refine va_get (D := G) (ci := 2) (v := .ref h1) (C := RX3) (T := TX3) (N := 4) hx hb hts iX3 hown hK hP 0 rfl rfl 2 (by decide) (hw (.fieldLink RX3 24 "MotionFloor$Ledger" "cells" "[I") (List.mem_of_getElem? (i := 2) rfl)) (fun _ h9 => h9) rfl dX3_write_32 ?_
  refine va_alen (v := 112) hx hb hK hP 1 0 rfl rfl rfl dX3_write_35 ?_
  refine lv_icmp_ge (tgt := 46) hx hb dX3_write_36 (by decide) (fun c_ => absurd c_ (by decide)) (fun _ => ?_)
  refine lv_aload_n hx hb dX3_write_39 rfl (lv_at hl 1 rfl) ?_
  refine va_get (D := G) (ci := 2) (v := .ref h1) (C := RX3) (T := TX3) (N := 4) hx hb hts iX3 hown hK hP 0 rfl rfl 2 (by decide) (hw (.fieldLink RX3 24 "MotionFloor$Ledger" "cells" "[I") (List.mem_of_getElem? (i := 2) rfl)) (fun _ h9 => h9) rfl dX3_write_40 ?_
  refine lv_iload_n hx hb dX3_write_43 rfl (lv_at hl 0 rfl) ?_
  refine lv_iload_n hx hb dX3_write_44 rfl (lv_at hl 3 rfl) ?_
  refine va_iast hx hb hK hP hD hS 1 0 rfl rfl (vp_in_iff.mpr (by decide)) dX3_write_45 (fun H locs hP hD hS => ?_)
  have hP : va_P G vwCl [(h0, .inr (2, [.int 7, .int 600, .ref h1, .int 1])), (h1, .inl (K 0, 112, .inl (upd (upd (fun _ => 0) 0 1) 1 0)))] _ := hP
  have hD : va_D A [(h0, .inr (2, [.int 7, .int 600, .ref h1, .int 1])), (h1, .inl (K 0, 112, .inl (upd (upd (fun _ => 0) 0 1) 1 0)))] := hD
  have hP9 : va_P G vwCl [(h0, .inr (2, [.int 7, .int 600, .ref h1, .int 1])), (h1, .inl (K 0, 112, .inl (upd (upd (fun _ => 0) 0 1) 1 0)))] _ := hP
  have hD9 : va_D A [(h0, .inr (2, [.int 7, .int 600, .ref h1, .int 1])), (h1, .inl (K 0, 112, .inl (upd (upd (fun _ => 0) 0 1) 1 0)))] := hD
  exact W.vret hx hb hr (fun t ht hW => ⟨⟨_, rfl, rfl, by rw [ht]; exact hP9, hD9⟩, hS.F ht⟩) hS.2.2 dX3_write_46
def e_X3_write_2 : List Cond := [.fieldLink RX3 28 "MotionFloor$Ledger" "size" "I", .fieldLink RX3 15 "MotionFloor$Ledger" "columns" "I", .fieldLink RX3 24 "MotionFloor$Ledger" "cells" "[I"]
def v_X3_write_2 : List Cond := .code yX3_write cX3_write 4 none :: (e_X3_write_2 ++ (wsX30 ++ []))
theorem te_X3_write_2 : GoodIn lw_tbl e_X3_write_2 := wGc z302 (wGc z38 (wGc z36 (wG0)))
theorem t_X3_write_2 : GoodIn lw_tbl v_X3_write_2 := wGc z334 (wGa te_X3_write_2 (wGa zcX3 (wG0)))
set_option maxHeartbeats 4000000 in
set_option maxRecDepth 100000 in
theorem m_X3_write_2 (l : Launch) (G : va_G) (K : Nat → ClassId) (h0 h1 : Nat) (sz : Nat) : Met l yX3_write v_X3_write_2 ({ frames := 0, cells := 0, slots := 0, locals := 0 }) (va_Pc [.ref h0, .int 2, .int 0] (wS G K sz [(h0, .inr (2, [.int 7, .int 600, .ref h1, .int 1])), (h1, .inl (K 0, 112, .inl (upd (upd (fun _ => 0) 0 1) 1 0)))])) (va_Qv (fun u : va_W => (u = [(h0, .inr (2, [.int 7, .int 600, .ref h1, .int 1])), (h1, .inl (K 0, 112, .inl (upd (upd (upd (fun _ => 0) 0 1) 1 0) 2 0)))])) (wB G (va_A [(h0, .inr (2, [.int 7, .int 600, .ref h1, .int 1])), (h1, .inl (K 0, 112, .inl (upd (upd (fun _ => 0) 0 1) 1 0)))] sz)) (va_A [(h0, .inr (2, [.int 7, .int 600, .ref h1, .int 1])), (h1, .inl (K 0, 112, .inl (upd (upd (fun _ => 0) 0 1) 1 0)))] sz)) 0 0 (va_A [(h0, .inr (2, [.int 7, .int 600, .ref h1, .int 1])), (h1, .inl (K 0, 112, .inl (upd (upd (fun _ => 0) 0 1) 1 0)))] sz) := by
  refine Met.ofW (cc := cX3_write) (maxL := 4) (ret := none) (by decide) rfl ?_
  intro p e s m args below meth c s₁ B hml hv
  obtain ⟨rfl, hsz, hP, hK, hD0, hE⟩ := hv
  have hx := B.exec
  have hb := B.bytes
  have hr := B.returns
  have hts := atoms_spec (ws := v_X3_write_2) B.pre
  have t_ := t_X3_write_2
  have mw : ∀ w ∈ e_X3_write_2, w ∈ v_X3_write_2 := fun w h => List.mem_cons_of_mem _ (List.mem_append_left _ h)
  have hw := fun w (h : w ∈ e_X3_write_2) => hts w (mw w h)
  have iX3 : ∀ w ∈ wsX30, w ∈ v_X3_write_2 := fun w h => List.mem_cons_of_mem _ (List.mem_append_right _ (List.mem_append_left _ h))
  have hown : s.vm.findClass RX3 = some m.cls := findClass_of_methodNamed B.named
  have hlocks := B.notSynchronized
  subst hsz
  have hD := hD0.self (sz := s.heap.size)
  generalize hAe : va_A [(h0, .inr (2, [.int 7, .int 600, .ref h1, .int 1])), (h1, .inl (K 0, 112, .inl (upd (upd (fun _ => 0) 0 1) 1 0)))] s.heap.size = A at hD ⊢
  have hA : ∀ q : Nat, s.heap.size ≤ q → A q := fun q h => by rw [← hAe]; exact Or.inr h
  have hS : va_S A s.heap s.heap [] := va_S.rf
  have hP : va_P G vwCl [(h0, .inr (2, [.int 7, .int 600, .ref h1, .int 1])), (h1, .inl (K 0, 112, .inl (upd (upd (fun _ => 0) 0 1) 1 0)))] s.heap := hP
  have hl := lv_entry ([.ref h0, .int 2, .int 0]) (n := 4) (Nat.le_of_ble_eq_true rfl)
  rw [lg_entry_eq]
  generalize (lg_sl ([.ref h0, .int 2, .int 0]) ++ List.replicate (4 - (lg_sl ([.ref h0, .int 2, .int 0])).length) Slot.unset).toArray = ls at hl ⊢
  have hl : lv_has ls 4 [(0, .ref h0), (1, .int 2), (2, .int 0)] := hl
  refine lv_aload_n hx hb dX3_write_0 rfl (lv_at hl 0 rfl) ?_
  refine va_get (D := G) (ci := 2) (v := .int 1) (C := RX3) (T := TX3) (N := 4) hx hb hts iX3 hown hK hP 0 rfl rfl 3 (by decide) (hw (.fieldLink RX3 28 "MotionFloor$Ledger" "size" "I") (List.mem_of_getElem? (i := 0) rfl)) (fun _ h9 => h9) rfl dX3_write_1 ?_
  refine lv_iconst (v := 1) hx hb dX3_write_4 (by decide) ?_
  refine lv_isub hx hb dX3_write_5 ?_
  refine wTop (v1 := .int 0) (congrArg Value.int (by decide)) ?_
  refine lv_aload_n hx hb dX3_write_6 rfl (lv_at hl 0 rfl) ?_
  refine va_get (D := G) (ci := 2) (v := .int 7) (C := RX3) (T := TX3) (N := 4) hx hb hts iX3 hown hK hP 0 rfl rfl 0 (by decide) (hw (.fieldLink RX3 15 "MotionFloor$Ledger" "columns" "I") (List.mem_of_getElem? (i := 1) rfl)) (fun _ h9 => h9) rfl dX3_write_7 ?_
  refine lv_imul hx hb dX3_write_10 ?_
  refine wTop (v1 := .int 0) (congrArg Value.int (by decide)) ?_
  refine lv_iload_n hx hb dX3_write_11 rfl (lv_at hl 1 rfl) ?_
  refine lv_iadd hx hb dX3_write_12 ?_
  refine wTop (v1 := .int 2) (congrArg Value.int (by decide)) ?_
  refine lv_istore_n (lv' := [(3, .int 2), (0, .ref h0), (1, .int 2), (2, .int 0)]) hx hb dX3_write_13 rfl hl (by decide) rfl (fun ls hl => ?_)
  refine lv_iload_n hx hb dX3_write_14 rfl (lv_at hl 2 rfl) ?_
  refine lv_if_lt (tgt := 46) hx hb dX3_write_15 (by decide) (fun c_ => absurd c_ (by decide)) (fun _ => ?_)
  refine lv_iload_n hx hb dX3_write_18 rfl (lv_at hl 2 rfl) ?_
  refine lv_aload_n hx hb dX3_write_19 rfl (lv_at hl 1 rfl) ?_
  refine va_get (D := G) (ci := 2) (v := .int 7) (C := RX3) (T := TX3) (N := 4) hx hb hts iX3 hown hK hP 0 rfl rfl 0 (by decide) (hw (.fieldLink RX3 15 "MotionFloor$Ledger" "columns" "I") (List.mem_of_getElem? (i := 1) rfl)) (fun _ h9 => h9) rfl dX3_write_20 ?_
  refine lv_icmp_ge (tgt := 46) hx hb dX3_write_23 (by decide) (fun c_ => absurd c_ (by decide)) (fun _ => ?_)
  refine lv_iload_n hx hb dX3_write_26 rfl (lv_at hl 0 rfl) ?_
  refine lv_if_lt (tgt := 46) hx hb dX3_write_27 (by decide) (fun c_ => absurd c_ (by decide)) (fun _ => ?_)
  refine lv_iload_n hx hb dX3_write_30 rfl (lv_at hl 0 rfl) ?_
  refine lv_aload_n hx hb dX3_write_31 rfl (lv_at hl 1 rfl) ?_
  refine va_get (D := G) (ci := 2) (v := .ref h1) (C := RX3) (T := TX3) (N := 4) hx hb hts iX3 hown hK hP 0 rfl rfl 2 (by decide) (hw (.fieldLink RX3 24 "MotionFloor$Ledger" "cells" "[I") (List.mem_of_getElem? (i := 2) rfl)) (fun _ h9 => h9) rfl dX3_write_32 ?_
  refine va_alen (v := 112) hx hb hK hP 1 0 rfl rfl rfl dX3_write_35 ?_
  refine lv_icmp_ge (tgt := 46) hx hb dX3_write_36 (by decide) (fun c_ => absurd c_ (by decide)) (fun _ => ?_)
  refine lv_aload_n hx hb dX3_write_39 rfl (lv_at hl 1 rfl) ?_
  refine va_get (D := G) (ci := 2) (v := .ref h1) (C := RX3) (T := TX3) (N := 4) hx hb hts iX3 hown hK hP 0 rfl rfl 2 (by decide) (hw (.fieldLink RX3 24 "MotionFloor$Ledger" "cells" "[I") (List.mem_of_getElem? (i := 2) rfl)) (fun _ h9 => h9) rfl dX3_write_40 ?_
  refine lv_iload_n hx hb dX3_write_43 rfl (lv_at hl 0 rfl) ?_
  refine lv_iload_n hx hb dX3_write_44 rfl (lv_at hl 3 rfl) ?_
  refine va_iast hx hb hK hP hD hS 1 0 rfl rfl (vp_in_iff.mpr (by decide)) dX3_write_45 (fun H locs hP hD hS => ?_)
  have hP : va_P G vwCl [(h0, .inr (2, [.int 7, .int 600, .ref h1, .int 1])), (h1, .inl (K 0, 112, .inl (upd (upd (upd (fun _ => 0) 0 1) 1 0) 2 0)))] _ := hP
  have hD : va_D A [(h0, .inr (2, [.int 7, .int 600, .ref h1, .int 1])), (h1, .inl (K 0, 112, .inl (upd (upd (upd (fun _ => 0) 0 1) 1 0) 2 0)))] := hD
  have hP9 : va_P G vwCl [(h0, .inr (2, [.int 7, .int 600, .ref h1, .int 1])), (h1, .inl (K 0, 112, .inl (upd (upd (upd (fun _ => 0) 0 1) 1 0) 2 0)))] _ := hP
  have hD9 : va_D A [(h0, .inr (2, [.int 7, .int 600, .ref h1, .int 1])), (h1, .inl (K 0, 112, .inl (upd (upd (upd (fun _ => 0) 0 1) 1 0) 2 0)))] := hD
  exact W.vret hx hb hr (fun t ht hW => ⟨⟨_, rfl, rfl, by rw [ht]; exact hP9, hD9⟩, hS.F ht⟩) hS.2.2 dX3_write_46
def e_X3_write_3 : List Cond := [.fieldLink RX3 28 "MotionFloor$Ledger" "size" "I", .fieldLink RX3 15 "MotionFloor$Ledger" "columns" "I", .fieldLink RX3 24 "MotionFloor$Ledger" "cells" "[I"]
def v_X3_write_3 : List Cond := .code yX3_write cX3_write 4 none :: (e_X3_write_3 ++ (wsX30 ++ []))
theorem te_X3_write_3 : GoodIn lw_tbl e_X3_write_3 := wGc z302 (wGc z38 (wGc z36 (wG0)))
theorem t_X3_write_3 : GoodIn lw_tbl v_X3_write_3 := wGc z334 (wGa te_X3_write_3 (wGa zcX3 (wG0)))
set_option maxHeartbeats 4000000 in
set_option maxRecDepth 100000 in
theorem m_X3_write_3 (l : Launch) (G : va_G) (K : Nat → ClassId) (h0 h1 : Nat) (sz : Nat) : Met l yX3_write v_X3_write_3 ({ frames := 0, cells := 0, slots := 0, locals := 0 }) (va_Pc [.ref h0, .int 3, .int 0] (wS G K sz [(h0, .inr (2, [.int 7, .int 600, .ref h1, .int 1])), (h1, .inl (K 0, 112, .inl (upd (upd (upd (fun _ => 0) 0 1) 1 0) 2 0)))])) (va_Qv (fun u : va_W => (u = [(h0, .inr (2, [.int 7, .int 600, .ref h1, .int 1])), (h1, .inl (K 0, 112, .inl (upd (upd (upd (upd (fun _ => 0) 0 1) 1 0) 2 0) 3 0)))])) (wB G (va_A [(h0, .inr (2, [.int 7, .int 600, .ref h1, .int 1])), (h1, .inl (K 0, 112, .inl (upd (upd (upd (fun _ => 0) 0 1) 1 0) 2 0)))] sz)) (va_A [(h0, .inr (2, [.int 7, .int 600, .ref h1, .int 1])), (h1, .inl (K 0, 112, .inl (upd (upd (upd (fun _ => 0) 0 1) 1 0) 2 0)))] sz)) 0 0 (va_A [(h0, .inr (2, [.int 7, .int 600, .ref h1, .int 1])), (h1, .inl (K 0, 112, .inl (upd (upd (upd (fun _ => 0) 0 1) 1 0) 2 0)))] sz) := by
  refine Met.ofW (cc := cX3_write) (maxL := 4) (ret := none) (by decide) rfl ?_
  intro p e s m args below meth c s₁ B hml hv
  obtain ⟨rfl, hsz, hP, hK, hD0, hE⟩ := hv
  have hx := B.exec
  have hb := B.bytes
  have hr := B.returns
  have hts := atoms_spec (ws := v_X3_write_3) B.pre
  have t_ := t_X3_write_3
  have mw : ∀ w ∈ e_X3_write_3, w ∈ v_X3_write_3 := fun w h => List.mem_cons_of_mem _ (List.mem_append_left _ h)
  have hw := fun w (h : w ∈ e_X3_write_3) => hts w (mw w h)
  have iX3 : ∀ w ∈ wsX30, w ∈ v_X3_write_3 := fun w h => List.mem_cons_of_mem _ (List.mem_append_right _ (List.mem_append_left _ h))
  have hown : s.vm.findClass RX3 = some m.cls := findClass_of_methodNamed B.named
  have hlocks := B.notSynchronized
  subst hsz
  have hD := hD0.self (sz := s.heap.size)
  generalize hAe : va_A [(h0, .inr (2, [.int 7, .int 600, .ref h1, .int 1])), (h1, .inl (K 0, 112, .inl (upd (upd (upd (fun _ => 0) 0 1) 1 0) 2 0)))] s.heap.size = A at hD ⊢
  have hA : ∀ q : Nat, s.heap.size ≤ q → A q := fun q h => by rw [← hAe]; exact Or.inr h
  have hS : va_S A s.heap s.heap [] := va_S.rf
  have hP : va_P G vwCl [(h0, .inr (2, [.int 7, .int 600, .ref h1, .int 1])), (h1, .inl (K 0, 112, .inl (upd (upd (upd (fun _ => 0) 0 1) 1 0) 2 0)))] s.heap := hP
  have hl := lv_entry ([.ref h0, .int 3, .int 0]) (n := 4) (Nat.le_of_ble_eq_true rfl)
  rw [lg_entry_eq]
  generalize (lg_sl ([.ref h0, .int 3, .int 0]) ++ List.replicate (4 - (lg_sl ([.ref h0, .int 3, .int 0])).length) Slot.unset).toArray = ls at hl ⊢
  have hl : lv_has ls 4 [(0, .ref h0), (1, .int 3), (2, .int 0)] := hl
  refine lv_aload_n hx hb dX3_write_0 rfl (lv_at hl 0 rfl) ?_
  refine va_get (D := G) (ci := 2) (v := .int 1) (C := RX3) (T := TX3) (N := 4) hx hb hts iX3 hown hK hP 0 rfl rfl 3 (by decide) (hw (.fieldLink RX3 28 "MotionFloor$Ledger" "size" "I") (List.mem_of_getElem? (i := 0) rfl)) (fun _ h9 => h9) rfl dX3_write_1 ?_
  refine lv_iconst (v := 1) hx hb dX3_write_4 (by decide) ?_
  refine lv_isub hx hb dX3_write_5 ?_
  refine wTop (v1 := .int 0) (congrArg Value.int (by decide)) ?_
  refine lv_aload_n hx hb dX3_write_6 rfl (lv_at hl 0 rfl) ?_
  refine va_get (D := G) (ci := 2) (v := .int 7) (C := RX3) (T := TX3) (N := 4) hx hb hts iX3 hown hK hP 0 rfl rfl 0 (by decide) (hw (.fieldLink RX3 15 "MotionFloor$Ledger" "columns" "I") (List.mem_of_getElem? (i := 1) rfl)) (fun _ h9 => h9) rfl dX3_write_7 ?_
  refine lv_imul hx hb dX3_write_10 ?_
  refine wTop (v1 := .int 0) (congrArg Value.int (by decide)) ?_
  refine lv_iload_n hx hb dX3_write_11 rfl (lv_at hl 1 rfl) ?_
  refine lv_iadd hx hb dX3_write_12 ?_
  refine wTop (v1 := .int 3) (congrArg Value.int (by decide)) ?_
  refine lv_istore_n (lv' := [(3, .int 3), (0, .ref h0), (1, .int 3), (2, .int 0)]) hx hb dX3_write_13 rfl hl (by decide) rfl (fun ls hl => ?_)
  refine lv_iload_n hx hb dX3_write_14 rfl (lv_at hl 2 rfl) ?_
  refine lv_if_lt (tgt := 46) hx hb dX3_write_15 (by decide) (fun c_ => absurd c_ (by decide)) (fun _ => ?_)
  refine lv_iload_n hx hb dX3_write_18 rfl (lv_at hl 2 rfl) ?_
  refine lv_aload_n hx hb dX3_write_19 rfl (lv_at hl 1 rfl) ?_
  refine va_get (D := G) (ci := 2) (v := .int 7) (C := RX3) (T := TX3) (N := 4) hx hb hts iX3 hown hK hP 0 rfl rfl 0 (by decide) (hw (.fieldLink RX3 15 "MotionFloor$Ledger" "columns" "I") (List.mem_of_getElem? (i := 1) rfl)) (fun _ h9 => h9) rfl dX3_write_20 ?_
  refine lv_icmp_ge (tgt := 46) hx hb dX3_write_23 (by decide) (fun c_ => absurd c_ (by decide)) (fun _ => ?_)
  refine lv_iload_n hx hb dX3_write_26 rfl (lv_at hl 0 rfl) ?_
  refine lv_if_lt (tgt := 46) hx hb dX3_write_27 (by decide) (fun c_ => absurd c_ (by decide)) (fun _ => ?_)
  refine lv_iload_n hx hb dX3_write_30 rfl (lv_at hl 0 rfl) ?_
  refine lv_aload_n hx hb dX3_write_31 rfl (lv_at hl 1 rfl) ?_
  refine va_get (D := G) (ci := 2) (v := .ref h1) (C := RX3) (T := TX3) (N := 4) hx hb hts iX3 hown hK hP 0 rfl rfl 2 (by decide) (hw (.fieldLink RX3 24 "MotionFloor$Ledger" "cells" "[I") (List.mem_of_getElem? (i := 2) rfl)) (fun _ h9 => h9) rfl dX3_write_32 ?_
  refine va_alen (v := 112) hx hb hK hP 1 0 rfl rfl rfl dX3_write_35 ?_
  refine lv_icmp_ge (tgt := 46) hx hb dX3_write_36 (by decide) (fun c_ => absurd c_ (by decide)) (fun _ => ?_)
  refine lv_aload_n hx hb dX3_write_39 rfl (lv_at hl 1 rfl) ?_
  refine va_get (D := G) (ci := 2) (v := .ref h1) (C := RX3) (T := TX3) (N := 4) hx hb hts iX3 hown hK hP 0 rfl rfl 2 (by decide) (hw (.fieldLink RX3 24 "MotionFloor$Ledger" "cells" "[I") (List.mem_of_getElem? (i := 2) rfl)) (fun _ h9 => h9) rfl dX3_write_40 ?_
  refine lv_iload_n hx hb dX3_write_43 rfl (lv_at hl 0 rfl) ?_
  refine lv_iload_n hx hb dX3_write_44 rfl (lv_at hl 3 rfl) ?_
  refine va_iast hx hb hK hP hD hS 1 0 rfl rfl (vp_in_iff.mpr (by decide)) dX3_write_45 (fun H locs hP hD hS => ?_)
  have hP : va_P G vwCl [(h0, .inr (2, [.int 7, .int 600, .ref h1, .int 1])), (h1, .inl (K 0, 112, .inl (upd (upd (upd (upd (fun _ => 0) 0 1) 1 0) 2 0) 3 0)))] _ := hP
  have hD : va_D A [(h0, .inr (2, [.int 7, .int 600, .ref h1, .int 1])), (h1, .inl (K 0, 112, .inl (upd (upd (upd (upd (fun _ => 0) 0 1) 1 0) 2 0) 3 0)))] := hD
  have hP9 : va_P G vwCl [(h0, .inr (2, [.int 7, .int 600, .ref h1, .int 1])), (h1, .inl (K 0, 112, .inl (upd (upd (upd (upd (fun _ => 0) 0 1) 1 0) 2 0) 3 0)))] _ := hP
  have hD9 : va_D A [(h0, .inr (2, [.int 7, .int 600, .ref h1, .int 1])), (h1, .inl (K 0, 112, .inl (upd (upd (upd (upd (fun _ => 0) 0 1) 1 0) 2 0) 3 0)))] := hD
  exact W.vret hx hb hr (fun t ht hW => ⟨⟨_, rfl, rfl, by rw [ht]; exact hP9, hD9⟩, hS.F ht⟩) hS.2.2 dX3_write_46
def e_X3_write_4 : List Cond := [.fieldLink RX3 28 "MotionFloor$Ledger" "size" "I", .fieldLink RX3 15 "MotionFloor$Ledger" "columns" "I", .fieldLink RX3 24 "MotionFloor$Ledger" "cells" "[I"]
def v_X3_write_4 : List Cond := .code yX3_write cX3_write 4 none :: (e_X3_write_4 ++ (wsX30 ++ []))
theorem te_X3_write_4 : GoodIn lw_tbl e_X3_write_4 := wGc z302 (wGc z38 (wGc z36 (wG0)))
theorem t_X3_write_4 : GoodIn lw_tbl v_X3_write_4 := wGc z334 (wGa te_X3_write_4 (wGa zcX3 (wG0)))
set_option maxHeartbeats 4000000 in
set_option maxRecDepth 100000 in
theorem m_X3_write_4 (l : Launch) (G : va_G) (K : Nat → ClassId) (h0 h1 : Nat) (sz : Nat) : Met l yX3_write v_X3_write_4 ({ frames := 0, cells := 0, slots := 0, locals := 0 }) (va_Pc [.ref h0, .int 4, .int 0] (wS G K sz [(h0, .inr (2, [.int 7, .int 600, .ref h1, .int 1])), (h1, .inl (K 0, 112, .inl (upd (upd (upd (upd (fun _ => 0) 0 1) 1 0) 2 0) 3 0)))])) (va_Qv (fun u : va_W => (u = [(h0, .inr (2, [.int 7, .int 600, .ref h1, .int 1])), (h1, .inl (K 0, 112, .inl (upd (upd (upd (upd (upd (fun _ => 0) 0 1) 1 0) 2 0) 3 0) 4 0)))])) (wB G (va_A [(h0, .inr (2, [.int 7, .int 600, .ref h1, .int 1])), (h1, .inl (K 0, 112, .inl (upd (upd (upd (upd (fun _ => 0) 0 1) 1 0) 2 0) 3 0)))] sz)) (va_A [(h0, .inr (2, [.int 7, .int 600, .ref h1, .int 1])), (h1, .inl (K 0, 112, .inl (upd (upd (upd (upd (fun _ => 0) 0 1) 1 0) 2 0) 3 0)))] sz)) 0 0 (va_A [(h0, .inr (2, [.int 7, .int 600, .ref h1, .int 1])), (h1, .inl (K 0, 112, .inl (upd (upd (upd (upd (fun _ => 0) 0 1) 1 0) 2 0) 3 0)))] sz) := by
  refine Met.ofW (cc := cX3_write) (maxL := 4) (ret := none) (by decide) rfl ?_
  intro p e s m args below meth c s₁ B hml hv
  obtain ⟨rfl, hsz, hP, hK, hD0, hE⟩ := hv
  have hx := B.exec
  have hb := B.bytes
  have hr := B.returns
  have hts := atoms_spec (ws := v_X3_write_4) B.pre
  have t_ := t_X3_write_4
  have mw : ∀ w ∈ e_X3_write_4, w ∈ v_X3_write_4 := fun w h => List.mem_cons_of_mem _ (List.mem_append_left _ h)
  have hw := fun w (h : w ∈ e_X3_write_4) => hts w (mw w h)
  have iX3 : ∀ w ∈ wsX30, w ∈ v_X3_write_4 := fun w h => List.mem_cons_of_mem _ (List.mem_append_right _ (List.mem_append_left _ h))
  have hown : s.vm.findClass RX3 = some m.cls := findClass_of_methodNamed B.named
  have hlocks := B.notSynchronized
  subst hsz
  have hD := hD0.self (sz := s.heap.size)
  generalize hAe : va_A [(h0, .inr (2, [.int 7, .int 600, .ref h1, .int 1])), (h1, .inl (K 0, 112, .inl (upd (upd (upd (upd (fun _ => 0) 0 1) 1 0) 2 0) 3 0)))] s.heap.size = A at hD ⊢
  have hA : ∀ q : Nat, s.heap.size ≤ q → A q := fun q h => by rw [← hAe]; exact Or.inr h
  have hS : va_S A s.heap s.heap [] := va_S.rf
  have hP : va_P G vwCl [(h0, .inr (2, [.int 7, .int 600, .ref h1, .int 1])), (h1, .inl (K 0, 112, .inl (upd (upd (upd (upd (fun _ => 0) 0 1) 1 0) 2 0) 3 0)))] s.heap := hP
  have hl := lv_entry ([.ref h0, .int 4, .int 0]) (n := 4) (Nat.le_of_ble_eq_true rfl)
  rw [lg_entry_eq]
  generalize (lg_sl ([.ref h0, .int 4, .int 0]) ++ List.replicate (4 - (lg_sl ([.ref h0, .int 4, .int 0])).length) Slot.unset).toArray = ls at hl ⊢
  have hl : lv_has ls 4 [(0, .ref h0), (1, .int 4), (2, .int 0)] := hl
  refine lv_aload_n hx hb dX3_write_0 rfl (lv_at hl 0 rfl) ?_
  refine va_get (D := G) (ci := 2) (v := .int 1) (C := RX3) (T := TX3) (N := 4) hx hb hts iX3 hown hK hP 0 rfl rfl 3 (by decide) (hw (.fieldLink RX3 28 "MotionFloor$Ledger" "size" "I") (List.mem_of_getElem? (i := 0) rfl)) (fun _ h9 => h9) rfl dX3_write_1 ?_
  refine lv_iconst (v := 1) hx hb dX3_write_4 (by decide) ?_
  refine lv_isub hx hb dX3_write_5 ?_
  refine wTop (v1 := .int 0) (congrArg Value.int (by decide)) ?_
  refine lv_aload_n hx hb dX3_write_6 rfl (lv_at hl 0 rfl) ?_
  refine va_get (D := G) (ci := 2) (v := .int 7) (C := RX3) (T := TX3) (N := 4) hx hb hts iX3 hown hK hP 0 rfl rfl 0 (by decide) (hw (.fieldLink RX3 15 "MotionFloor$Ledger" "columns" "I") (List.mem_of_getElem? (i := 1) rfl)) (fun _ h9 => h9) rfl dX3_write_7 ?_
  refine lv_imul hx hb dX3_write_10 ?_
  refine wTop (v1 := .int 0) (congrArg Value.int (by decide)) ?_
  refine lv_iload_n hx hb dX3_write_11 rfl (lv_at hl 1 rfl) ?_
  refine lv_iadd hx hb dX3_write_12 ?_
  refine wTop (v1 := .int 4) (congrArg Value.int (by decide)) ?_
  refine lv_istore_n (lv' := [(3, .int 4), (0, .ref h0), (1, .int 4), (2, .int 0)]) hx hb dX3_write_13 rfl hl (by decide) rfl (fun ls hl => ?_)
  refine lv_iload_n hx hb dX3_write_14 rfl (lv_at hl 2 rfl) ?_
  refine lv_if_lt (tgt := 46) hx hb dX3_write_15 (by decide) (fun c_ => absurd c_ (by decide)) (fun _ => ?_)
  refine lv_iload_n hx hb dX3_write_18 rfl (lv_at hl 2 rfl) ?_
  refine lv_aload_n hx hb dX3_write_19 rfl (lv_at hl 1 rfl) ?_
  refine va_get (D := G) (ci := 2) (v := .int 7) (C := RX3) (T := TX3) (N := 4) hx hb hts iX3 hown hK hP 0 rfl rfl 0 (by decide) (hw (.fieldLink RX3 15 "MotionFloor$Ledger" "columns" "I") (List.mem_of_getElem? (i := 1) rfl)) (fun _ h9 => h9) rfl dX3_write_20 ?_
  refine lv_icmp_ge (tgt := 46) hx hb dX3_write_23 (by decide) (fun c_ => absurd c_ (by decide)) (fun _ => ?_)
  refine lv_iload_n hx hb dX3_write_26 rfl (lv_at hl 0 rfl) ?_
  refine lv_if_lt (tgt := 46) hx hb dX3_write_27 (by decide) (fun c_ => absurd c_ (by decide)) (fun _ => ?_)
  refine lv_iload_n hx hb dX3_write_30 rfl (lv_at hl 0 rfl) ?_
  refine lv_aload_n hx hb dX3_write_31 rfl (lv_at hl 1 rfl) ?_
  refine va_get (D := G) (ci := 2) (v := .ref h1) (C := RX3) (T := TX3) (N := 4) hx hb hts iX3 hown hK hP 0 rfl rfl 2 (by decide) (hw (.fieldLink RX3 24 "MotionFloor$Ledger" "cells" "[I") (List.mem_of_getElem? (i := 2) rfl)) (fun _ h9 => h9) rfl dX3_write_32 ?_
  refine va_alen (v := 112) hx hb hK hP 1 0 rfl rfl rfl dX3_write_35 ?_
  refine lv_icmp_ge (tgt := 46) hx hb dX3_write_36 (by decide) (fun c_ => absurd c_ (by decide)) (fun _ => ?_)
  refine lv_aload_n hx hb dX3_write_39 rfl (lv_at hl 1 rfl) ?_
  refine va_get (D := G) (ci := 2) (v := .ref h1) (C := RX3) (T := TX3) (N := 4) hx hb hts iX3 hown hK hP 0 rfl rfl 2 (by decide) (hw (.fieldLink RX3 24 "MotionFloor$Ledger" "cells" "[I") (List.mem_of_getElem? (i := 2) rfl)) (fun _ h9 => h9) rfl dX3_write_40 ?_
  refine lv_iload_n hx hb dX3_write_43 rfl (lv_at hl 0 rfl) ?_
  refine lv_iload_n hx hb dX3_write_44 rfl (lv_at hl 3 rfl) ?_
  refine va_iast hx hb hK hP hD hS 1 0 rfl rfl (vp_in_iff.mpr (by decide)) dX3_write_45 (fun H locs hP hD hS => ?_)
  have hP : va_P G vwCl [(h0, .inr (2, [.int 7, .int 600, .ref h1, .int 1])), (h1, .inl (K 0, 112, .inl (upd (upd (upd (upd (upd (fun _ => 0) 0 1) 1 0) 2 0) 3 0) 4 0)))] _ := hP
  have hD : va_D A [(h0, .inr (2, [.int 7, .int 600, .ref h1, .int 1])), (h1, .inl (K 0, 112, .inl (upd (upd (upd (upd (upd (fun _ => 0) 0 1) 1 0) 2 0) 3 0) 4 0)))] := hD
  have hP9 : va_P G vwCl [(h0, .inr (2, [.int 7, .int 600, .ref h1, .int 1])), (h1, .inl (K 0, 112, .inl (upd (upd (upd (upd (upd (fun _ => 0) 0 1) 1 0) 2 0) 3 0) 4 0)))] _ := hP
  have hD9 : va_D A [(h0, .inr (2, [.int 7, .int 600, .ref h1, .int 1])), (h1, .inl (K 0, 112, .inl (upd (upd (upd (upd (upd (fun _ => 0) 0 1) 1 0) 2 0) 3 0) 4 0)))] := hD
  exact W.vret hx hb hr (fun t ht hW => ⟨⟨_, rfl, rfl, by rw [ht]; exact hP9, hD9⟩, hS.F ht⟩) hS.2.2 dX3_write_46
def e_X3_write_5 : List Cond := [.fieldLink RX3 28 "MotionFloor$Ledger" "size" "I", .fieldLink RX3 15 "MotionFloor$Ledger" "columns" "I", .fieldLink RX3 24 "MotionFloor$Ledger" "cells" "[I"]
def v_X3_write_5 : List Cond := .code yX3_write cX3_write 4 none :: (e_X3_write_5 ++ (wsX30 ++ []))
theorem te_X3_write_5 : GoodIn lw_tbl e_X3_write_5 := wGc z302 (wGc z38 (wGc z36 (wG0)))
theorem t_X3_write_5 : GoodIn lw_tbl v_X3_write_5 := wGc z334 (wGa te_X3_write_5 (wGa zcX3 (wG0)))
set_option maxHeartbeats 4000000 in
set_option maxRecDepth 100000 in
theorem m_X3_write_5 (l : Launch) (G : va_G) (K : Nat → ClassId) (h0 h1 : Nat) (sz : Nat) : Met l yX3_write v_X3_write_5 ({ frames := 0, cells := 0, slots := 0, locals := 0 }) (va_Pc [.ref h0, .int 5, .int 1] (wS G K sz [(h0, .inr (2, [.int 7, .int 600, .ref h1, .int 1])), (h1, .inl (K 0, 112, .inl (upd (upd (upd (upd (upd (fun _ => 0) 0 1) 1 0) 2 0) 3 0) 4 0)))])) (va_Qv (fun u : va_W => (u = [(h0, .inr (2, [.int 7, .int 600, .ref h1, .int 1])), (h1, .inl (K 0, 112, .inl (upd (upd (upd (upd (upd (upd (fun _ => 0) 0 1) 1 0) 2 0) 3 0) 4 0) 5 1)))])) (wB G (va_A [(h0, .inr (2, [.int 7, .int 600, .ref h1, .int 1])), (h1, .inl (K 0, 112, .inl (upd (upd (upd (upd (upd (fun _ => 0) 0 1) 1 0) 2 0) 3 0) 4 0)))] sz)) (va_A [(h0, .inr (2, [.int 7, .int 600, .ref h1, .int 1])), (h1, .inl (K 0, 112, .inl (upd (upd (upd (upd (upd (fun _ => 0) 0 1) 1 0) 2 0) 3 0) 4 0)))] sz)) 0 0 (va_A [(h0, .inr (2, [.int 7, .int 600, .ref h1, .int 1])), (h1, .inl (K 0, 112, .inl (upd (upd (upd (upd (upd (fun _ => 0) 0 1) 1 0) 2 0) 3 0) 4 0)))] sz) := by
  refine Met.ofW (cc := cX3_write) (maxL := 4) (ret := none) (by decide) rfl ?_
  intro p e s m args below meth c s₁ B hml hv
  obtain ⟨rfl, hsz, hP, hK, hD0, hE⟩ := hv
  have hx := B.exec
  have hb := B.bytes
  have hr := B.returns
  have hts := atoms_spec (ws := v_X3_write_5) B.pre
  have t_ := t_X3_write_5
  have mw : ∀ w ∈ e_X3_write_5, w ∈ v_X3_write_5 := fun w h => List.mem_cons_of_mem _ (List.mem_append_left _ h)
  have hw := fun w (h : w ∈ e_X3_write_5) => hts w (mw w h)
  have iX3 : ∀ w ∈ wsX30, w ∈ v_X3_write_5 := fun w h => List.mem_cons_of_mem _ (List.mem_append_right _ (List.mem_append_left _ h))
  have hown : s.vm.findClass RX3 = some m.cls := findClass_of_methodNamed B.named
  have hlocks := B.notSynchronized
  subst hsz
  have hD := hD0.self (sz := s.heap.size)
  generalize hAe : va_A [(h0, .inr (2, [.int 7, .int 600, .ref h1, .int 1])), (h1, .inl (K 0, 112, .inl (upd (upd (upd (upd (upd (fun _ => 0) 0 1) 1 0) 2 0) 3 0) 4 0)))] s.heap.size = A at hD ⊢
  have hA : ∀ q : Nat, s.heap.size ≤ q → A q := fun q h => by rw [← hAe]; exact Or.inr h
  have hS : va_S A s.heap s.heap [] := va_S.rf
  have hP : va_P G vwCl [(h0, .inr (2, [.int 7, .int 600, .ref h1, .int 1])), (h1, .inl (K 0, 112, .inl (upd (upd (upd (upd (upd (fun _ => 0) 0 1) 1 0) 2 0) 3 0) 4 0)))] s.heap := hP
  have hl := lv_entry ([.ref h0, .int 5, .int 1]) (n := 4) (Nat.le_of_ble_eq_true rfl)
  rw [lg_entry_eq]
  generalize (lg_sl ([.ref h0, .int 5, .int 1]) ++ List.replicate (4 - (lg_sl ([.ref h0, .int 5, .int 1])).length) Slot.unset).toArray = ls at hl ⊢
  have hl : lv_has ls 4 [(0, .ref h0), (1, .int 5), (2, .int 1)] := hl
  refine lv_aload_n hx hb dX3_write_0 rfl (lv_at hl 0 rfl) ?_
  refine va_get (D := G) (ci := 2) (v := .int 1) (C := RX3) (T := TX3) (N := 4) hx hb hts iX3 hown hK hP 0 rfl rfl 3 (by decide) (hw (.fieldLink RX3 28 "MotionFloor$Ledger" "size" "I") (List.mem_of_getElem? (i := 0) rfl)) (fun _ h9 => h9) rfl dX3_write_1 ?_
  refine lv_iconst (v := 1) hx hb dX3_write_4 (by decide) ?_
  refine lv_isub hx hb dX3_write_5 ?_
  refine wTop (v1 := .int 0) (congrArg Value.int (by decide)) ?_
  refine lv_aload_n hx hb dX3_write_6 rfl (lv_at hl 0 rfl) ?_
  refine va_get (D := G) (ci := 2) (v := .int 7) (C := RX3) (T := TX3) (N := 4) hx hb hts iX3 hown hK hP 0 rfl rfl 0 (by decide) (hw (.fieldLink RX3 15 "MotionFloor$Ledger" "columns" "I") (List.mem_of_getElem? (i := 1) rfl)) (fun _ h9 => h9) rfl dX3_write_7 ?_
  refine lv_imul hx hb dX3_write_10 ?_
  refine wTop (v1 := .int 0) (congrArg Value.int (by decide)) ?_
  refine lv_iload_n hx hb dX3_write_11 rfl (lv_at hl 1 rfl) ?_
  refine lv_iadd hx hb dX3_write_12 ?_
  refine wTop (v1 := .int 5) (congrArg Value.int (by decide)) ?_
  refine lv_istore_n (lv' := [(3, .int 5), (0, .ref h0), (1, .int 5), (2, .int 1)]) hx hb dX3_write_13 rfl hl (by decide) rfl (fun ls hl => ?_)
  refine lv_iload_n hx hb dX3_write_14 rfl (lv_at hl 2 rfl) ?_
  refine lv_if_lt (tgt := 46) hx hb dX3_write_15 (by decide) (fun c_ => absurd c_ (by decide)) (fun _ => ?_)
  refine lv_iload_n hx hb dX3_write_18 rfl (lv_at hl 2 rfl) ?_
  refine lv_aload_n hx hb dX3_write_19 rfl (lv_at hl 1 rfl) ?_
  refine va_get (D := G) (ci := 2) (v := .int 7) (C := RX3) (T := TX3) (N := 4) hx hb hts iX3 hown hK hP 0 rfl rfl 0 (by decide) (hw (.fieldLink RX3 15 "MotionFloor$Ledger" "columns" "I") (List.mem_of_getElem? (i := 1) rfl)) (fun _ h9 => h9) rfl dX3_write_20 ?_
  refine lv_icmp_ge (tgt := 46) hx hb dX3_write_23 (by decide) (fun c_ => absurd c_ (by decide)) (fun _ => ?_)
  refine lv_iload_n hx hb dX3_write_26 rfl (lv_at hl 0 rfl) ?_
  refine lv_if_lt (tgt := 46) hx hb dX3_write_27 (by decide) (fun c_ => absurd c_ (by decide)) (fun _ => ?_)
  refine lv_iload_n hx hb dX3_write_30 rfl (lv_at hl 0 rfl) ?_
  refine lv_aload_n hx hb dX3_write_31 rfl (lv_at hl 1 rfl) ?_
  refine va_get (D := G) (ci := 2) (v := .ref h1) (C := RX3) (T := TX3) (N := 4) hx hb hts iX3 hown hK hP 0 rfl rfl 2 (by decide) (hw (.fieldLink RX3 24 "MotionFloor$Ledger" "cells" "[I") (List.mem_of_getElem? (i := 2) rfl)) (fun _ h9 => h9) rfl dX3_write_32 ?_
  refine va_alen (v := 112) hx hb hK hP 1 0 rfl rfl rfl dX3_write_35 ?_
  refine lv_icmp_ge (tgt := 46) hx hb dX3_write_36 (by decide) (fun c_ => absurd c_ (by decide)) (fun _ => ?_)
  refine lv_aload_n hx hb dX3_write_39 rfl (lv_at hl 1 rfl) ?_
  refine va_get (D := G) (ci := 2) (v := .ref h1) (C := RX3) (T := TX3) (N := 4) hx hb hts iX3 hown hK hP 0 rfl rfl 2 (by decide) (hw (.fieldLink RX3 24 "MotionFloor$Ledger" "cells" "[I") (List.mem_of_getElem? (i := 2) rfl)) (fun _ h9 => h9) rfl dX3_write_40 ?_
  refine lv_iload_n hx hb dX3_write_43 rfl (lv_at hl 0 rfl) ?_
  refine lv_iload_n hx hb dX3_write_44 rfl (lv_at hl 3 rfl) ?_
  refine va_iast hx hb hK hP hD hS 1 0 rfl rfl (vp_in_iff.mpr (by decide)) dX3_write_45 (fun H locs hP hD hS => ?_)
  have hP : va_P G vwCl [(h0, .inr (2, [.int 7, .int 600, .ref h1, .int 1])), (h1, .inl (K 0, 112, .inl (upd (upd (upd (upd (upd (upd (fun _ => 0) 0 1) 1 0) 2 0) 3 0) 4 0) 5 1)))] _ := hP
  have hD : va_D A [(h0, .inr (2, [.int 7, .int 600, .ref h1, .int 1])), (h1, .inl (K 0, 112, .inl (upd (upd (upd (upd (upd (upd (fun _ => 0) 0 1) 1 0) 2 0) 3 0) 4 0) 5 1)))] := hD
  have hP9 : va_P G vwCl [(h0, .inr (2, [.int 7, .int 600, .ref h1, .int 1])), (h1, .inl (K 0, 112, .inl (upd (upd (upd (upd (upd (upd (fun _ => 0) 0 1) 1 0) 2 0) 3 0) 4 0) 5 1)))] _ := hP
  have hD9 : va_D A [(h0, .inr (2, [.int 7, .int 600, .ref h1, .int 1])), (h1, .inl (K 0, 112, .inl (upd (upd (upd (upd (upd (upd (fun _ => 0) 0 1) 1 0) 2 0) 3 0) 4 0) 5 1)))] := hD
  exact W.vret hx hb hr (fun t ht hW => ⟨⟨_, rfl, rfl, by rw [ht]; exact hP9, hD9⟩, hS.F ht⟩) hS.2.2 dX3_write_46
