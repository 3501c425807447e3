def e_X4_renew_0 : List Cond := [.methodLink RX4 22 yX4_keepTextAs, .instanceMethod yX4_keepTextAs, .selects RX4 yX4_keepTextAs yX4_keepTextAs, .initialized RX4, .fieldLink RX4 12 "MotionFloor$Motion" "text" "LMotionFloor$Text;", .fieldLink RX4 26 "MotionFloor$Text" "size" "I"]
def v_X4_renew_0 : List Cond := .code yX4_renew cX4_renew 2 none :: (e_X4_renew_0 ++ (wsX40 ++ (wsX90 ++ (v_X4_keepTextAs_0 ++ []))))
theorem te_X4_renew_0 : GoodIn lw_tbl e_X4_renew_0 := wGc z284 (wGc z283 (wGc z282 (wGc z281 (wGc z262 (wGc z280 (wG0))))))
theorem t_X4_renew_0 : GoodIn lw_tbl v_X4_renew_0 := wGc z285 (wGa te_X4_renew_0 (wGa zcX4 (wGa zcX9 (wGa t_X4_keepTextAs_0 (wG0)))))
set_option maxHeartbeats 4000000 in
set_option maxRecDepth 100000 in
theorem m_X4_renew_0 (l : Launch) (G : va_G) (K : Nat → ClassId) (h0 h1 h2 h3 : Nat) (p0 : Int32) (sz : Nat) (bp0 : 1 ≤ p0.toInt ∧ p0.toInt ≤ 8) : Met l yX4_renew v_X4_renew_0 ({ frames := 1, cells := 0, slots := 0, locals := 21 }) (va_Pc [.ref h0, .int p0] (wS G K sz [(h0, .inr (3, [.int 0, .int 0, .int 0, .int 0, .int 0, .int 0, .int 0, .int 0, .int 0, .int 0, .int 0, .int 0, .ref h1, .ref h2, .int 0, .null])), (h1, .inr (6, [.ref h3, .int 0]))])) (va_Qv (fun u : va_W => (u = [(h0, .inr (3, [.int 0, .int 0, .int p0, .int (-1), .int (-1), .int 0, .int 0, .int 0, .int 0, .int 0, .int 0, .int 0, .ref h1, .ref h2, .int 0, .null])), (h1, .inr (6, [.ref h3, .int 0]))])) (wB G (va_A [(h0, .inr (3, [.int 0, .int 0, .int 0, .int 0, .int 0, .int 0, .int 0, .int 0, .int 0, .int 0, .int 0, .int 0, .ref h1, .ref h2, .int 0, .null])), (h1, .inr (6, [.ref h3, .int 0]))] sz)) (va_A [(h0, .inr (3, [.int 0, .int 0, .int 0, .int 0, .int 0, .int 0, .int 0, .int 0, .int 0, .int 0, .int 0, .int 0, .ref h1, .ref h2, .int 0, .null])), (h1, .inr (6, [.ref h3, .int 0]))] sz)) 0 0 (va_A [(h0, .inr (3, [.int 0, .int 0, .int 0, .int 0, .int 0, .int 0, .int 0, .int 0, .int 0, .int 0, .int 0, .int 0, .ref h1, .ref h2, .int 0, .null])), (h1, .inr (6, [.ref h3, .int 0]))] sz) := by
  refine Met.ofW (cc := cX4_renew) (maxL := 2) (ret := none) (by decide) rfl ?_
  intro p e s m args below meth c s₁ B hml hv
  obtain ⟨rfl, hsz, hP, hK, hD0, hE⟩ := hv
  have hx := B.exec
  have hb := B.bytes
  have hr := B.returns
  have hts := atoms_spec (ws := v_X4_renew_0) B.pre
  have t_ := t_X4_renew_0
  have mw : ∀ w ∈ e_X4_renew_0, w ∈ v_X4_renew_0 := fun w h => List.mem_cons_of_mem _ (List.mem_append_left _ h)
  have hw := fun w (h : w ∈ e_X4_renew_0) => hts w (mw w h)
  have iX4 : ∀ w ∈ wsX40, w ∈ v_X4_renew_0 := fun w h => List.mem_cons_of_mem _ (List.mem_append_right _ (List.mem_append_left _ h))
  have iX9 : ∀ w ∈ wsX90, w ∈ v_X4_renew_0 := fun w h => List.mem_cons_of_mem _ (List.mem_append_right _ (List.mem_append_right _ (List.mem_append_left _ h)))
  have j_X4_keepTextAs_0 : ∀ w ∈ v_X4_keepTextAs_0, w ∈ v_X4_renew_0 := fun w h => List.mem_cons_of_mem _ (List.mem_append_right _ (List.mem_append_right _ (List.mem_append_right _ (List.mem_append_left _ h))))
  have hown : s.vm.findClass RX4 = some m.cls := findClass_of_methodNamed B.named
  have hlocks := B.notSynchronized
  subst hsz
  have hD := hD0.self (sz := s.heap.size)
  generalize hAe : va_A [(h0, .inr (3, [.int 0, .int 0, .int 0, .int 0, .int 0, .int 0, .int 0, .int 0, .int 0, .int 0, .int 0, .int 0, .ref h1, .ref h2, .int 0, .null])), (h1, .inr (6, [.ref h3, .int 0]))] s.heap.size = A at hD ⊢
  have hA : ∀ q : Nat, s.heap.size ≤ q → A q := fun q h => by rw [← hAe]; exact Or.inr h
  have hS : va_S A s.heap s.heap [] := va_S.rf
  have hP : va_P G vwCl [(h0, .inr (3, [.int 0, .int 0, .int 0, .int 0, .int 0, .int 0, .int 0, .int 0, .int 0, .int 0, .int 0, .int 0, .ref h1, .ref h2, .int 0, .null])), (h1, .inr (6, [.ref h3, .int 0]))] s.heap := hP
  have hl := lv_entry ([.ref h0, .int p0]) (n := 2) (Nat.le_of_ble_eq_true rfl)
  rw [lg_entry_eq]
  generalize (lg_sl ([.ref h0, .int p0]) ++ List.replicate (2 - (lg_sl ([.ref h0, .int p0])).length) Slot.unset).toArray = ls at hl ⊢
  have hl : lv_has ls 2 [(0, .ref h0), (1, .int p0)] := hl
  refine lv_aload_n hx hb dX4_renew_0 rfl (lv_at hl 0 rfl) ?_
  refine lv_iload_n hx hb dX4_renew_1 rfl (lv_at hl 1 rfl) ?_
  have hPc := hP.sub (ws' := [(h0, .inr (3, [.int 0, .int 0, .int 0, .int 0, .int 0, .int 0, .int 0, .int 0, .int 0, .int 0, .int 0, .int 0, .ref h1, .ref h2, .int 0, .null]))]) [0] rfl
  have hDc := hD.sub (ws' := [(h0, .inr (3, [.int 0, .int 0, .int 0, .int 0, .int 0, .int 0, .int 0, .int 0, .int 0, .int 0, .int 0, .int 0, .ref h1, .ref h2, .int 0, .null]))]) [0] (by decide) rfl
  refine wGov (wc := [(h0, .inr (3, [.int 0, .int 0, .int 0, .int 0, .int 0, .int 0, .int 0, .int 0, .int 0, .int 0, .int 0, .int 0, .ref h1, .ref h2, .int 0, .null]))]) (wr := [(h1, .inr (6, [.ref h3, .int 0]))]) (va_runV (As := [.int p0]) (rest := []) ⟨hx, hb, hml, hown, hts⟩ (m_X4_keepTextAs_0 l G K h0 h1 h2 p0 _ (by omega)) (cwV 1 hts (wGV t_ (mw (.methodLink RX4 22 yX4_keepTextAs) (List.mem_of_getElem? (i := 0) rfl)) (mw (.instanceMethod yX4_keepTextAs) (List.mem_of_getElem? (i := 1) rfl)) (mw (.selects RX4 yX4_keepTextAs yX4_keepTextAs) (List.mem_of_getElem? (i := 2) rfl)) (mw (.initialized RX4) (List.mem_of_getElem? (i := 3) rfl)) j_X4_keepTextAs_0) rfl rfl rfl (by decide +kernel) ⟨Nat.le_of_ble_eq_true rfl, Nat.le_of_ble_eq_true rfl⟩) (wPV hK hE hPc hDc 3 0 rfl rfl) rfl rfl hl.1 rfl (lv_room (Nat.le_of_ble_eq_true rfl)) dX4_renew_2 ⟨Nat.le_of_ble_eq_true rfl, Nat.le_of_ble_eq_true rfl⟩) hP hD hS hA [0] [1] rfl rfl rfl (by decide) (fun u H locs hw hP hD hS => ?_)
  subst hw
  have hP : va_P G vwCl [(h1, .inr (6, [.ref h3, .int 0])), (h0, .inr (3, [.int 0, .int 0, .int p0, .int (-1), .int (-1), .int 0, .int 0, .int 0, .int 0, .int 0, .int 0, .int 0, .ref h1, .ref h2, .int 0, .null]))] _ := hP
  have hD : va_D A [(h1, .inr (6, [.ref h3, .int 0])), (h0, .inr (3, [.int 0, .int 0, .int p0, .int (-1), .int (-1), .int 0, .int 0, .int 0, .int 0, .int 0, .int 0, .int 0, .ref h1, .ref h2, .int 0, .null]))] := hD
  refine lv_aload_n hx hb dX4_renew_5 rfl (lv_at hl 0 rfl) ?_
  refine va_get (D := G) (ci := 3) (v := .ref h1) (C := RX4) (T := TX4) (N := 16) hx hb hts iX4 hown hK hP 1 rfl rfl 12 (by decide) (hw (.fieldLink RX4 12 "MotionFloor$Motion" "text" "LMotionFloor$Text;") (List.mem_of_getElem? (i := 4) rfl)) (fun _ h9 => h9) rfl dX4_renew_6 ?_
  refine lv_iconst (v := 0) hx hb dX4_renew_9 (by decide) ?_
  refine va_put (D := G) (ci := 6) (v := .int 0) (ty := .int) (C := RX9) (T := TX9) (N := 2) hx hb hts iX9 tyX9 tyX9_ok nmX9 hown hK hP hD hS 0 rfl rfl 1 (by decide) (hw (.fieldLink RX4 26 "MotionFloor$Text" "size" "I") (List.mem_of_getElem? (i := 5) rfl)) (fun _ h9 => h9) rfl (by decide +kernel) rfl rfl (Nat.le_of_ble_eq_true rfl) dX4_renew_10 (fun H locs hP hD hS => ?_)
  have hP : va_P G vwCl [(h1, .inr (6, [.ref h3, .int 0])), (h0, .inr (3, [.int 0, .int 0, .int p0, .int (-1), .int (-1), .int 0, .int 0, .int 0, .int 0, .int 0, .int 0, .int 0, .ref h1, .ref h2, .int 0, .null]))] _ := hP
  have hD : va_D A [(h1, .inr (6, [.ref h3, .int 0])), (h0, .inr (3, [.int 0, .int 0, .int p0, .int (-1), .int (-1), .int 0, .int 0, .int 0, .int 0, .int 0, .int 0, .int 0, .ref h1, .ref h2, .int 0, .null]))] := hD
  have hP9 := hP.sub (ws' := [(h0, .inr (3, [.int 0, .int 0, .int p0, .int (-1), .int (-1), .int 0, .int 0, .int 0, .int 0, .int 0, .int 0, .int 0, .ref h1, .ref h2, .int 0, .null])), (h1, .inr (6, [.ref h3, .int 0]))]) [1, 0] rfl
  have hD9 := hD.sub (ws' := [(h0, .inr (3, [.int 0, .int 0, .int p0, .int (-1), .int (-1), .int 0, .int 0, .int 0, .int 0, .int 0, .int 0, .int 0, .ref h1, .ref h2, .int 0, .null])), (h1, .inr (6, [.ref h3, .int 0]))]) [1, 0] (by decide) rfl
  exact W.vret hx hb hr (fun t ht hW => ⟨⟨_, rfl, rfl, by rw [ht]; exact hP9, hD9⟩, hS.F ht⟩) hS.2.2 dX4_renew_13
def e_X0_newMotion_0 : List Cond := [.fieldLink RX0 130 "MotionFloor$Assembly" "spare" "LMotionFloor$Motion;", .classLink RX0 102 RX4, .instantiable RX4 16, .initialized RX4, .instanceMethod yX4_init, .methodLink RX0 138 yX4_renew, .instanceMethod yX4_renew, .selects RX4 yX4_renew yX4_renew]
def v_X0_newMotion_0 : List Cond := .code yX0_newMotion cX0_newMotion 3 (some (.object "MotionFloor$Motion")) :: (e_X0_newMotion_0 ++ (wsX00 ++ (wsX40 ++ (v_X4_init_0 ++ (v_X4_renew_0 ++ [])))))
theorem te_X0_newMotion_0 : GoodIn lw_tbl e_X0_newMotion_0 := wGc z292 (wGc z291 (wGc z290 (wGc z281 (wGc z289 (wGc z288 (wGc z287 (wGc z286 (wG0))))))))
theorem t_X0_newMotion_0 : GoodIn lw_tbl v_X0_newMotion_0 := wGc z293 (wGa te_X0_newMotion_0 (wGa zcX0 (wGa zcX4 (wGa t_X4_init_0 (wGa t_X4_renew_0 (wG0))))))
set_option maxHeartbeats 4000000 in
set_option maxRecDepth 100000 in
theorem m_X0_newMotion_0 (l : Launch) (G : va_G) (K : Nat → ClassId) (h0 h1 h2 h3 h4 h5 h6 h7 : Nat) (p0 : Int32) (sz : Nat) (bp0 : 1 ≤ p0.toInt ∧ p0.toInt ≤ 8) : Met l yX0_newMotion v_X0_newMotion_0 ({ frames := 3, cells := 4, slots := 618, locals := 52 }) (va_Pc [.ref h0, .int p0] (wS G K sz [(h0, .inr (0, [.ref h1, .ref h2, .ref h3, .ref h4, .ref h5, .ref h6, .ref h7, .int 0, .int 0, .int 0, .null]))])) (va_Qq (fun (r : Option Nat) (u : va_W) => (∃ n0 n1 n2 n3 : Nat, r = some n2 ∧ u = [(h0, .inr (0, [.ref h1, .ref h2, .ref h3, .ref h4, .ref h5, .ref h6, .ref h7, .int 0, .int 0, .int 0, .null])), (n0, .inl (K 0, 400, .inl (fun _ => 0))), (n1, .inl (K 2, 200, .inl (fun _ => 0))), (n2, .inr (3, [.int 0, .int 0, .int p0, .int (-1), .int (-1), .int 0, .int 0, .int 0, .int 0, .int 0, .int 0, .int 0, .ref n3, .ref n1, .int 0, .null])), (n3, .inr (6, [.ref n0, .int 0]))])) (wB G (va_A [(h0, .inr (0, [.ref h1, .ref h2, .ref h3, .ref h4, .ref h5, .ref h6, .ref h7, .int 0, .int 0, .int 0, .null]))] sz)) (va_A [(h0, .inr (0, [.ref h1, .ref h2, .ref h3, .ref h4, .ref h5, .ref h6, .ref h7, .int 0, .int 0, .int 0, .null]))] sz)) 4 618 (va_A [(h0, .inr (0, [.ref h1, .ref h2, .ref h3, .ref h4, .ref h5, .ref h6, .ref h7, .int 0, .int 0, .int 0, .null]))] sz) := by
  refine Met.ofW (cc := cX0_newMotion) (maxL := 3) (ret := (some (.object "MotionFloor$Motion"))) (by decide) rfl ?_
  intro p e s m args below meth c s₁ B hml hv
  obtain ⟨rfl, hsz, hP, hK, hD0, hE⟩ := hv
  have hx := B.exec
  have hb := B.bytes
  have hr := B.returns
  have hts := atoms_spec (ws := v_X0_newMotion_0) B.pre
  have t_ := t_X0_newMotion_0
  have mw : ∀ w ∈ e_X0_newMotion_0, w ∈ v_X0_newMotion_0 := fun w h => List.mem_cons_of_mem _ (List.mem_append_left _ h)
  have hw := fun w (h : w ∈ e_X0_newMotion_0) => hts w (mw w h)
  have iX0 : ∀ w ∈ wsX00, w ∈ v_X0_newMotion_0 := fun w h => List.mem_cons_of_mem _ (List.mem_append_right _ (List.mem_append_left _ h))
  have iX4 : ∀ w ∈ wsX40, w ∈ v_X0_newMotion_0 := fun w h => List.mem_cons_of_mem _ (List.mem_append_right _ (List.mem_append_right _ (List.mem_append_left _ h)))
  have j_X4_init_0 : ∀ w ∈ v_X4_init_0, w ∈ v_X0_newMotion_0 := fun w h => List.mem_cons_of_mem _ (List.mem_append_right _ (List.mem_append_right _ (List.mem_append_right _ (List.mem_append_left _ h))))
  have j_X4_renew_0 : ∀ w ∈ v_X4_renew_0, w ∈ v_X0_newMotion_0 := fun w h => List.mem_cons_of_mem _ (List.mem_append_right _ (List.mem_append_right _ (List.mem_append_right _ (List.mem_append_right _ (List.mem_append_left _ h)))))
  have hown : s.vm.findClass RX0 = some m.cls := findClass_of_methodNamed B.named
  have hlocks := B.notSynchronized
  subst hsz
  have hD := hD0.self (sz := s.heap.size)
  generalize hAe : va_A [(h0, .inr (0, [.ref h1, .ref h2, .ref h3, .ref h4, .ref h5, .ref h6, .ref h7, .int 0, .int 0, .int 0, .null]))] s.heap.size = A at hD ⊢
  have hA : ∀ q : Nat, s.heap.size ≤ q → A q := fun q h => by rw [← hAe]; exact Or.inr h
  have hS : va_S A s.heap s.heap [] := va_S.rf
  have hP : va_P G vwCl [(h0, .inr (0, [.ref h1, .ref h2, .ref h3, .ref h4, .ref h5, .ref h6, .ref h7, .int 0, .int 0, .int 0, .null]))] s.heap := hP
  have hl := lv_entry ([.ref h0, .int p0]) (n := 3) (Nat.le_of_ble_eq_true rfl)
  rw [lg_entry_eq]
  generalize (lg_sl ([.ref h0, .int p0]) ++ List.replicate (3 - (lg_sl ([.ref h0, .int p0])).length) Slot.unset).toArray = ls at hl ⊢
  have hl : lv_has ls 3 [(0, .ref h0), (1, .int p0)] := hl
  refine lv_aload_n hx hb dX0_newMotion_0 rfl (lv_at hl 0 rfl) ?_
  refine va_get (D := G) (ci := 0) (v := .null) (C := RX0) (T := TX0) (N := 11) hx hb hts iX0 hown hK hP 0 rfl rfl 10 (by decide) (hw (.fieldLink RX0 130 "MotionFloor$Assembly" "spare" "LMotionFloor$Motion;") (List.mem_of_getElem? (i := 0) rfl)) (fun _ h9 => h9) rfl dX0_newMotion_1 ?_
  refine lv_astore_nN (lv' := [(2, .null), (0, .ref h0), (1, .int p0)]) hx hb dX0_newMotion_4 rfl hl (by decide) rfl (fun ls hl => ?_)
  refine lv_aload_nN hx hb dX0_newMotion_5 rfl (lv_at hl 0 rfl) ?_
  refine lv_ifnonnullN hx hb dX0_newMotion_6 ?_
  refine va_new (ci := 3) (fs := [.int 0, .int 0, .int 0, .int 0, .int 0, .int 0, .int 0, .int 0, .int 0, .int 0, .int 0, .int 0, .null, .null, .int 0, .null]) (C := RX4) (T := TX4) (N := 16) hx hb hts iX4 tyX4 tyX4_ok hown (hw (.classLink RX0 102 RX4) (List.mem_of_getElem? (i := 1) rfl)) (hw (.instantiable RX4 16) (List.mem_of_getElem? (i := 2) rfl)) (hw (.initialized RX4) (List.mem_of_getElem? (i := 3) rfl)) hK hP hD hS hA rfl (fun j hj => by rcases (show j = 0 ∨ j = 1 ∨ j = 2 ∨ j = 3 ∨ j = 4 ∨ j = 5 ∨ j = 6 ∨ j = 7 ∨ j = 8 ∨ j = 9 ∨ j = 10 ∨ j = 11 ∨ j = 12 ∨ j = 13 ∨ j = 14 ∨ j = 15 by omega) with rfl | rfl | rfl | rfl | rfl | rfl | rfl | rfl | rfl | rfl | rfl | rfl | rfl | rfl | rfl | rfl <;> rfl) (Nat.le_of_ble_eq_true rfl) (Nat.le_of_ble_eq_true rfl) dX0_newMotion_9 (fun q1 H hP hD hS => ?_)
  have hP : va_P G vwCl [(h0, .inr (0, [.ref h1, .ref h2, .ref h3, .ref h4, .ref h5, .ref h6, .ref h7, .int 0, .int 0, .int 0, .null])), (q1, .inr (3, [.int 0, .int 0, .int 0, .int 0, .int 0, .int 0, .int 0, .int 0, .int 0, .int 0, .int 0, .int 0, .null, .null, .int 0, .null]))] _ := hP
  have hD : va_D A [(h0, .inr (0, [.ref h1, .ref h2, .ref h3, .ref h4, .ref h5, .ref h6, .ref h7, .int 0, .int 0, .int 0, .null])), (q1, .inr (3, [.int 0, .int 0, .int 0, .int 0, .int 0, .int 0, .int 0, .int 0, .int 0, .int 0, .int 0, .int 0, .null, .null, .int 0, .null]))] := hD
  refine lv_dup hx hb dX0_newMotion_12 rfl ?_
  have hPc := hP.sub (ws' := [(q1, .inr (3, [.int 0, .int 0, .int 0, .int 0, .int 0, .int 0, .int 0, .int 0, .int 0, .int 0, .int 0, .int 0, .null, .null, .int 0, .null]))]) [1] rfl
  have hDc := hD.sub (ws' := [(q1, .inr (3, [.int 0, .int 0, .int 0, .int 0, .int 0, .int 0, .int 0, .int 0, .int 0, .int 0, .int 0, .int 0, .null, .null, .int 0, .null]))]) [1] (by decide) rfl
  refine wGov (wc := [(q1, .inr (3, [.int 0, .int 0, .int 0, .int 0, .int 0, .int 0, .int 0, .int 0, .int 0, .int 0, .int 0, .int 0, .null, .null, .int 0, .null]))]) (wr := [(h0, .inr (0, [.ref h1, .ref h2, .ref h3, .ref h4, .ref h5, .ref h6, .ref h7, .int 0, .int 0, .int 0, .null]))]) (va_runIN (As := []) (rest := [.ref q1]) ⟨hx, hb, hml, hown, hts⟩ (m_X4_init_0 l G K q1 _) ⟨va_cnB (host := "MotionFloor") 0 hts (wGP t_ j_X4_init_0) rfl rfl rfl hE.2.2.2.2.2.2.1 (hw (.initialized RX4) (List.mem_of_getElem? (i := 3) rfl)) (by decide +kernel) ⟨Nat.le_of_ble_eq_true rfl, Nat.le_of_ble_eq_true rfl⟩, rfl, (hw (.instanceMethod yX4_init) (List.mem_of_getElem? (i := 4) rfl))⟩ (wPS hK hE hPc hDc) rfl rfl hl.1 rfl (lv_room (Nat.le_of_ble_eq_true rfl)) dX0_newMotion_13 ⟨Nat.le_of_ble_eq_true rfl, Nat.le_of_ble_eq_true rfl⟩) hP hD hS hA [1] [0] rfl rfl rfl (by decide) (fun u H locs hw hP hD hS => ?_)
  rcases hw with ⟨q2, q3, q4, rfl⟩
  have hP : va_P G vwCl [(h0, .inr (0, [.ref h1, .ref h2, .ref h3, .ref h4, .ref h5, .ref h6, .ref h7, .int 0, .int 0, .int 0, .null])), (q1, .inr (3, [.int 0, .int 0, .int 0, .int 0, .int 0, .int 0, .int 0, .int 0, .int 0, .int 0, .int 0, .int 0, .ref q2, .ref q4, .int 0, .null])), (q2, .inr (6, [.ref q3, .int 0])), (q3, .inl (K 0, 400, .inl (fun _ => 0))), (q4, .inl (K 2, 200, .inl (fun _ => 0)))] _ := hP
  have hD : va_D A [(h0, .inr (0, [.ref h1, .ref h2, .ref h3, .ref h4, .ref h5, .ref h6, .ref h7, .int 0, .int 0, .int 0, .null])), (q1, .inr (3, [.int 0, .int 0, .int 0, .int 0, .int 0, .int 0, .int 0, .int 0, .int 0, .int 0, .int 0, .int 0, .ref q2, .ref q4, .int 0, .null])), (q2, .inr (6, [.ref q3, .int 0])), (q3, .inl (K 0, 400, .inl (fun _ => 0))), (q4, .inl (K 2, 200, .inl (fun _ => 0)))] := hD
  refine lv_astore_n (lv' := [(2, .ref q1), (0, .ref h0), (1, .int p0)]) hx hb dX0_newMotion_16 rfl hl (by decide) rfl (fun ls hl => ?_)
  refine lv_goto (tgt := 33) hx hb dX0_newMotion_17 (by decide) ?_
  refine lv_aload_n hx hb dX0_newMotion_33 rfl (lv_at hl 0 rfl) ?_
  refine lv_iload_n hx hb dX0_newMotion_34 rfl (lv_at hl 2 rfl) ?_
  have hPc := hP.sub (ws' := [(q1, .inr (3, [.int 0, .int 0, .int 0, .int 0, .int 0, .int 0, .int 0, .int 0, .int 0, .int 0, .int 0, .int 0, .ref q2, .ref q4, .int 0, .null])), (q2, .inr (6, [.ref q3, .int 0]))]) [1, 2] rfl
  have hDc := hD.sub (ws' := [(q1, .inr (3, [.int 0, .int 0, .int 0, .int 0, .int 0, .int 0, .int 0, .int 0, .int 0, .int 0, .int 0, .int 0, .ref q2, .ref q4, .int 0, .null])), (q2, .inr (6, [.ref q3, .int 0]))]) [1, 2] (by decide) rfl
  refine wGov (wc := [(q1, .inr (3, [.int 0, .int 0, .int 0, .int 0, .int 0, .int 0, .int 0, .int 0, .int 0, .int 0, .int 0, .int 0, .ref q2, .ref q4, .int 0, .null])), (q2, .inr (6, [.ref q3, .int 0]))]) (wr := [(h0, .inr (0, [.ref h1, .ref h2, .ref h3, .ref h4, .ref h5, .ref h6, .ref h7, .int 0, .int 0, .int 0, .null])), (q3, .inl (K 0, 400, .inl (fun _ => 0))), (q4, .inl (K 2, 200, .inl (fun _ => 0)))]) (va_runV (As := [.int p0]) (rest := []) ⟨hx, hb, hml, hown, hts⟩ (m_X4_renew_0 l G K q1 q2 q4 q3 p0 _ (by omega)) (cwV 1 hts (wGV t_ (mw (.methodLink RX0 138 yX4_renew) (List.mem_of_getElem? (i := 5) rfl)) (mw (.instanceMethod yX4_renew) (List.mem_of_getElem? (i := 6) rfl)) (mw (.selects RX4 yX4_renew yX4_renew) (List.mem_of_getElem? (i := 7) rfl)) (mw (.initialized RX4) (List.mem_of_getElem? (i := 3) rfl)) j_X4_renew_0) rfl rfl rfl (by decide +kernel) ⟨Nat.le_of_ble_eq_true rfl, Nat.le_of_ble_eq_true rfl⟩) (wPV hK hE hPc hDc 3 0 rfl rfl) rfl rfl hl.1 rfl (lv_room (Nat.le_of_ble_eq_true rfl)) dX0_newMotion_35 ⟨Nat.le_of_ble_eq_true rfl, Nat.le_of_ble_eq_true rfl⟩) hP hD hS hA [1, 2] [0, 3, 4] rfl rfl rfl (by decide) (fun u H locs hw hP hD hS => ?_)
  subst hw
  have hP : va_P G vwCl [(h0, .inr (0, [.ref h1, .ref h2, .ref h3, .ref h4, .ref h5, .ref h6, .ref h7, .int 0, .int 0, .int 0, .null])), (q3, .inl (K 0, 400, .inl (fun _ => 0))), (q4, .inl (K 2, 200, .inl (fun _ => 0))), (q1, .inr (3, [.int 0, .int 0, .int p0, .int (-1), .int (-1), .int 0, .int 0, .int 0, .int 0, .int 0, .int 0, .int 0, .ref q2, .ref q4, .int 0, .null])), (q2, .inr (6, [.ref q3, .int 0]))] _ := hP
  have hD : va_D A [(h0, .inr (0, [.ref h1, .ref h2, .ref h3, .ref h4, .ref h5, .ref h6, .ref h7, .int 0, .int 0, .int 0, .null])), (q3, .inl (K 0, 400, .inl (fun _ => 0))), (q4, .inl (K 2, 200, .inl (fun _ => 0))), (q1, .inr (3, [.int 0, .int 0, .int p0, .int (-1), .int (-1), .int 0, .int 0, .int 0, .int 0, .int 0, .int 0, .int 0, .ref q2, .ref q4, .int 0, .null])), (q2, .inr (6, [.ref q3, .int 0]))] := hD
  refine lv_aload_n hx hb dX0_newMotion_38 rfl (lv_at hl 0 rfl) ?_
  have hP9 : va_P G vwCl [(h0, .inr (0, [.ref h1, .ref h2, .ref h3, .ref h4, .ref h5, .ref h6, .ref h7, .int 0, .int 0, .int 0, .null])), (q3, .inl (K 0, 400, .inl (fun _ => 0))), (q4, .inl (K 2, 200, .inl (fun _ => 0))), (q1, .inr (3, [.int 0, .int 0, .int p0, .int (-1), .int (-1), .int 0, .int 0, .int 0, .int 0, .int 0, .int 0, .int 0, .ref q2, .ref q4, .int 0, .null])), (q2, .inr (6, [.ref q3, .int 0]))] _ := hP
  have hD9 : va_D A [(h0, .inr (0, [.ref h1, .ref h2, .ref h3, .ref h4, .ref h5, .ref h6, .ref h7, .int 0, .int 0, .int 0, .null])), (q3, .inl (K 0, 400, .inl (fun _ => 0))), (q4, .inl (K 2, 200, .inl (fun _ => 0))), (q1, .inr (3, [.int 0, .int 0, .int p0, .int (-1), .int (-1), .int 0, .int 0, .int 0, .int 0, .int 0, .int 0, .int 0, .ref q2, .ref q4, .int 0, .null])), (q2, .inr (6, [.ref q3, .int 0]))] := hD
  refine W.widen (k := 4) (n := 618) (Nat.le_of_ble_eq_true rfl) (Nat.le_of_ble_eq_true rfl) ?_
  exact W.aret (v := .ref q1) hx hb hr (Or.inl ⟨_, rfl⟩) (Or.inr ⟨_, rfl⟩) (fun t ht hW => ⟨⟨some q1, _, rfl, ⟨q3, q4, q1, q2, rfl, rfl⟩, by rw [ht]; exact hP9, hD9⟩, hS.F ht⟩) hS.2.2 dX0_newMotion_39
def e_X5_put_0 : List Cond := [.fieldLink RX5 17 "MotionFloor$Pile" "size" "I", .fieldLink RX5 11 "MotionFloor$Pile" "motions" "[LMotionFloor$Motion;"]
def v_X5_put_0 : List Cond := .code yX5_put cX5_put 2 none :: (e_X5_put_0 ++ (wsX50 ++ []))
theorem te_X5_put_0 : GoodIn lw_tbl e_X5_put_0 := wGc z175 (wGc z18 (wG0))
theorem t_X5_put_0 : GoodIn lw_tbl v_X5_put_0 := wGc z294 (wGa te_X5_put_0 (wGa zcX5 (wG0)))
set_option maxHeartbeats 4000000 in
set_option maxRecDepth 100000 in
theorem m_X5_put_0 (l : Launch) (G : va_G) (K : Nat → ClassId) (h0 h1 h2 h3 h4 : Nat) (p0 : Int32) (sz : Nat) (bp0 : 1 ≤ p0.toInt ∧ p0.toInt ≤ 8) : Met l yX5_put v_X5_put_0 ({ frames := 0, cells := 0, slots := 0, locals := 0 }) (va_Pc [.ref h0, .ref h1] (wS G K sz [(h0, .inr (4, [.ref h2, .int 0])), (h1, .inr (3, [.int 0, .int 0, .int p0, .int (-1), .int (-1), .int 0, .int 0, .int 0, .int 0, .int 0, .int 0, .int 0, .ref h3, .ref h4, .int 0, .null])), (h2, .inl (K 3, 9, .inr (.inr (.inr (.inr (fun _ => none))))))])) (va_Qv (fun u : va_W => (u = [(h0, .inr (4, [.ref h2, .int 1])), (h1, .inr (3, [.int 0, .int 0, .int p0, .int (-1), .int (-1), .int 0, .int 0, .int 0, .int 0, .int 0, .int 0, .int 0, .ref h3, .ref h4, .int 0, .null])), (h2, .inl (K 3, 9, .inr (.inr (.inr (.inr (va_up (fun _ => none) 0 (some h1)))))))])) (wB G (va_A [(h0, .inr (4, [.ref h2, .int 0])), (h1, .inr (3, [.int 0, .int 0, .int p0, .int (-1), .int (-1), .int 0, .int 0, .int 0, .int 0, .int 0, .int 0, .int 0, .ref h3, .ref h4, .int 0, .null])), (h2, .inl (K 3, 9, .inr (.inr (.inr (.inr (fun _ => none))))))] sz)) (va_A [(h0, .inr (4, [.ref h2, .int 0])), (h1, .inr (3, [.int 0, .int 0, .int p0, .int (-1), .int (-1), .int 0, .int 0, .int 0, .int 0, .int 0, .int 0, .int 0, .ref h3, .ref h4, .int 0, .null])), (h2, .inl (K 3, 9, .inr (.inr (.inr (.inr (fun _ => none))))))] sz)) 0 0 (va_A [(h0, .inr (4, [.ref h2, .int 0])), (h1, .inr (3, [.int 0, .int 0, .int p0, .int (-1), .int (-1), .int 0, .int 0, .int 0, .int 0, .int 0, .int 0, .int 0, .ref h3, .ref h4, .int 0, .null])), (h2, .inl (K 3, 9, .inr (.inr (.inr (.inr (fun _ => none))))))] sz) := by
  refine Met.ofW (cc := cX5_put) (maxL := 2) (ret := none) (by decide) rfl ?_
  intro p e s m args below meth c s₁ B hml hv
  obtain ⟨rfl, hsz, hP, hK, hD0, hE⟩ := hv
  have hx := B.exec
  have hb := B.bytes
  have hr := B.returns
  have hts := atoms_spec (ws := v_X5_put_0) B.pre
  have t_ := t_X5_put_0
  have mw : ∀ w ∈ e_X5_put_0, w ∈ v_X5_put_0 := fun w h => List.mem_cons_of_mem _ (List.mem_append_left _ h)
  have hw := fun w (h : w ∈ e_X5_put_0) => hts w (mw w h)
  have iX5 : ∀ w ∈ wsX50, w ∈ v_X5_put_0 := fun w h => List.mem_cons_of_mem _ (List.mem_append_right _ (List.mem_append_left _ h))
  have hown : s.vm.findClass RX5 = some m.cls := findClass_of_methodNamed B.named
  have hlocks := B.notSynchronized
  subst hsz
  have hD := hD0.self (sz := s.heap.size)
  generalize hAe : va_A [(h0, .inr (4, [.ref h2, .int 0])), (h1, .inr (3, [.int 0, .int 0, .int p0, .int (-1), .int (-1), .int 0, .int 0, .int 0, .int 0, .int 0, .int 0, .int 0, .ref h3, .ref h4, .int 0, .null])), (h2, .inl (K 3, 9, .inr (.inr (.inr (.inr (fun _ => none))))))] s.heap.size = A at hD ⊢
  have hA : ∀ q : Nat, s.heap.size ≤ q → A q := fun q h => by rw [← hAe]; exact Or.inr h
  have hS : va_S A s.heap s.heap [] := va_S.rf
  have hP : va_P G vwCl [(h0, .inr (4, [.ref h2, .int 0])), (h1, .inr (3, [.int 0, .int 0, .int p0, .int (-1), .int (-1), .int 0, .int 0, .int 0, .int 0, .int 0, .int 0, .int 0, .ref h3, .ref h4, .int 0, .null])), (h2, .inl (K 3, 9, .inr (.inr (.inr (.inr (fun _ => none))))))] s.heap := hP
  have hl := lv_entry ([.ref h0, .ref h1]) (n := 2) (Nat.le_of_ble_eq_true rfl)
  rw [lg_entry_eq]
  generalize (lg_sl ([.ref h0, .ref h1]) ++ List.replicate (2 - (lg_sl ([.ref h0, .ref h1])).length) Slot.unset).toArray = ls at hl ⊢
  have hl : lv_has ls 2 [(0, .ref h0), (1, .ref h1)] := hl
  refine lv_aload_n hx hb dX5_put_0 rfl (lv_at hl 1 rfl) ?_
  refine lv_ifnull hx hb dX5_put_1 ?_
  refine lv_aload_n hx hb dX5_put_4 rfl (lv_at hl 0 rfl) ?_
  refine va_get (D := G) (ci := 4) (v := .int 0) (C := RX5) (T := TX5) (N := 2) hx hb hts iX5 hown hK hP 0 rfl rfl 1 (by decide) (hw (.fieldLink RX5 17 "MotionFloor$Pile" "size" "I") (List.mem_of_getElem? (i := 0) rfl)) (fun _ h9 => h9) rfl dX5_put_5 ?_
  refine lv_aload_n hx hb dX5_put_8 rfl (lv_at hl 0 rfl) ?_
  refine va_get (D := G) (ci := 4) (v := .ref h2) (C := RX5) (T := TX5) (N := 2) hx hb hts iX5 hown hK hP 0 rfl rfl 0 (by decide) (hw (.fieldLink RX5 11 "MotionFloor$Pile" "motions" "[LMotionFloor$Motion;") (List.mem_of_getElem? (i := 1) rfl)) (fun _ h9 => h9) rfl dX5_put_9 ?_
  refine va_alen (v := 9) hx hb hK hP 2 3 rfl rfl (by decide) dX5_put_12 ?_
  refine lv_icmp_ge (tgt := 36) hx hb dX5_put_13 (by decide) (fun c_ => absurd c_ (by decide)) (fun _ => ?_)
  refine lv_aload_n hx hb dX5_put_16 rfl (lv_at hl 0 rfl) ?_
  refine va_get (D := G) (ci := 4) (v := .ref h2) (C := RX5) (T := TX5) (N := 2) hx hb hts iX5 hown hK hP 0 rfl rfl 0 (by decide) (hw (.fieldLink RX5 11 "MotionFloor$Pile" "motions" "[LMotionFloor$Motion;") (List.mem_of_getElem? (i := 1) rfl)) (fun _ h9 => h9) rfl dX5_put_17 ?_
  refine lv_aload_n hx hb dX5_put_20 rfl (lv_at hl 0 rfl) ?_
  refine va_get (D := G) (ci := 4) (v := .int 0) (C := RX5) (T := TX5) (N := 2) hx hb hts iX5 hown hK hP 0 rfl rfl 1 (by decide) (hw (.fieldLink RX5 17 "MotionFloor$Pile" "size" "I") (List.mem_of_getElem? (i := 0) rfl)) (fun _ h9 => h9) rfl dX5_put_21 ?_
  refine lv_aload_n hx hb dX5_put_24 rfl (lv_at hl 1 rfl) ?_
  refine va_astq hx hb hK hP hD hS 2 3 1 3 rfl rfl rfl rfl (vp_in_iff.mpr (by decide)) dX5_put_25 (fun H locs hP hD hS => ?_)
  have hP : va_P G vwCl [(h0, .inr (4, [.ref h2, .int 0])), (h1, .inr (3, [.int 0, .int 0, .int p0, .int (-1), .int (-1), .int 0, .int 0, .int 0, .int 0, .int 0, .int 0, .int 0, .ref h3, .ref h4, .int 0, .null])), (h2, .inl (K 3, 9, .inr (.inr (.inr (.inr (va_up (fun _ => none) 0 (some h1)))))))] _ := hP
  have hD : va_D A [(h0, .inr (4, [.ref h2, .int 0])), (h1, .inr (3, [.int 0, .int 0, .int p0, .int (-1), .int (-1), .int 0, .int 0, .int 0, .int 0, .int 0, .int 0, .int 0, .ref h3, .ref h4, .int 0, .null])), (h2, .inl (K 3, 9, .inr (.inr (.inr (.inr (va_up (fun _ => none) 0 (some h1)))))))] := hD
  refine lv_aload_n hx hb dX5_put_26 rfl (lv_at hl 0 rfl) ?_
  refine lv_dup hx hb dX5_put_27 rfl ?_
  refine va_get (D := G) (ci := 4) (v := .int 0) (C := RX5) (T := TX5) (N := 2) hx hb hts iX5 hown hK hP 0 rfl rfl 1 (by decide) (hw (.fieldLink RX5 17 "MotionFloor$Pile" "size" "I") (List.mem_of_getElem? (i := 0) rfl)) (fun _ h9 => h9) rfl dX5_put_28 ?_
  refine lv_iconst (v := 1) hx hb dX5_put_31 (by decide) ?_
  refine lv_iadd hx hb dX5_put_32 ?_
  refine wTop (v1 := .int 1) (congrArg Value.int (by decide)) ?_
  refine va_put (D := G) (ci := 4) (v := .int 1) (ty := .int) (C := RX5) (T := TX5) (N := 2) hx hb hts iX5 tyX5 tyX5_ok nmX5 hown hK hP hD hS 0 rfl rfl 1 (by decide) (hw (.fieldLink RX5 17 "MotionFloor$Pile" "size" "I") (List.mem_of_getElem? (i := 0) rfl)) (fun _ h9 => h9) rfl (by decide +kernel) rfl rfl (Nat.le_of_ble_eq_true rfl) dX5_put_33 (fun H locs hP hD hS => ?_)
  have hP : va_P G vwCl [(h0, .inr (4, [.ref h2, .int 1])), (h1, .inr (3, [.int 0, .int 0, .int p0, .int (-1), .int (-1), .int 0, .int 0, .int 0, .int 0, .int 0, .int 0, .int 0, .ref h3, .ref h4, .int 0, .null])), (h2, .inl (K 3, 9, .inr (.inr (.inr (.inr (va_up (fun _ => none) 0 (some h1)))))))] _ := hP
  have hD : va_D A [(h0, .inr (4, [.ref h2, .int 1])), (h1, .inr (3, [.int 0, .int 0, .int p0, .int (-1), .int (-1), .int 0, .int 0, .int 0, .int 0, .int 0, .int 0, .int 0, .ref h3, .ref h4, .int 0, .null])), (h2, .inl (K 3, 9, .inr (.inr (.inr (.inr (va_up (fun _ => none) 0 (some h1)))))))] := hD
  have hP9 : va_P G vwCl [(h0, .inr (4, [.ref h2, .int 1])), (h1, .inr (3, [.int 0, .int 0, .int p0, .int (-1), .int (-1), .int 0, .int 0, .int 0, .int 0, .int 0, .int 0, .int 0, .ref h3, .ref h4, .int 0, .null])), (h2, .inl (K 3, 9, .inr (.inr (.inr (.inr (va_up (fun _ => none) 0 (some h1)))))))] _ := hP
  have hD9 : va_D A [(h0, .inr (4, [.ref h2, .int 1])), (h1, .inr (3, [.int 0, .int 0, .int p0, .int (-1), .int (-1), .int 0, .int 0, .int 0, .int 0, .int 0, .int 0, .int 0, .ref h3, .ref h4, .int 0, .null])), (h2, .inl (K 3, 9, .inr (.inr (.inr (.inr (va_up (fun _ => none) 0 (some h1)))))))] := hD
  exact W.vret hx hb hr (fun t ht hW => ⟨⟨_, rfl, rfl, by rw [ht]; exact hP9, hD9⟩, hS.F ht⟩) hS.2.2 dX5_put_36
def e_X6_hold_0 : List Cond := [.fieldLink RX6 9 "MotionFloor$Place" "sort" "I", .fieldLink RX6 18 "MotionFloor$Place" "pile" "LMotionFloor$Pile;", .methodLink RX6 41 yX5_put, .instanceMethod yX5_put, .selects RX5 yX5_put yX5_put, .initialized RX5]
def v_X6_hold_0 : List Cond := .code yX6_hold cX6_hold 3 none :: (e_X6_hold_0 ++ (wsX60 ++ (v_X5_put_0 ++ [])))
theorem te_X6_hold_0 : GoodIn lw_tbl e_X6_hold_0 := wGc z29 (wGc z24 (wGc z297 (wGc z296 (wGc z295 (wGc z26 (wG0))))))
theorem t_X6_hold_0 : GoodIn lw_tbl v_X6_hold_0 := wGc z298 (wGa te_X6_hold_0 (wGa zcX6 (wGa t_X5_put_0 (wG0))))
set_option maxHeartbeats 4000000 in
set_option maxRecDepth 100000 in
theorem m_X6_hold_0 (l : Launch) (G : va_G) (K : Nat → ClassId) (h0 h1 h2 h3 h4 h5 : Nat) (p0 : Int32) (sz : Nat) (bp0 : 1 ≤ p0.toInt ∧ p0.toInt ≤ 8) : Met l yX6_hold v_X6_hold_0 ({ frames := 1, cells := 0, slots := 0, locals := 21 }) (va_Pc [.ref h0, .int 2, .ref h1] (wS G K sz [(h0, .inr (5, [.int 0, .ref h2])), (h1, .inr (3, [.int 0, .int 0, .int p0, .int (-1), .int (-1), .int 0, .int 0, .int 0, .int 0, .int 0, .int 0, .int 0, .ref h4, .ref h5, .int 0, .null])), (h2, .inr (4, [.ref h3, .int 0])), (h3, .inl (K 3, 9, .inr (.inr (.inr (.inr (fun _ => none))))))])) (va_Qv (fun u : va_W => (u = [(h0, .inr (5, [.int 2, .ref h2])), (h1, .inr (3, [.int 0, .int 0, .int p0, .int (-1), .int (-1), .int 0, .int 0, .int 0, .int 0, .int 0, .int 0, .int 0, .ref h4, .ref h5, .int 0, .null])), (h2, .inr (4, [.ref h3, .int 1])), (h3, .inl (K 3, 9, .inr (.inr (.inr (.inr (va_up (fun _ => none) 0 (some h1)))))))])) (wB G (va_A [(h0, .inr (5, [.int 0, .ref h2])), (h1, .inr (3, [.int 0, .int 0, .int p0, .int (-1), .int (-1), .int 0, .int 0, .int 0, .int 0, .int 0, .int 0, .int 0, .ref h4, .ref h5, .int 0, .null])), (h2, .inr (4, [.ref h3, .int 0])), (h3, .inl (K 3, 9, .inr (.inr (.inr (.inr (fun _ => none))))))] sz)) (va_A [(h0, .inr (5, [.int 0, .ref h2])), (h1, .inr (3, [.int 0, .int 0, .int p0, .int (-1), .int (-1), .int 0, .int 0, .int 0, .int 0, .int 0, .int 0, .int 0, .ref h4, .ref h5, .int 0, .null])), (h2, .inr (4, [.ref h3, .int 0])), (h3, .inl (K 3, 9, .inr (.inr (.inr (.inr (fun _ => none))))))] sz)) 0 0 (va_A [(h0, .inr (5, [.int 0, .ref h2])), (h1, .inr (3, [.int 0, .int 0, .int p0, .int (-1), .int (-1), .int 0, .int 0, .int 0, .int 0, .int 0, .int 0, .int 0, .ref h4, .ref h5, .int 0, .null])), (h2, .inr (4, [.ref h3, .int 0])), (h3, .inl (K 3, 9, .inr (.inr (.inr (.inr (fun _ => none))))))] sz) := by
  refine Met.ofW (cc := cX6_hold) (maxL := 3) (ret := none) (by decide) rfl ?_
  intro p e s m args below meth c s₁ B hml hv
  obtain ⟨rfl, hsz, hP, hK, hD0, hE⟩ := hv
  have hx := B.exec
  have hb := B.bytes
  have hr := B.returns
  have hts := atoms_spec (ws := v_X6_hold_0) B.pre
  have t_ := t_X6_hold_0
  have mw : ∀ w ∈ e_X6_hold_0, w ∈ v_X6_hold_0 := fun w h => List.mem_cons_of_mem _ (List.mem_append_left _ h)
  have hw := fun w (h : w ∈ e_X6_hold_0) => hts w (mw w h)
  have iX6 : ∀ w ∈ wsX60, w ∈ v_X6_hold_0 := fun w h => List.mem_cons_of_mem _ (List.mem_append_right _ (List.mem_append_left _ h))
  have j_X5_put_0 : ∀ w ∈ v_X5_put_0, w ∈ v_X6_hold_0 := fun w h => List.mem_cons_of_mem _ (List.mem_append_right _ (List.mem_append_right _ (List.mem_append_left _ h)))
  have hown : s.vm.findClass RX6 = some m.cls := findClass_of_methodNamed B.named
  have hlocks := B.notSynchronized
  subst hsz
  have hD := hD0.self (sz := s.heap.size)
  generalize hAe : va_A [(h0, .inr (5, [.int 0, .ref h2])), (h1, .inr (3, [.int 0, .int 0, .int p0, .int (-1), .int (-1), .int 0, .int 0, .int 0, .int 0, .int 0, .int 0, .int 0, .ref h4, .ref h5, .int 0, .null])), (h2, .inr (4, [.ref h3, .int 0])), (h3, .inl (K 3, 9, .inr (.inr (.inr (.inr (fun _ => none))))))] s.heap.size = A at hD ⊢
  have hA : ∀ q : Nat, s.heap.size ≤ q → A q := fun q h => by rw [← hAe]; exact Or.inr h
  have hS : va_S A s.heap s.heap [] := va_S.rf
  have hP : va_P G vwCl [(h0, .inr (5, [.int 0, .ref h2])), (h1, .inr (3, [.int 0, .int 0, .int p0, .int (-1), .int (-1), .int 0, .int 0, .int 0, .int 0, .int 0, .int 0, .int 0, .ref h4, .ref h5, .int 0, .null])), (h2, .inr (4, [.ref h3, .int 0])), (h3, .inl (K 3, 9, .inr (.inr (.inr (.inr (fun _ => none))))))] s.heap := hP
  have hl := lv_entry ([.ref h0, .int 2, .ref h1]) (n := 3) (Nat.le_of_ble_eq_true rfl)
  rw [lg_entry_eq]
  generalize (lg_sl ([.ref h0, .int 2, .ref h1]) ++ List.replicate (3 - (lg_sl ([.ref h0, .int 2, .ref h1])).length) Slot.unset).toArray = ls at hl ⊢
  have hl : lv_has ls 3 [(0, .ref h0), (1, .int 2), (2, .ref h1)] := hl
  refine lv_aload_n hx hb dX6_hold_0 rfl (lv_at hl 0 rfl) ?_
  refine lv_iload_n hx hb dX6_hold_1 rfl (lv_at hl 1 rfl) ?_
  refine va_put (D := G) (ci := 5) (v := .int 2) (ty := .int) (C := RX6) (T := TX6) (N := 2) hx hb hts iX6 tyX6 tyX6_ok nmX6 hown hK hP hD hS 0 rfl rfl 0 (by decide) (hw (.fieldLink RX6 9 "MotionFloor$Place" "sort" "I") (List.mem_of_getElem? (i := 0) rfl)) (fun _ h9 => h9) rfl (by decide +kernel) rfl rfl (Nat.le_of_ble_eq_true rfl) dX6_hold_2 (fun H locs hP hD hS => ?_)
  have hP : va_P G vwCl [(h0, .inr (5, [.int 2, .ref h2])), (h1, .inr (3, [.int 0, .int 0, .int p0, .int (-1), .int (-1), .int 0, .int 0, .int 0, .int 0, .int 0, .int 0, .int 0, .ref h4, .ref h5, .int 0, .null])), (h2, .inr (4, [.ref h3, .int 0])), (h3, .inl (K 3, 9, .inr (.inr (.inr (.inr (fun _ => none))))))] _ := hP
  have hD : va_D A [(h0, .inr (5, [.int 2, .ref h2])), (h1, .inr (3, [.int 0, .int 0, .int p0, .int (-1), .int (-1), .int 0, .int 0, .int 0, .int 0, .int 0, .int 0, .int 0, .ref h4, .ref h5, .int 0, .null])), (h2, .inr (4, [.ref h3, .int 0])), (h3, .inl (K 3, 9, .inr (.inr (.inr (.inr (fun _ => none))))))] := hD
  refine lv_aload_n hx hb dX6_hold_5 rfl (lv_at hl 0 rfl) ?_
  refine va_get (D := G) (ci := 5) (v := .ref h2) (C := RX6) (T := TX6) (N := 2) hx hb hts iX6 hown hK hP 0 rfl rfl 1 (by decide) (hw (.fieldLink RX6 18 "MotionFloor$Place" "pile" "LMotionFloor$Pile;") (List.mem_of_getElem? (i := 1) rfl)) (fun _ h9 => h9) rfl dX6_hold_6 ?_
  refine lv_aload_n hx hb dX6_hold_9 rfl (lv_at hl 2 rfl) ?_
  have hPc := hP.sub (ws' := [(h2, .inr (4, [.ref h3, .int 0])), (h1, .inr (3, [.int 0, .int 0, .int p0, .int (-1), .int (-1), .int 0, .int 0, .int 0, .int 0, .int 0, .int 0, .int 0, .ref h4, .ref h5, .int 0, .null])), (h3, .inl (K 3, 9, .inr (.inr (.inr (.inr (fun _ => none))))))]) [2, 1, 3] rfl
  have hDc := hD.sub (ws' := [(h2, .inr (4, [.ref h3, .int 0])), (h1, .inr (3, [.int 0, .int 0, .int p0, .int (-1), .int (-1), .int 0, .int 0, .int 0, .int 0, .int 0, .int 0, .int 0, .ref h4, .ref h5, .int 0, .null])), (h3, .inl (K 3, 9, .inr (.inr (.inr (.inr (fun _ => none))))))]) [2, 1, 3] (by decide) rfl
  refine wGov (wc := [(h2, .inr (4, [.ref h3, .int 0])), (h1, .inr (3, [.int 0, .int 0, .int p0, .int (-1), .int (-1), .int 0, .int 0, .int 0, .int 0, .int 0, .int 0, .int 0, .ref h4, .ref h5, .int 0, .null])), (h3, .inl (K 3, 9, .inr (.inr (.inr (.inr (fun _ => none))))))]) (wr := [(h0, .inr (5, [.int 2, .ref h2]))]) (va_runV (As := [.ref h1]) (rest := []) ⟨hx, hb, hml, hown, hts⟩ (m_X5_put_0 l G K h2 h1 h3 h4 h5 p0 _ (by omega)) (cwV 1 hts (wGV t_ (mw (.methodLink RX6 41 yX5_put) (List.mem_of_getElem? (i := 2) rfl)) (mw (.instanceMethod yX5_put) (List.mem_of_getElem? (i := 3) rfl)) (mw (.selects RX5 yX5_put yX5_put) (List.mem_of_getElem? (i := 4) rfl)) (mw (.initialized RX5) (List.mem_of_getElem? (i := 5) rfl)) j_X5_put_0) rfl rfl rfl (by decide +kernel) ⟨Nat.le_of_ble_eq_true rfl, Nat.le_of_ble_eq_true rfl⟩) (wPV hK hE hPc hDc 4 0 rfl rfl) rfl rfl hl.1 rfl (lv_room (Nat.le_of_ble_eq_true rfl)) dX6_hold_10 ⟨Nat.le_of_ble_eq_true rfl, Nat.le_of_ble_eq_true rfl⟩) hP hD hS hA [2, 1, 3] [0] rfl rfl rfl (by decide) (fun u H locs hw hP hD hS => ?_)
  subst hw
  have hP : va_P G vwCl [(h0, .inr (5, [.int 2, .ref h2])), (h2, .inr (4, [.ref h3, .int 1])), (h1, .inr (3, [.int 0, .int 0, .int p0, .int (-1), .int (-1), .int 0, .int 0, .int 0, .int 0, .int 0, .int 0, .int 0, .ref h4, .ref h5, .int 0, .null])), (h3, .inl (K 3, 9, .inr (.inr (.inr (.inr (va_up (fun _ => none) 0 (some h1)))))))] _ := hP
  have hD : va_D A [(h0, .inr (5, [.int 2, .ref h2])), (h2, .inr (4, [.ref h3, .int 1])), (h1, .inr (3, [.int 0, .int 0, .int p0, .int (-1), .int (-1), .int 0, .int 0, .int 0, .int 0, .int 0, .int 0, .int 0, .ref h4, .ref h5, .int 0, .null])), (h3, .inl (K 3, 9, .inr (.inr (.inr (.inr (va_up (fun _ => none) 0 (some h1)))))))] := hD
  have hP9 := hP.sub (ws' := [(h0, .inr (5, [.int 2, .ref h2])), (h1, .inr (3, [.int 0, .int 0, .int p0, .int (-1), .int (-1), .int 0, .int 0, .int 0, .int 0, .int 0, .int 0, .int 0, .ref h4, .ref h5, .int 0, .null])), (h2, .inr (4, [.ref h3, .int 1])), (h3, .inl (K 3, 9, .inr (.inr (.inr (.inr (va_up (fun _ => none) 0 (some h1)))))))]) [0, 2, 1, 3] rfl
  have hD9 := hD.sub (ws' := [(h0, .inr (5, [.int 2, .ref h2])), (h1, .inr (3, [.int 0, .int 0, .int p0, .int (-1), .int (-1), .int 0, .int 0, .int 0, .int 0, .int 0, .int 0, .int 0, .ref h4, .ref h5, .int 0, .null])), (h2, .inr (4, [.ref h3, .int 1])), (h3, .inl (K 3, 9, .inr (.inr (.inr (.inr (va_up (fun _ => none) 0 (some h1)))))))]) [0, 2, 1, 3] (by decide) rfl
  exact W.vret hx hb hr (fun t ht hW => ⟨⟨_, rfl, rfl, by rw [ht]; exact hP9, hD9⟩, hS.F ht⟩) hS.2.2 dX6_hold_13
def e_X1_begin_0 : List Cond := [.fieldLink RX1 121 "MotionFloor$Assembly" "draft" "LMotionFloor$Place;", .methodLink RX1 125 yX0_discard, .instanceMethod yX0_discard, .selects RX0 yX0_discard yX0_discard, .initialized RX0, .methodLink RX1 129 yX0_newMotion, .instanceMethod yX0_newMotion, .selects RX0 yX0_newMotion yX0_newMotion, .methodLink RX1 133 yX6_hold, .instanceMethod yX6_hold, .selects RX6 yX6_hold yX6_hold, .initialized RX6]
def v_X1_begin_0 : List Cond := .code yX1_begin cX1_begin 2 (some .int) :: (e_X1_begin_0 ++ (wsX00 ++ (v_X0_discard_0 ++ (v_X0_newMotion_0 ++ (v_X6_hold_0 ++ [])))))
theorem te_X1_begin_0 : GoodIn lw_tbl e_X1_begin_0 := wGc z306 (wGc z305 (wGc z132 (wGc z131 (wGc z118 (wGc z304 (wGc z303 (wGc z302 (wGc z301 (wGc z300 (wGc z299 (wGc z95 (wG0))))))))))))
theorem t_X1_begin_0 : GoodIn lw_tbl v_X1_begin_0 := wGc z307 (wGa te_X1_begin_0 (wGa zcX0 (wGa t_X0_discard_0 (wGa t_X0_newMotion_0 (wGa t_X6_hold_0 (wG0))))))
set_option maxHeartbeats 4000000 in
set_option maxRecDepth 100000 in
theorem m_X1_begin_0 (l : Launch) (G : va_G) (K : Nat → ClassId) (h0 h1 h2 h3 h4 h5 h6 h7 h8 h9 : Nat) (p0 : Int32) (sz : Nat) (bp0 : 1 ≤ p0.toInt ∧ p0.toInt ≤ 8) : Met l yX1_begin v_X1_begin_0 ({ frames := 4, cells := 4, slots := 618, locals := 74 }) (va_Pc [.ref h0, .int p0] (wS G K sz [(h0, .inr (0, [.ref h4, .ref h5, .ref h1, .ref h6, .ref h7, .ref h8, .ref h9, .int 0, .int 0, .int 0, .null])), (h1, .inr (5, [.int 0, .ref h2])), (h2, .inr (4, [.ref h3, .int 0])), (h3, .inl (K 3, 9, .inr (.inr (.inr (.inr (fun _ => none))))))])) (va_Qi (fun (r : Int32) (u : va_W) => (∃ n0 n1 n2 n3 : Nat, r = p0 ∧ u = [(h0, .inr (0, [.ref h4, .ref h5, .ref h1, .ref h6, .ref h7, .ref h8, .ref h9, .int 0, .int 0, .int 0, .null])), (h1, .inr (5, [.int 2, .ref h2])), (h2, .inr (4, [.ref h3, .int 1])), (h3, .inl (K 3, 9, .inr (.inr (.inr (.inr (va_up (fun _ => none) 0 (some n3))))))), (n0, .inl (K 0, 400, .inl (fun _ => 0))), (n1, .inl (K 2, 200, .inl (fun _ => 0))), (n2, .inr (6, [.ref n0, .int 0])), (n3, .inr (3, [.int 0, .int 0, .int p0, .int (-1), .int (-1), .int 0, .int 0, .int 0, .int 0, .int 0, .int 0, .int 0, .ref n2, .ref n1, .int 0, .null]))])) (wB G (va_A [(h0, .inr (0, [.ref h4, .ref h5, .ref h1, .ref h6, .ref h7, .ref h8, .ref h9, .int 0, .int 0, .int 0, .null])), (h1, .inr (5, [.int 0, .ref h2])), (h2, .inr (4, [.ref h3, .int 0])), (h3, .inl (K 3, 9, .inr (.inr (.inr (.inr (fun _ => none))))))] sz)) (va_A [(h0, .inr (0, [.ref h4, .ref h5, .ref h1, .ref h6, .ref h7, .ref h8, .ref h9, .int 0, .int 0, .int 0, .null])), (h1, .inr (5, [.int 0, .ref h2])), (h2, .inr (4, [.ref h3, .int 0])), (h3, .inl (K 3, 9, .inr (.inr (.inr (.inr (fun _ => none))))))] sz)) 4 618 (va_A [(h0, .inr (0, [.ref h4, .ref h5, .ref h1, .ref h6, .ref h7, .ref h8, .ref h9, .int 0, .int 0, .int 0, .null])), (h1, .inr (5, [.int 0, .ref h2])), (h2, .inr (4, [.ref h3, .int 0])), (h3, .inl (K 3, 9, .inr (.inr (.inr (.inr (fun _ => none))))))] sz) := by
  refine Met.ofW (cc := cX1_begin) (maxL := 2) (ret := (some .int)) (by decide) rfl ?_
  intro p e s m args below meth c s₁ B hml hv
  obtain ⟨rfl, hsz, hP, hK, hD0, hE⟩ := hv
  have hx := B.exec
  have hb := B.bytes
  have hr := B.returns
  have hts := atoms_spec (ws := v_X1_begin_0) B.pre
  have t_ := t_X1_begin_0
  have mw : ∀ w ∈ e_X1_begin_0, w ∈ v_X1_begin_0 := fun w h => List.mem_cons_of_mem _ (List.mem_append_left _ h)
  have hw := fun w (h : w ∈ e_X1_begin_0) => hts w (mw w h)
  have iX0 : ∀ w ∈ wsX00, w ∈ v_X1_begin_0 := fun w h => List.mem_cons_of_mem _ (List.mem_append_right _ (List.mem_append_left _ h))
  have j_X0_discard_0 : ∀ w ∈ v_X0_discard_0, w ∈ v_X1_begin_0 := fun w h => List.mem_cons_of_mem _ (List.mem_append_right _ (List.mem_append_right _ (List.mem_append_left _ h)))
  have j_X0_newMotion_0 : ∀ w ∈ v_X0_newMotion_0, w ∈ v_X1_begin_0 := fun w h => List.mem_cons_of_mem _ (List.mem_append_right _ (List.mem_append_right _ (List.mem_append_right _ (List.mem_append_left _ h))))
  have j_X6_hold_0 : ∀ w ∈ v_X6_hold_0, w ∈ v_X1_begin_0 := fun w h => List.mem_cons_of_mem _ (List.mem_append_right _ (List.mem_append_right _ (List.mem_append_right _ (List.mem_append_right _ (List.mem_append_left _ h)))))
  have hown : s.vm.findClass RX1 = some m.cls := findClass_of_methodNamed B.named
  have hlocks := B.notSynchronized
  subst hsz
  have hD := hD0.self (sz := s.heap.size)
  generalize hAe : va_A [(h0, .inr (0, [.ref h4, .ref h5, .ref h1, .ref h6, .ref h7, .ref h8, .ref h9, .int 0, .int 0, .int 0, .null])), (h1, .inr (5, [.int 0, .ref h2])), (h2, .inr (4, [.ref h3, .int 0])), (h3, .inl (K 3, 9, .inr (.inr (.inr (.inr (fun _ => none))))))] s.heap.size = A at hD ⊢
  have hA : ∀ q : Nat, s.heap.size ≤ q → A q := fun q h => by rw [← hAe]; exact Or.inr h
  have hS : va_S A s.heap s.heap [] := va_S.rf
  have hP : va_P G vwCl [(h0, .inr (0, [.ref h4, .ref h5, .ref h1, .ref h6, .ref h7, .ref h8, .ref h9, .int 0, .int 0, .int 0, .null])), (h1, .inr (5, [.int 0, .ref h2])), (h2, .inr (4, [.ref h3, .int 0])), (h3, .inl (K 3, 9, .inr (.inr (.inr (.inr (fun _ => none))))))] s.heap := hP
  have hl := lv_entry ([.ref h0, .int p0]) (n := 2) (Nat.le_of_ble_eq_true rfl)
  rw [lg_entry_eq]
  generalize (lg_sl ([.ref h0, .int p0]) ++ List.replicate (2 - (lg_sl ([.ref h0, .int p0])).length) Slot.unset).toArray = ls at hl ⊢
  have hl : lv_has ls 2 [(0, .ref h0), (1, .int p0)] := hl
  refine lv_aload_n hx hb dX1_begin_0 rfl (lv_at hl 0 rfl) ?_
  refine lv_aload_n hx hb dX1_begin_1 rfl (lv_at hl 0 rfl) ?_
  refine va_get (D := G) (ci := 0) (v := .ref h1) (C := RX0) (T := TX0) (N := 11) hx hb hts iX0 hown hK hP 0 rfl rfl 2 (by decide) (hw (.fieldLink RX1 121 "MotionFloor$Assembly" "draft" "LMotionFloor$Place;") (List.mem_of_getElem? (i := 0) rfl)) (fun _ h9 => h9) rfl dX1_begin_2 ?_
  have hPc := hP.sub (ws' := [(h0, .inr (0, [.ref h4, .ref h5, .ref h1, .ref h6, .ref h7, .ref h8, .ref h9, .int 0, .int 0, .int 0, .null])), (h1, .inr (5, [.int 0, .ref h2])), (h2, .inr (4, [.ref h3, .int 0]))]) [0, 1, 2] rfl
  have hDc := hD.sub (ws' := [(h0, .inr (0, [.ref h4, .ref h5, .ref h1, .ref h6, .ref h7, .ref h8, .ref h9, .int 0, .int 0, .int 0, .null])), (h1, .inr (5, [.int 0, .ref h2])), (h2, .inr (4, [.ref h3, .int 0]))]) [0, 1, 2] (by decide) rfl
  refine wGov (wc := [(h0, .inr (0, [.ref h4, .ref h5, .ref h1, .ref h6, .ref h7, .ref h8, .ref h9, .int 0, .int 0, .int 0, .null])), (h1, .inr (5, [.int 0, .ref h2])), (h2, .inr (4, [.ref h3, .int 0]))]) (wr := [(h3, .inl (K 3, 9, .inr (.inr (.inr (.inr (fun _ => none))))))]) (va_runV (As := [.ref h1]) (rest := []) ⟨hx, hb, hml, hown, hts⟩ (m_X0_discard_0 l G K h0 h1 h2 h4 h5 h6 h7 h8 h9 h3 _) (cwV 1 hts (wGV t_ (mw (.methodLink RX1 125 yX0_discard) (List.mem_of_getElem? (i := 1) rfl)) (mw (.instanceMethod yX0_discard) (List.mem_of_getElem? (i := 2) rfl)) (mw (.selects RX0 yX0_discard yX0_discard) (List.mem_of_getElem? (i := 3) rfl)) (mw (.initialized RX0) (List.mem_of_getElem? (i := 4) rfl)) j_X0_discard_0) rfl rfl rfl (by decide +kernel) ⟨Nat.le_of_ble_eq_true rfl, Nat.le_of_ble_eq_true rfl⟩) (wPV hK hE hPc hDc 0 0 rfl rfl) rfl rfl hl.1 rfl (lv_room (Nat.le_of_ble_eq_true rfl)) dX1_begin_5 ⟨Nat.le_of_ble_eq_true rfl, Nat.le_of_ble_eq_true rfl⟩) hP hD hS hA [0, 1, 2] [3] rfl rfl rfl (by decide) (fun u H locs hw hP hD hS => ?_)
  subst hw
  have hP : va_P G vwCl [(h3, .inl (K 3, 9, .inr (.inr (.inr (.inr (fun _ => none)))))), (h0, .inr (0, [.ref h4, .ref h5, .ref h1, .ref h6, .ref h7, .ref h8, .ref h9, .int 0, .int 0, .int 0, .null])), (h1, .inr (5, [.int 0, .ref h2])), (h2, .inr (4, [.ref h3, .int 0]))] _ := hP
  have hD : va_D A [(h3, .inl (K 3, 9, .inr (.inr (.inr (.inr (fun _ => none)))))), (h0, .inr (0, [.ref h4, .ref h5, .ref h1, .ref h6, .ref h7, .ref h8, .ref h9, .int 0, .int 0, .int 0, .null])), (h1, .inr (5, [.int 0, .ref h2])), (h2, .inr (4, [.ref h3, .int 0]))] := hD
  refine lv_aload_n hx hb dX1_begin_8 rfl (lv_at hl 0 rfl) ?_
  refine va_get (D := G) (ci := 0) (v := .ref h1) (C := RX0) (T := TX0) (N := 11) hx hb hts iX0 hown hK hP 1 rfl rfl 2 (by decide) (hw (.fieldLink RX1 121 "MotionFloor$Assembly" "draft" "LMotionFloor$Place;") (List.mem_of_getElem? (i := 0) rfl)) (fun _ h9 => h9) rfl dX1_begin_9 ?_
  refine lv_iconst (v := 2) hx hb dX1_begin_12 (by decide) ?_
  refine lv_aload_n hx hb dX1_begin_13 rfl (lv_at hl 0 rfl) ?_
  refine lv_iload_n hx hb dX1_begin_14 rfl (lv_at hl 1 rfl) ?_
  have hPc := hP.sub (ws' := [(h0, .inr (0, [.ref h4, .ref h5, .ref h1, .ref h6, .ref h7, .ref h8, .ref h9, .int 0, .int 0, .int 0, .null]))]) [1] rfl
  have hDc := hD.sub (ws' := [(h0, .inr (0, [.ref h4, .ref h5, .ref h1, .ref h6, .ref h7, .ref h8, .ref h9, .int 0, .int 0, .int 0, .null]))]) [1] (by decide) rfl
  refine wGoq (wc := [(h0, .inr (0, [.ref h4, .ref h5, .ref h1, .ref h6, .ref h7, .ref h8, .ref h9, .int 0, .int 0, .int 0, .null]))]) (wr := [(h3, .inl (K 3, 9, .inr (.inr (.inr (.inr (fun _ => none)))))), (h1, .inr (5, [.int 0, .ref h2])), (h2, .inr (4, [.ref h3, .int 0]))]) (va_runV (As := [.int p0]) (rest := [.int 2, .ref h1]) ⟨hx, hb, hml, hown, hts⟩ (m_X0_newMotion_0 l G K h0 h4 h5 h1 h6 h7 h8 h9 p0 _ (by omega)) (cwV 1 hts (wGV t_ (mw (.methodLink RX1 129 yX0_newMotion) (List.mem_of_getElem? (i := 5) rfl)) (mw (.instanceMethod yX0_newMotion) (List.mem_of_getElem? (i := 6) rfl)) (mw (.selects RX0 yX0_newMotion yX0_newMotion) (List.mem_of_getElem? (i := 7) rfl)) (mw (.initialized RX0) (List.mem_of_getElem? (i := 4) rfl)) j_X0_newMotion_0) rfl rfl rfl (by decide +kernel) ⟨Nat.le_of_ble_eq_true rfl, Nat.le_of_ble_eq_true rfl⟩) (wPV hK hE hPc hDc 0 0 rfl rfl) rfl rfl hl.1 rfl (lv_room (Nat.le_of_ble_eq_true rfl)) dX1_begin_15 ⟨Nat.le_of_ble_eq_true rfl, Nat.le_of_ble_eq_true rfl⟩) hP hD hS hA [1] [0, 2, 3] rfl rfl rfl (by decide) (fun r u H locs hw hP hD hS => ?_)
  rcases hw with ⟨q1, q2, q3, q4, rfl, rfl⟩
  have hP : va_P G vwCl [(h3, .inl (K 3, 9, .inr (.inr (.inr (.inr (fun _ => none)))))), (h1, .inr (5, [.int 0, .ref h2])), (h2, .inr (4, [.ref h3, .int 0])), (h0, .inr (0, [.ref h4, .ref h5, .ref h1, .ref h6, .ref h7, .ref h8, .ref h9, .int 0, .int 0, .int 0, .null])), (q1, .inl (K 0, 400, .inl (fun _ => 0))), (q2, .inl (K 2, 200, .inl (fun _ => 0))), (q3, .inr (3, [.int 0, .int 0, .int p0, .int (-1), .int (-1), .int 0, .int 0, .int 0, .int 0, .int 0, .int 0, .int 0, .ref q4, .ref q2, .int 0, .null])), (q4, .inr (6, [.ref q1, .int 0]))] _ := hP
  have hD : va_D A [(h3, .inl (K 3, 9, .inr (.inr (.inr (.inr (fun _ => none)))))), (h1, .inr (5, [.int 0, .ref h2])), (h2, .inr (4, [.ref h3, .int 0])), (h0, .inr (0, [.ref h4, .ref h5, .ref h1, .ref h6, .ref h7, .ref h8, .ref h9, .int 0, .int 0, .int 0, .null])), (q1, .inl (K 0, 400, .inl (fun _ => 0))), (q2, .inl (K 2, 200, .inl (fun _ => 0))), (q3, .inr (3, [.int 0, .int 0, .int p0, .int (-1), .int (-1), .int 0, .int 0, .int 0, .int 0, .int 0, .int 0, .int 0, .ref q4, .ref q2, .int 0, .null])), (q4, .inr (6, [.ref q1, .int 0]))] := hD
  refine wTop (v1 := .ref q3) rfl ?_
  have hPc := hP.sub (ws' := [(h1, .inr (5, [.int 0, .ref h2])), (q3, .inr (3, [.int 0, .int 0, .int p0, .int (-1), .int (-1), .int 0, .int 0, .int 0, .int 0, .int 0, .int 0, .int 0, .ref q4, .ref q2, .int 0, .null])), (h2, .inr (4, [.ref h3, .int 0])), (h3, .inl (K 3, 9, .inr (.inr (.inr (.inr (fun _ => none))))))]) [1, 6, 2, 0] rfl
  have hDc := hD.sub (ws' := [(h1, .inr (5, [.int 0, .ref h2])), (q3, .inr (3, [.int 0, .int 0, .int p0, .int (-1), .int (-1), .int 0, .int 0, .int 0, .int 0, .int 0, .int 0, .int 0, .ref q4, .ref q2, .int 0, .null])), (h2, .inr (4, [.ref h3, .int 0])), (h3, .inl (K 3, 9, .inr (.inr (.inr (.inr (fun _ => none))))))]) [1, 6, 2, 0] (by decide) rfl
  refine wGov (wc := [(h1, .inr (5, [.int 0, .ref h2])), (q3, .inr (3, [.int 0, .int 0, .int p0, .int (-1), .int (-1), .int 0, .int 0, .int 0, .int 0, .int 0, .int 0, .int 0, .ref q4, .ref q2, .int 0, .null])), (h2, .inr (4, [.ref h3, .int 0])), (h3, .inl (K 3, 9, .inr (.inr (.inr (.inr (fun _ => none))))))]) (wr := [(h0, .inr (0, [.ref h4, .ref h5, .ref h1, .ref h6, .ref h7, .ref h8, .ref h9, .int 0, .int 0, .int 0, .null])), (q1, .inl (K 0, 400, .inl (fun _ => 0))), (q2, .inl (K 2, 200, .inl (fun _ => 0))), (q4, .inr (6, [.ref q1, .int 0]))]) (va_runV (As := [.int 2, .ref q3]) (rest := []) ⟨hx, hb, hml, hown, hts⟩ (m_X6_hold_0 l G K h1 q3 h2 h3 q4 q2 p0 _ (by omega)) (cwV 2 hts (wGV t_ (mw (.methodLink RX1 133 yX6_hold) (List.mem_of_getElem? (i := 8) rfl)) (mw (.instanceMethod yX6_hold) (List.mem_of_getElem? (i := 9) rfl)) (mw (.selects RX6 yX6_hold yX6_hold) (List.mem_of_getElem? (i := 10) rfl)) (mw (.initialized RX6) (List.mem_of_getElem? (i := 11) rfl)) j_X6_hold_0) rfl rfl rfl (by decide +kernel) ⟨Nat.le_of_ble_eq_true rfl, Nat.le_of_ble_eq_true rfl⟩) (wPV hK hE hPc hDc 5 0 rfl rfl) rfl rfl hl.1 rfl (lv_room (Nat.le_of_ble_eq_true rfl)) dX1_begin_18 ⟨Nat.le_of_ble_eq_true rfl, Nat.le_of_ble_eq_true rfl⟩) hP hD hS hA [1, 6, 2, 0] [3, 4, 5, 7] rfl rfl rfl (by decide) (fun u H locs hw hP hD hS => ?_)
  subst hw
  have hP : va_P G vwCl [(h0, .inr (0, [.ref h4, .ref h5, .ref h1, .ref h6, .ref h7, .ref h8, .ref h9, .int 0, .int 0, .int 0, .null])), (q1, .inl (K 0, 400, .inl (fun _ => 0))), (q2, .inl (K 2, 200, .inl (fun _ => 0))), (q4, .inr (6, [.ref q1, .int 0])), (h1, .inr (5, [.int 2, .ref h2])), (q3, .inr (3, [.int 0, .int 0, .int p0, .int (-1), .int (-1), .int 0, .int 0, .int 0, .int 0, .int 0, .int 0, .int 0, .ref q4, .ref q2, .int 0, .null])), (h2, .inr (4, [.ref h3, .int 1])), (h3, .inl (K 3, 9, .inr (.inr (.inr (.inr (va_up (fun _ => none) 0 (some q3)))))))] _ := hP
  have hD : va_D A [(h0, .inr (0, [.ref h4, .ref h5, .ref h1, .ref h6, .ref h7, .ref h8, .ref h9, .int 0, .int 0, .int 0, .null])), (q1, .inl (K 0, 400, .inl (fun _ => 0))), (q2, .inl (K 2, 200, .inl (fun _ => 0))), (q4, .inr (6, [.ref q1, .int 0])), (h1, .inr (5, [.int 2, .ref h2])), (q3, .inr (3, [.int 0, .int 0, .int p0, .int (-1), .int (-1), .int 0, .int 0, .int 0, .int 0, .int 0, .int 0, .int 0, .ref q4, .ref q2, .int 0, .null])), (h2, .inr (4, [.ref h3, .int 1])), (h3, .inl (K 3, 9, .inr (.inr (.inr (.inr (va_up (fun _ => none) 0 (some q3)))))))] := hD
  refine lv_iload_n hx hb dX1_begin_21 rfl (lv_at hl 1 rfl) ?_
  have hP9 := hP.sub (ws' := [(h0, .inr (0, [.ref h4, .ref h5, .ref h1, .ref h6, .ref h7, .ref h8, .ref h9, .int 0, .int 0, .int 0, .null])), (h1, .inr (5, [.int 2, .ref h2])), (h2, .inr (4, [.ref h3, .int 1])), (h3, .inl (K 3, 9, .inr (.inr (.inr (.inr (va_up (fun _ => none) 0 (some q3))))))), (q1, .inl (K 0, 400, .inl (fun _ => 0))), (q2, .inl (K 2, 200, .inl (fun _ => 0))), (q4, .inr (6, [.ref q1, .int 0])), (q3, .inr (3, [.int 0, .int 0, .int p0, .int (-1), .int (-1), .int 0, .int 0, .int 0, .int 0, .int 0, .int 0, .int 0, .ref q4, .ref q2, .int 0, .null]))]) [0, 4, 6, 7, 1, 2, 3, 5] rfl
  have hD9 := hD.sub (ws' := [(h0, .inr (0, [.ref h4, .ref h5, .ref h1, .ref h6, .ref h7, .ref h8, .ref h9, .int 0, .int 0, .int 0, .null])), (h1, .inr (5, [.int 2, .ref h2])), (h2, .inr (4, [.ref h3, .int 1])), (h3, .inl (K 3, 9, .inr (.inr (.inr (.inr (va_up (fun _ => none) 0 (some q3))))))), (q1, .inl (K 0, 400, .inl (fun _ => 0))), (q2, .inl (K 2, 200, .inl (fun _ => 0))), (q4, .inr (6, [.ref q1, .int 0])), (q3, .inr (3, [.int 0, .int 0, .int p0, .int (-1), .int (-1), .int 0, .int 0, .int 0, .int 0, .int 0, .int 0, .int 0, .ref q4, .ref q2, .int 0, .null]))]) [0, 4, 6, 7, 1, 2, 3, 5] (by decide) rfl
  refine W.widen (k := 4) (n := 618) (Nat.le_of_ble_eq_true rfl) (Nat.le_of_ble_eq_true rfl) ?_
  exact W.iret (v := p0) hx hb hr (fun t ht hW => ⟨⟨p0, _, rfl, ⟨q1, q2, q4, q3, rfl, rfl⟩, by rw [ht]; exact hP9, hD9⟩, hS.F ht⟩) hS.2.2 dX1_begin_22
def e_X1_perform_4 : List Cond := [.fieldLink RX1 9 "MotionFloor$Assembly" "pending" "LMotionFloor$Pile;", .methodLink RX1 15 yX5_top, .instanceMethod yX5_top, .selects RX5 yX5_top yX5_top, .initialized RX5, .methodLink RX1 62 yX1_begin, .static yX1_begin, .initialized RX1]
def v_X1_perform_4 : List Cond := .code yX1_perform cX1_perform 7 (some .int) :: (e_X1_perform_4 ++ (wsX00 ++ (v_X5_top_0 ++ (v_X1_begin_0 ++ []))))
theorem te_X1_perform_4 : GoodIn lw_tbl e_X1_perform_4 := wGc z186 (wGc z185 (wGc z184 (wGc z183 (wGc z26 (wGc z309 (wGc z308 (wGc z201 (wG0))))))))
theorem t_X1_perform_4 : GoodIn lw_tbl v_X1_perform_4 := wGc z187 (wGa te_X1_perform_4 (wGa zcX0 (wGa t_X5_top_0 (wGa t_X1_begin_0 (wG0)))))
set_option maxHeartbeats 4000000 in
set_option maxRecDepth 100000 in
theorem m_X1_perform_4 (l : Launch) (G : va_G) (K : Nat → ClassId) (h0 h1 h2 h3 h4 h5 h6 h7 h8 h9 h10 : Nat) (p0 : Int32) (sz : Nat) (bp0 : 1 ≤ p0.toInt ∧ p0.toInt ≤ 8) : Met l yX1_perform v_X1_perform_4 ({ frames := 5, cells := 4, slots := 618, locals := 95 }) (va_Pc [.ref h0, .int 10, .int p0, .int 0, .int 0, .int 0] (wS G K sz [(h0, .inr (0, [.ref h5, .ref h1, .ref h2, .ref h6, .ref h7, .ref h8, .ref h9, .int 0, .int 0, .int 0, .null])), (h1, .inr (4, [.ref h10, .int 0])), (h2, .inr (5, [.int 0, .ref h3])), (h3, .inr (4, [.ref h4, .int 0])), (h4, .inl (K 3, 9, .inr (.inr (.inr (.inr (fun _ => none))))))])) (va_Qi (fun (r : Int32) (u : va_W) => (∃ n0 n1 n2 n3 : Nat, r = p0 ∧ u = [(h0, .inr (0, [.ref h5, .ref h1, .ref h2, .ref h6, .ref h7, .ref h8, .ref h9, .int 0, .int 0, .int 0, .null])), (h1, .inr (4, [.ref h10, .int 0])), (h2, .inr (5, [.int 2, .ref h3])), (h3, .inr (4, [.ref h4, .int 1])), (h4, .inl (K 3, 9, .inr (.inr (.inr (.inr (va_up (fun _ => none) 0 (some n3))))))), (n0, .inl (K 0, 400, .inl (fun _ => 0))), (n1, .inl (K 2, 200, .inl (fun _ => 0))), (n2, .inr (6, [.ref n0, .int 0])), (n3, .inr (3, [.int 0, .int 0, .int p0, .int (-1), .int (-1), .int 0, .int 0, .int 0, .int 0, .int 0, .int 0, .int 0, .ref n2, .ref n1, .int 0, .null]))])) (wB G (va_A [(h0, .inr (0, [.ref h5, .ref h1, .ref h2, .ref h6, .ref h7, .ref h8, .ref h9, .int 0, .int 0, .int 0, .null])), (h1, .inr (4, [.ref h10, .int 0])), (h2, .inr (5, [.int 0, .ref h3])), (h3, .inr (4, [.ref h4, .int 0])), (h4, .inl (K 3, 9, .inr (.inr (.inr (.inr (fun _ => none))))))] sz)) (va_A [(h0, .inr (0, [.ref h5, .ref h1, .ref h2, .ref h6, .ref h7, .ref h8, .ref h9, .int 0, .int 0, .int 0, .null])), (h1, .inr (4, [.ref h10, .int 0])), (h2, .inr (5, [.int 0, .ref h3])), (h3, .inr (4, [.ref h4, .int 0])), (h4, .inl (K 3, 9, .inr (.inr (.inr (.inr (fun _ => none))))))] sz)) 4 618 (va_A [(h0, .inr (0, [.ref h5, .ref h1, .ref h2, .ref h6, .ref h7, .ref h8, .ref h9, .int 0, .int 0, .int 0, .null])), (h1, .inr (4, [.ref h10, .int 0])), (h2, .inr (5, [.int 0, .ref h3])), (h3, .inr (4, [.ref h4, .int 0])), (h4, .inl (K 3, 9, .inr (.inr (.inr (.inr (fun _ => none))))))] sz) := by
  refine Met.ofW (cc := cX1_perform) (maxL := 7) (ret := (some .int)) (by decide) rfl ?_
  intro p e s m args below meth c s₁ B hml hv
  obtain ⟨rfl, hsz, hP, hK, hD0, hE⟩ := hv
  have hx := B.exec
  have hb := B.bytes
  have hr := B.returns
  have hts := atoms_spec (ws := v_X1_perform_4) B.pre
  have t_ := t_X1_perform_4
  have mw : ∀ w ∈ e_X1_perform_4, w ∈ v_X1_perform_4 := fun w h => List.mem_cons_of_mem _ (List.mem_append_left _ h)
  have hw := fun w (h : w ∈ e_X1_perform_4) => hts w (mw w h)
  have iX0 : ∀ w ∈ wsX00, w ∈ v_X1_perform_4 := fun w h => List.mem_cons_of_mem _ (List.mem_append_right _ (List.mem_append_left _ h))
  have j_X5_top_0 : ∀ w ∈ v_X5_top_0, w ∈ v_X1_perform_4 := fun w h => List.mem_cons_of_mem _ (List.mem_append_right _ (List.mem_append_right _ (List.mem_append_left _ h)))
  have j_X1_begin_0 : ∀ w ∈ v_X1_begin_0, w ∈ v_X1_perform_4 := fun w h => List.mem_cons_of_mem _ (List.mem_append_right _ (List.mem_append_right _ (List.mem_append_right _ (List.mem_append_left _ h))))
  have hown : s.vm.findClass RX1 = some m.cls := findClass_of_methodNamed B.named
  have hlocks := B.notSynchronized
  subst hsz
  have hD := hD0.self (sz := s.heap.size)
  generalize hAe : va_A [(h0, .inr (0, [.ref h5, .ref h1, .ref h2, .ref h6, .ref h7, .ref h8, .ref h9, .int 0, .int 0, .int 0, .null])), (h1, .inr (4, [.ref h10, .int 0])), (h2, .inr (5, [.int 0, .ref h3])), (h3, .inr (4, [.ref h4, .int 0])), (h4, .inl (K 3, 9, .inr (.inr (.inr (.inr (fun _ => none))))))] s.heap.size = A at hD ⊢
  have hA : ∀ q : Nat, s.heap.size ≤ q → A q := fun q h => by rw [← hAe]; exact Or.inr h
  have hS : va_S A s.heap s.heap [] := va_S.rf
  have hP : va_P G vwCl [(h0, .inr (0, [.ref h5, .ref h1, .ref h2, .ref h6, .ref h7, .ref h8, .ref h9, .int 0, .int 0, .int 0, .null])), (h1, .inr (4, [.ref h10, .int 0])), (h2, .inr (5, [.int 0, .ref h3])), (h3, .inr (4, [.ref h4, .int 0])), (h4, .inl (K 3, 9, .inr (.inr (.inr (.inr (fun _ => none))))))] s.heap := hP
  have hl := lv_entry ([.ref h0, .int 10, .int p0, .int 0, .int 0, .int 0]) (n := 7) (Nat.le_of_ble_eq_true rfl)
  rw [lg_entry_eq]
  generalize (lg_sl ([.ref h0, .int 10, .int p0, .int 0, .int 0, .int 0]) ++ List.replicate (7 - (lg_sl ([.ref h0, .int 10, .int p0, .int 0, .int 0, .int 0])).length) Slot.unset).toArray = ls at hl ⊢
  have hl : lv_has ls 7 [(0, .ref h0), (1, .int 10), (2, .int p0), (3, .int 0), (4, .int 0), (5, .int 0)] := hl
  refine lv_aload_n hx hb dX1_perform_0 rfl (lv_at hl 0 rfl) ?_
  refine va_get (D := G) (ci := 0) (v := .ref h1) (C := RX0) (T := TX0) (N := 11) hx hb hts iX0 hown hK hP 0 rfl rfl 1 (by decide) (hw (.fieldLink RX1 9 "MotionFloor$Assembly" "pending" "LMotionFloor$Pile;") (List.mem_of_getElem? (i := 0) rfl)) (fun _ h9 => h9) rfl dX1_perform_1 ?_
  have hPc := hP.sub (ws' := [(h1, .inr (4, [.ref h10, .int 0]))]) [1] rfl
  have hDc := hD.sub (ws' := [(h1, .inr (4, [.ref h10, .int 0]))]) [1] (by decide) rfl
  refine wGoq (wc := [(h1, .inr (4, [.ref h10, .int 0]))]) (wr := [(h0, .inr (0, [.ref h5, .ref h1, .ref h2, .ref h6, .ref h7, .ref h8, .ref h9, .int 0, .int 0, .int 0, .null])), (h2, .inr (5, [.int 0, .ref h3])), (h3, .inr (4, [.ref h4, .int 0])), (h4, .inl (K 3, 9, .inr (.inr (.inr (.inr (fun _ => none))))))]) (va_runV (As := []) (rest := []) ⟨hx, hb, hml, hown, hts⟩ (m_X5_top_0 l G K h1 h10 _) (cwV 0 hts (wGV t_ (mw (.methodLink RX1 15 yX5_top) (List.mem_of_getElem? (i := 1) rfl)) (mw (.instanceMethod yX5_top) (List.mem_of_getElem? (i := 2) rfl)) (mw (.selects RX5 yX5_top yX5_top) (List.mem_of_getElem? (i := 3) rfl)) (mw (.initialized RX5) (List.mem_of_getElem? (i := 4) rfl)) j_X5_top_0) rfl rfl rfl (by decide +kernel) ⟨Nat.le_of_ble_eq_true rfl, Nat.le_of_ble_eq_true rfl⟩) (wPV hK hE hPc hDc 4 0 rfl rfl) rfl rfl hl.1 rfl (lv_room (Nat.le_of_ble_eq_true rfl)) dX1_perform_4 ⟨Nat.le_of_ble_eq_true rfl, Nat.le_of_ble_eq_true rfl⟩) hP hD hS hA [1] [0, 2, 3, 4] rfl rfl rfl (by decide) (fun r u H locs hw hP hD hS => ?_)
  rcases hw with ⟨rfl, rfl⟩
  have hP : va_P G vwCl [(h0, .inr (0, [.ref h5, .ref h1, .ref h2, .ref h6, .ref h7, .ref h8, .ref h9, .int 0, .int 0, .int 0, .null])), (h2, .inr (5, [.int 0, .ref h3])), (h3, .inr (4, [.ref h4, .int 0])), (h4, .inl (K 3, 9, .inr (.inr (.inr (.inr (fun _ => none)))))), (h1, .inr (4, [.ref h10, .int 0]))] _ := hP
  have hD : va_D A [(h0, .inr (0, [.ref h5, .ref h1, .ref h2, .ref h6, .ref h7, .ref h8, .ref h9, .int 0, .int 0, .int 0, .null])), (h2, .inr (5, [.int 0, .ref h3])), (h3, .inr (4, [.ref h4, .int 0])), (h4, .inl (K 3, 9, .inr (.inr (.inr (.inr (fun _ => none)))))), (h1, .inr (4, [.ref h10, .int 0]))] := hD
  refine wTop (v1 := .null) rfl ?_
  refine lv_astoreN (lv' := [(6, .null), (0, .ref h0), (1, .int 10), (2, .int p0), (3, .int 0), (4, .int 0), (5, .int 0)]) hx hb dX1_perform_7 hl (by decide) rfl (fun ls hl => ?_)
  refine lv_iload_n hx hb dX1_perform_9 rfl (lv_at hl 2 rfl) ?_
  refine lv_tableIn (tgt := 194) hx hb dX1_perform_10 (by decide) (by decide) (by decide) (by decide) ?_
  refine lv_aload_n hx hb dX1_perform_194 rfl (lv_at hl 1 rfl) ?_
  refine lv_iload_n hx hb dX1_perform_195 rfl (lv_at hl 3 rfl) ?_
  have hPc := hP.sub (ws' := [(h0, .inr (0, [.ref h5, .ref h1, .ref h2, .ref h6, .ref h7, .ref h8, .ref h9, .int 0, .int 0, .int 0, .null])), (h2, .inr (5, [.int 0, .ref h3])), (h3, .inr (4, [.ref h4, .int 0])), (h4, .inl (K 3, 9, .inr (.inr (.inr (.inr (fun _ => none))))))]) [0, 1, 2, 3] rfl
  have hDc := hD.sub (ws' := [(h0, .inr (0, [.ref h5, .ref h1, .ref h2, .ref h6, .ref h7, .ref h8, .ref h9, .int 0, .int 0, .int 0, .null])), (h2, .inr (5, [.int 0, .ref h3])), (h3, .inr (4, [.ref h4, .int 0])), (h4, .inl (K 3, 9, .inr (.inr (.inr (.inr (fun _ => none))))))]) [0, 1, 2, 3] (by decide) rfl
  refine wGoi (wc := [(h0, .inr (0, [.ref h5, .ref h1, .ref h2, .ref h6, .ref h7, .ref h8, .ref h9, .int 0, .int 0, .int 0, .null])), (h2, .inr (5, [.int 0, .ref h3])), (h3, .inr (4, [.ref h4, .int 0])), (h4, .inl (K 3, 9, .inr (.inr (.inr (.inr (fun _ => none))))))]) (wr := [(h1, .inr (4, [.ref h10, .int 0]))]) (va_runS (As := [.ref h0, .int p0]) (rest := []) ⟨hx, hb, hml, hown, hts⟩ (m_X1_begin_0 l G K h0 h2 h3 h4 h5 h1 h6 h7 h8 h9 p0 _ (by omega)) (va_cwS 2 hts (wGS t_ (mw (.methodLink RX1 62 yX1_begin) (List.mem_of_getElem? (i := 5) rfl)) (mw (.static yX1_begin) (List.mem_of_getElem? (i := 6) rfl)) (mw (.initialized RX1) (List.mem_of_getElem? (i := 7) rfl)) j_X1_begin_0) rfl rfl rfl (by decide +kernel) ⟨Nat.le_of_ble_eq_true rfl, Nat.le_of_ble_eq_true rfl⟩) (wPS hK hE hPc hDc) rfl rfl hl.1 rfl (lv_room (Nat.le_of_ble_eq_true rfl)) dX1_perform_196 ⟨Nat.le_of_ble_eq_true rfl, Nat.le_of_ble_eq_true rfl⟩) hP hD hS hA [0, 1, 2, 3] [4] rfl rfl rfl (by decide) (fun r u H locs hw hP hD hS => ?_)
  rcases hw with ⟨q1, q2, q3, q4, rfl, rfl⟩
  have hP : va_P G vwCl [(h1, .inr (4, [.ref h10, .int 0])), (h0, .inr (0, [.ref h5, .ref h1, .ref h2, .ref h6, .ref h7, .ref h8, .ref h9, .int 0, .int 0, .int 0, .null])), (h2, .inr (5, [.int 2, .ref h3])), (h3, .inr (4, [.ref h4, .int 1])), (h4, .inl (K 3, 9, .inr (.inr (.inr (.inr (va_up (fun _ => none) 0 (some q4))))))), (q1, .inl (K 0, 400, .inl (fun _ => 0))), (q2, .inl (K 2, 200, .inl (fun _ => 0))), (q3, .inr (6, [.ref q1, .int 0])), (q4, .inr (3, [.int 0, .int 0, .int p0, .int (-1), .int (-1), .int 0, .int 0, .int 0, .int 0, .int 0, .int 0, .int 0, .ref q3, .ref q2, .int 0, .null]))] _ := hP
  have hD : va_D A [(h1, .inr (4, [.ref h10, .int 0])), (h0, .inr (0, [.ref h5, .ref h1, .ref h2, .ref h6, .ref h7, .ref h8, .ref h9, .int 0, .int 0, .int 0, .null])), (h2, .inr (5, [.int 2, .ref h3])), (h3, .inr (4, [.ref h4, .int 1])), (h4, .inl (K 3, 9, .inr (.inr (.inr (.inr (va_up (fun _ => none) 0 (some q4))))))), (q1, .inl (K 0, 400, .inl (fun _ => 0))), (q2, .inl (K 2, 200, .inl (fun _ => 0))), (q3, .inr (6, [.ref q1, .int 0])), (q4, .inr (3, [.int 0, .int 0, .int p0, .int (-1), .int (-1), .int 0, .int 0, .int 0, .int 0, .int 0, .int 0, .int 0, .ref q3, .ref q2, .int 0, .null]))] := hD
  have hP9 := hP.sub (ws' := [(h0, .inr (0, [.ref h5, .ref h1, .ref h2, .ref h6, .ref h7, .ref h8, .ref h9, .int 0, .int 0, .int 0, .null])), (h1, .inr (4, [.ref h10, .int 0])), (h2, .inr (5, [.int 2, .ref h3])), (h3, .inr (4, [.ref h4, .int 1])), (h4, .inl (K 3, 9, .inr (.inr (.inr (.inr (va_up (fun _ => none) 0 (some q4))))))), (q1, .inl (K 0, 400, .inl (fun _ => 0))), (q2, .inl (K 2, 200, .inl (fun _ => 0))), (q3, .inr (6, [.ref q1, .int 0])), (q4, .inr (3, [.int 0, .int 0, .int p0, .int (-1), .int (-1), .int 0, .int 0, .int 0, .int 0, .int 0, .int 0, .int 0, .ref q3, .ref q2, .int 0, .null]))]) [1, 0, 2, 3, 4, 5, 6, 7, 8] rfl
  have hD9 := hD.sub (ws' := [(h0, .inr (0, [.ref h5, .ref h1, .ref h2, .ref h6, .ref h7, .ref h8, .ref h9, .int 0, .int 0, .int 0, .null])), (h1, .inr (4, [.ref h10, .int 0])), (h2, .inr (5, [.int 2, .ref h3])), (h3, .inr (4, [.ref h4, .int 1])), (h4, .inl (K 3, 9, .inr (.inr (.inr (.inr (va_up (fun _ => none) 0 (some q4))))))), (q1, .inl (K 0, 400, .inl (fun _ => 0))), (q2, .inl (K 2, 200, .inl (fun _ => 0))), (q3, .inr (6, [.ref q1, .int 0])), (q4, .inr (3, [.int 0, .int 0, .int p0, .int (-1), .int (-1), .int 0, .int 0, .int 0, .int 0, .int 0, .int 0, .int 0, .ref q3, .ref q2, .int 0, .null]))]) [1, 0, 2, 3, 4, 5, 6, 7, 8] (by decide) rfl
  refine W.widen (k := 4) (n := 618) (Nat.le_of_ble_eq_true rfl) (Nat.le_of_ble_eq_true rfl) ?_
  exact W.iret (v := p0) hx hb hr (fun t ht hW => ⟨⟨p0, _, rfl, ⟨q1, q2, q3, q4, rfl, rfl⟩, by rw [ht]; exact hP9, hD9⟩, hS.F ht⟩) hS.2.2 dX1_perform_199
def e_X3_write_28 : List Cond := [.fieldLink RX3 28 "MotionFloor$Ledger" "size" "I", .fieldLink RX3 15 "MotionFloor$Ledger" "columns" "I", .fieldLink RX3 24 "MotionFloor$Ledger" "cells" "[I"]
def v_X3_write_28 : List Cond := .code yX3_write cX3_write 4 none :: (e_X3_write_28 ++ (wsX30 ++ []))
theorem te_X3_write_28 : GoodIn lw_tbl e_X3_write_28 := wGc z162 (wGc z38 (wGc z36 (wG0)))
theorem t_X3_write_28 : GoodIn lw_tbl v_X3_write_28 := wGc z194 (wGa te_X3_write_28 (wGa zcX3 (wG0)))
set_option maxHeartbeats 4000000 in
set_option maxRecDepth 100000 in
theorem m_X3_write_28 (l : Launch) (G : va_G) (K : Nat → ClassId) (h0 h1 : Nat) (sz : Nat) : Met l yX3_write v_X3_write_28 ({ frames := 0, cells := 0, slots := 0, locals := 0 }) (va_Pc [.ref h0, .int 0, .int 10] (wS G K sz [(h0, .inr (2, [.int 7, .int 600, .ref h1, .int 1])), (h1, .inl (K 0, 112, .inl (fun _ => 0)))])) (va_Qv (fun u : va_W => (u = [(h0, .inr (2, [.int 7, .int 600, .ref h1, .int 1])), (h1, .inl (K 0, 112, .inl (upd (fun _ => 0) 0 10)))])) (wB G (va_A [(h0, .inr (2, [.int 7, .int 600, .ref h1, .int 1])), (h1, .inl (K 0, 112, .inl (fun _ => 0)))] sz)) (va_A [(h0, .inr (2, [.int 7, .int 600, .ref h1, .int 1])), (h1, .inl (K 0, 112, .inl (fun _ => 0)))] sz)) 0 0 (va_A [(h0, .inr (2, [.int 7, .int 600, .ref h1, .int 1])), (h1, .inl (K 0, 112, .inl (fun _ => 0)))] sz) := by
  refine Met.ofW (cc := cX3_write) (maxL := 4) (ret := none) (by decide) rfl ?_
  intro p e s m args below meth c s₁ B hml hv
  obtain ⟨rfl, hsz, hP, hK, hD0, hE⟩ := hv
  have hx := B.exec
  have hb := B.bytes
  have hr := B.returns
  have hts := atoms_spec (ws := v_X3_write_28) B.pre
  have t_ := t_X3_write_28
  have mw : ∀ w ∈ e_X3_write_28, w ∈ v_X3_write_28 := fun w h => List.mem_cons_of_mem _ (List.mem_append_left _ h)
  have hw := fun w (h : w ∈ e_X3_write_28) => hts w (mw w h)
  have iX3 : ∀ w ∈ wsX30, w ∈ v_X3_write_28 := fun w h => List.mem_cons_of_mem _ (List.mem_append_right _ (List.mem_append_left _ h))
  have hown : s.vm.findClass RX3 = some m.cls := findClass_of_methodNamed B.named
  have hlocks := B.notSynchronized
  subst hsz
  have hD := hD0.self (sz := s.heap.size)
  generalize hAe : va_A [(h0, .inr (2, [.int 7, .int 600, .ref h1, .int 1])), (h1, .inl (K 0, 112, .inl (fun _ => 0)))] s.heap.size = A at hD ⊢
  have hA : ∀ q : Nat, s.heap.size ≤ q → A q := fun q h => by rw [← hAe]; exact Or.inr h
  have hS : va_S A s.heap s.heap [] := va_S.rf
  have hP : va_P G vwCl [(h0, .inr (2, [.int 7, .int 600, .ref h1, .int 1])), (h1, .inl (K 0, 112, .inl (fun _ => 0)))] s.heap := hP
  have hl := lv_entry ([.ref h0, .int 0, .int 10]) (n := 4) (Nat.le_of_ble_eq_true rfl)
  rw [lg_entry_eq]
  generalize (lg_sl ([.ref h0, .int 0, .int 10]) ++ List.replicate (4 - (lg_sl ([.ref h0, .int 0, .int 10])).length) Slot.unset).toArray = ls at hl ⊢
  have hl : lv_has ls 4 [(0, .ref h0), (1, .int 0), (2, .int 10)] := hl
  refine lv_aload_n hx hb dX3_write_0 rfl (lv_at hl 0 rfl) ?_
  refine va_get (D := G) (ci := 2) (v := .int 1) (C := RX3) (T := TX3) (N := 4) hx hb hts iX3 hown hK hP 0 rfl rfl 3 (by decide) (hw (.fieldLink RX3 28 "MotionFloor$Ledger" "size" "I") (List.mem_of_getElem? (i := 0) rfl)) (fun _ h9 => h9) rfl dX3_write_1 ?_
  refine lv_iconst (v := 1) hx hb dX3_write_4 (by decide) ?_
  refine lv_isub hx hb dX3_write_5 ?_
  refine wTop (v1 := .int 0) (congrArg Value.int (by decide)) ?_
  refine lv_aload_n hx hb dX3_write_6 rfl (lv_at hl 0 rfl) ?_
  refine va_get (D := G) (ci := 2) (v := .int 7) (C := RX3) (T := TX3) (N := 4) hx hb hts iX3 hown hK hP 0 rfl rfl 0 (by decide) (hw (.fieldLink RX3 15 "MotionFloor$Ledger" "columns" "I") (List.mem_of_getElem? (i := 1) rfl)) (fun _ h9 => h9) rfl dX3_write_7 ?_
  refine lv_imul hx hb dX3_write_10 ?_
  refine wTop (v1 := .int 0) (congrArg Value.int (by decide)) ?_
  refine lv_iload_n hx hb dX3_write_11 rfl (lv_at hl 1 rfl) ?_
  refine lv_iadd hx hb dX3_write_12 ?_
  refine wTop (v1 := .int 0) (congrArg Value.int (by decide)) ?_
  refine lv_istore_n (lv' := [(3, .int 0), (0, .ref h0), (1, .int 0), (2, .int 10)]) hx hb dX3_write_13 rfl hl (by decide) rfl (fun ls hl => ?_)
  refine lv_iload_n hx hb dX3_write_14 rfl (lv_at hl 2 rfl) ?_
  refine lv_if_lt (tgt := 46) hx hb dX3_write_15 (by decide) (fun c_ => absurd c_ (by decide)) (fun _ => ?_)
  refine lv_iload_n hx hb dX3_write_18 rfl (lv_at hl 2 rfl) ?_
  refine lv_aload_n hx hb dX3_write_19 rfl (lv_at hl 1 rfl) ?_
  refine va_get (D := G) (ci := 2) (v := .int 7) (C := RX3) (T := TX3) (N := 4) hx hb hts iX3 hown hK hP 0 rfl rfl 0 (by decide) (hw (.fieldLink RX3 15 "MotionFloor$Ledger" "columns" "I") (List.mem_of_getElem? (i := 1) rfl)) (fun _ h9 => h9) rfl dX3_write_20 ?_
  refine lv_icmp_ge (tgt := 46) hx hb dX3_write_23 (by decide) (fun c_ => absurd c_ (by decide)) (fun _ => ?_)
  refine lv_iload_n hx hb dX3_write_26 rfl (lv_at hl 0 rfl) ?_
  refine lv_if_lt (tgt := 46) hx hb dX3_write_27 (by decide) (fun c_ => absurd c_ (by decide)) (fun _ => ?_)
  refine lv_iload_n hx hb dX3_write_30 rfl (lv_at hl 0 rfl) ?_
  refine lv_aload_n hx hb dX3_write_31 rfl (lv_at hl 1 rfl) ?_
  refine va_get (D := G) (ci := 2) (v := .ref h1) (C := RX3) (T := TX3) (N := 4) hx hb hts iX3 hown hK hP 0 rfl rfl 2 (by decide) (hw (.fieldLink RX3 24 "MotionFloor$Ledger" "cells" "[I") (List.mem_of_getElem? (i := 2) rfl)) (fun _ h9 => h9) rfl dX3_write_32 ?_
  refine va_alen (v := 112) hx hb hK hP 1 0 rfl rfl (by decide) dX3_write_35 ?_
  refine lv_icmp_ge (tgt := 46) hx hb dX3_write_36 (by decide) (fun c_ => absurd c_ (by decide)) (fun _ => ?_)
  refine lv_aload_n hx hb dX3_write_39 rfl (lv_at hl 1 rfl) ?_
  refine va_get (D := G) (ci := 2) (v := .ref h1) (C := RX3) (T := TX3) (N := 4) hx hb hts iX3 hown hK hP 0 rfl rfl 2 (by decide) (hw (.fieldLink RX3 24 "MotionFloor$Ledger" "cells" "[I") (List.mem_of_getElem? (i := 2) rfl)) (fun _ h9 => h9) rfl dX3_write_40 ?_
  refine lv_iload_n hx hb dX3_write_43 rfl (lv_at hl 0 rfl) ?_
  refine lv_iload_n hx hb dX3_write_44 rfl (lv_at hl 3 rfl) ?_
  refine va_iast hx hb hK hP hD hS 1 0 rfl rfl (vp_in_iff.mpr (by decide)) dX3_write_45 (fun H locs hP hD hS => ?_)
  have hP : va_P G vwCl [(h0, .inr (2, [.int 7, .int 600, .ref h1, .int 1])), (h1, .inl (K 0, 112, .inl (upd (fun _ => 0) 0 10)))] _ := hP
  have hD : va_D A [(h0, .inr (2, [.int 7, .int 600, .ref h1, .int 1])), (h1, .inl (K 0, 112, .inl (upd (fun _ => 0) 0 10)))] := hD
  have hP9 : va_P G vwCl [(h0, .inr (2, [.int 7, .int 600, .ref h1, .int 1])), (h1, .inl (K 0, 112, .inl (upd (fun _ => 0) 0 10)))] _ := hP
  have hD9 : va_D A [(h0, .inr (2, [.int 7, .int 600, .ref h1, .int 1])), (h1, .inl (K 0, 112, .inl (upd (fun _ => 0) 0 10)))] := hD
  exact W.vret hx hb hr (fun t ht hW => ⟨⟨_, rfl, rfl, by rw [ht]; exact hP9, hD9⟩, hS.F ht⟩) hS.2.2 dX3_write_46
def e_X3_write_29 : List Cond := [.fieldLink RX3 28 "MotionFloor$Ledger" "size" "I", .fieldLink RX3 15 "MotionFloor$Ledger" "columns" "I", .fieldLink RX3 24 "MotionFloor$Ledger" "cells" "[I"]
def v_X3_write_29 : List Cond := .code yX3_write cX3_write 4 none :: (e_X3_write_29 ++ (wsX30 ++ []))
theorem te_X3_write_29 : GoodIn lw_tbl e_X3_write_29 := wGc z162 (wGc z38 (wGc z36 (wG0)))
theorem t_X3_write_29 : GoodIn lw_tbl v_X3_write_29 := wGc z194 (wGa te_X3_write_29 (wGa zcX3 (wG0)))
set_option maxHeartbeats 4000000 in
set_option maxRecDepth 100000 in
theorem m_X3_write_29 (l : Launch) (G : va_G) (K : Nat → ClassId) (h0 h1 : Nat) (p0 : Int32) (sz : Nat) (bp0 : 1 ≤ p0.toInt ∧ p0.toInt ≤ 8) : Met l yX3_write v_X3_write_29 ({ frames := 0, cells := 0, slots := 0, locals := 0 }) (va_Pc [.ref h0, .int 1, .int p0] (wS G K sz [(h0, .inr (2, [.int 7, .int 600, .ref h1, .int 1])), (h1, .inl (K 0, 112, .inl (upd (fun _ => 0) 0 10)))])) (va_Qv (fun u : va_W => (u = [(h0, .inr (2, [.int 7, .int 600, .ref h1, .int 1])), (h1, .inl (K 0, 112, .inl (upd (upd (fun _ => 0) 0 10) 1 p0)))])) (wB G (va_A [(h0, .inr (2, [.int 7, .int 600, .ref h1, .int 1])), (h1, .inl (K 0, 112, .inl (upd (fun _ => 0) 0 10)))] sz)) (va_A [(h0, .inr (2, [.int 7, .int 600, .ref h1, .int 1])), (h1, .inl (K 0, 112, .inl (upd (fun _ => 0) 0 10)))] sz)) 0 0 (va_A [(h0, .inr (2, [.int 7, .int 600, .ref h1, .int 1])), (h1, .inl (K 0, 112, .inl (upd (fun _ => 0) 0 10)))] sz) := by
  refine Met.ofW (cc := cX3_write) (maxL := 4) (ret := none) (by decide) rfl ?_
  intro p e s m args below meth c s₁ B hml hv
  obtain ⟨rfl, hsz, hP, hK, hD0, hE⟩ := hv
  have hx := B.exec
  have hb := B.bytes
  have hr := B.returns
  have hts := atoms_spec (ws := v_X3_write_29) B.pre
  have t_ := t_X3_write_29
  have mw : ∀ w ∈ e_X3_write_29, w ∈ v_X3_write_29 := fun w h => List.mem_cons_of_mem _ (List.mem_append_left _ h)
  have hw := fun w (h : w ∈ e_X3_write_29) => hts w (mw w h)
  have iX3 : ∀ w ∈ wsX30, w ∈ v_X3_write_29 := fun w h => List.mem_cons_of_mem _ (List.mem_append_right _ (List.mem_append_left _ h))
  have hown : s.vm.findClass RX3 = some m.cls := findClass_of_methodNamed B.named
  have hlocks := B.notSynchronized
  subst hsz
  have hD := hD0.self (sz := s.heap.size)
  generalize hAe : va_A [(h0, .inr (2, [.int 7, .int 600, .ref h1, .int 1])), (h1, .inl (K 0, 112, .inl (upd (fun _ => 0) 0 10)))] s.heap.size = A at hD ⊢
  have hA : ∀ q : Nat, s.heap.size ≤ q → A q := fun q h => by rw [← hAe]; exact Or.inr h
  have hS : va_S A s.heap s.heap [] := va_S.rf
  have hP : va_P G vwCl [(h0, .inr (2, [.int 7, .int 600, .ref h1, .int 1])), (h1, .inl (K 0, 112, .inl (upd (fun _ => 0) 0 10)))] s.heap := hP
  have hl := lv_entry ([.ref h0, .int 1, .int p0]) (n := 4) (Nat.le_of_ble_eq_true rfl)
  rw [lg_entry_eq]
  generalize (lg_sl ([.ref h0, .int 1, .int p0]) ++ List.replicate (4 - (lg_sl ([.ref h0, .int 1, .int p0])).length) Slot.unset).toArray = ls at hl ⊢
  have hl : lv_has ls 4 [(0, .ref h0), (1, .int 1), (2, .int p0)] := hl
  refine lv_aload_n hx hb dX3_write_0 rfl (lv_at hl 0 rfl) ?_
  refine va_get (D := G) (ci := 2) (v := .int 1) (C := RX3) (T := TX3) (N := 4) hx hb hts iX3 hown hK hP 0 rfl rfl 3 (by decide) (hw (.fieldLink RX3 28 "MotionFloor$Ledger" "size" "I") (List.mem_of_getElem? (i := 0) rfl)) (fun _ h9 => h9) rfl dX3_write_1 ?_
  refine lv_iconst (v := 1) hx hb dX3_write_4 (by decide) ?_
  refine lv_isub hx hb dX3_write_5 ?_
  refine wTop (v1 := .int 0) (congrArg Value.int (by decide)) ?_
  refine lv_aload_n hx hb dX3_write_6 rfl (lv_at hl 0 rfl) ?_
  refine va_get (D := G) (ci := 2) (v := .int 7) (C := RX3) (T := TX3) (N := 4) hx hb hts iX3 hown hK hP 0 rfl rfl 0 (by decide) (hw (.fieldLink RX3 15 "MotionFloor$Ledger" "columns" "I") (List.mem_of_getElem? (i := 1) rfl)) (fun _ h9 => h9) rfl dX3_write_7 ?_
  refine lv_imul hx hb dX3_write_10 ?_
  refine wTop (v1 := .int 0) (congrArg Value.int (by decide)) ?_
  refine lv_iload_n hx hb dX3_write_11 rfl (lv_at hl 1 rfl) ?_
  refine lv_iadd hx hb dX3_write_12 ?_
  refine wTop (v1 := .int 1) (congrArg Value.int (by decide)) ?_
  refine lv_istore_n (lv' := [(3, .int 1), (0, .ref h0), (1, .int 1), (2, .int p0)]) hx hb dX3_write_13 rfl hl (by decide) rfl (fun ls hl => ?_)
  refine lv_iload_n hx hb dX3_write_14 rfl (lv_at hl 2 rfl) ?_
  refine lv_if_lt (tgt := 46) hx hb dX3_write_15 (by decide) (fun c_ => absurd c_ (by decide)) (fun _ => ?_)
  refine lv_iload_n hx hb dX3_write_18 rfl (lv_at hl 2 rfl) ?_
  refine lv_aload_n hx hb dX3_write_19 rfl (lv_at hl 1 rfl) ?_
  refine va_get (D := G) (ci := 2) (v := .int 7) (C := RX3) (T := TX3) (N := 4) hx hb hts iX3 hown hK hP 0 rfl rfl 0 (by decide) (hw (.fieldLink RX3 15 "MotionFloor$Ledger" "columns" "I") (List.mem_of_getElem? (i := 1) rfl)) (fun _ h9 => h9) rfl dX3_write_20 ?_
  refine lv_icmp_ge (tgt := 46) hx hb dX3_write_23 (by decide) (fun c_ => absurd c_ (by decide)) (fun _ => ?_)
  refine lv_iload_n hx hb dX3_write_26 rfl (lv_at hl 0 rfl) ?_
  refine lv_if_lt (tgt := 46) hx hb dX3_write_27 (by decide) (fun c_ => absurd c_ (by decide)) (fun _ => ?_)
  refine lv_iload_n hx hb dX3_write_30 rfl (lv_at hl 0 rfl) ?_
  refine lv_aload_n hx hb dX3_write_31 rfl (lv_at hl 1 rfl) ?_
  refine va_get (D := G) (ci := 2) (v := .ref h1) (C := RX3) (T := TX3) (N := 4) hx hb hts iX3 hown hK hP 0 rfl rfl 2 (by decide) (hw (.fieldLink RX3 24 "MotionFloor$Ledger" "cells" "[I") (List.mem_of_getElem? (i := 2) rfl)) (fun _ h9 => h9) rfl dX3_write_32 ?_
  refine va_alen (v := 112) hx hb hK hP 1 0 rfl rfl (by decide) dX3_write_35 ?_
  refine lv_icmp_ge (tgt := 46) hx hb dX3_write_36 (by decide) (fun c_ => absurd c_ (by decide)) (fun _ => ?_)
  refine lv_aload_n hx hb dX3_write_39 rfl (lv_at hl 1 rfl) ?_
  refine va_get (D := G) (ci := 2) (v := .ref h1) (C := RX3) (T := TX3) (N := 4) hx hb hts iX3 hown hK hP 0 rfl rfl 2 (by decide) (hw (.fieldLink RX3 24 "MotionFloor$Ledger" "cells" "[I") (List.mem_of_getElem? (i := 2) rfl)) (fun _ h9 => h9) rfl dX3_write_40 ?_
  refine lv_iload_n hx hb dX3_write_43 rfl (lv_at hl 0 rfl) ?_
  refine lv_iload_n hx hb dX3_write_44 rfl (lv_at hl 3 rfl) ?_
  refine va_iast hx hb hK hP hD hS 1 0 rfl rfl (vp_in_iff.mpr (by decide)) dX3_write_45 (fun H locs hP hD hS => ?_)
  have hP : va_P G vwCl [(h0, .inr (2, [.int 7, .int 600, .ref h1, .int 1])), (h1, .inl (K 0, 112, .inl (upd (upd (fun _ => 0) 0 10) 1 p0)))] _ := hP
  have hD : va_D A [(h0, .inr (2, [.int 7, .int 600, .ref h1, .int 1])), (h1, .inl (K 0, 112, .inl (upd (upd (fun _ => 0) 0 10) 1 p0)))] := hD
  have hP9 : va_P G vwCl [(h0, .inr (2, [.int 7, .int 600, .ref h1, .int 1])), (h1, .inl (K 0, 112, .inl (upd (upd (fun _ => 0) 0 10) 1 p0)))] _ := hP
  have hD9 : va_D A [(h0, .inr (2, [.int 7, .int 600, .ref h1, .int 1])), (h1, .inl (K 0, 112, .inl (upd (upd (fun _ => 0) 0 10) 1 p0)))] := hD
  exact W.vret hx hb hr (fun t ht hW => ⟨⟨_, rfl, rfl, by rw [ht]; exact hP9, hD9⟩, hS.F ht⟩) hS.2.2 dX3_write_46
def e_X3_write_30 : List Cond := [.fieldLink RX3 28 "MotionFloor$Ledger" "size" "I", .fieldLink RX3 15 "MotionFloor$Ledger" "columns" "I", .fieldLink RX3 24 "MotionFloor$Ledger" "cells" "[I"]
def v_X3_write_30 : List Cond := .code yX3_write cX3_write 4 none :: (e_X3_write_30 ++ (wsX30 ++ []))
theorem te_X3_write_30 : GoodIn lw_tbl e_X3_write_30 := wGc z162 (wGc z38 (wGc z36 (wG0)))
theorem t_X3_write_30 : GoodIn lw_tbl v_X3_write_30 := wGc z194 (wGa te_X3_write_30 (wGa zcX3 (wG0)))
set_option maxHeartbeats 4000000 in
set_option maxRecDepth 100000 in
theorem m_X3_write_30 (l : Launch) (G : va_G) (K : Nat → ClassId) (h0 h1 : Nat) (p0 : Int32) (sz : Nat) (bp0 : 1 ≤ p0.toInt ∧ p0.toInt ≤ 8) : Met l yX3_write v_X3_write_30 ({ frames := 0, cells := 0, slots := 0, locals := 0 }) (va_Pc [.ref h0, .int 2, .int 0] (wS G K sz [(h0, .inr (2, [.int 7, .int 600, .ref h1, .int 1])), (h1, .inl (K 0, 112, .inl (upd (upd (fun _ => 0) 0 10) 1 p0)))])) (va_Qv (fun u : va_W => (u = [(h0, .inr (2, [.int 7, .int 600, .ref h1, .int 1])), (h1, .inl (K 0, 112, .inl (upd (upd (upd (fun _ => 0) 0 10) 1 p0) 2 0)))])) (wB G (va_A [(h0, .inr (2, [.int 7, .int 600, .ref h1, .int 1])), (h1, .inl (K 0, 112, .inl (upd (upd (fun _ => 0) 0 10) 1 p0)))] sz)) (va_A [(h0, .inr (2, [.int 7, .int 600, .ref h1, .int 1])), (h1, .inl (K 0, 112, .inl (upd (upd (fun _ => 0) 0 10) 1 p0)))] sz)) 0 0 (va_A [(h0, .inr (2, [.int 7, .int 600, .ref h1, .int 1])), (h1, .inl (K 0, 112, .inl (upd (upd (fun _ => 0) 0 10) 1 p0)))] sz) := by
  refine Met.ofW (cc := cX3_write) (maxL := 4) (ret := none) (by decide) rfl ?_
  intro p e s m args below meth c s₁ B hml hv
  obtain ⟨rfl, hsz, hP, hK, hD0, hE⟩ := hv
  have hx := B.exec
  have hb := B.bytes
  have hr := B.returns
  have hts := atoms_spec (ws := v_X3_write_30) B.pre
  have t_ := t_X3_write_30
  have mw : ∀ w ∈ e_X3_write_30, w ∈ v_X3_write_30 := fun w h => List.mem_cons_of_mem _ (List.mem_append_left _ h)
  have hw := fun w (h : w ∈ e_X3_write_30) => hts w (mw w h)
  have iX3 : ∀ w ∈ wsX30, w ∈ v_X3_write_30 := fun w h => List.mem_cons_of_mem _ (List.mem_append_right _ (List.mem_append_left _ h))
  have hown : s.vm.findClass RX3 = some m.cls := findClass_of_methodNamed B.named
  have hlocks := B.notSynchronized
  subst hsz
  have hD := hD0.self (sz := s.heap.size)
  generalize hAe : va_A [(h0, .inr (2, [.int 7, .int 600, .ref h1, .int 1])), (h1, .inl (K 0, 112, .inl (upd (upd (fun _ => 0) 0 10) 1 p0)))] s.heap.size = A at hD ⊢
  have hA : ∀ q : Nat, s.heap.size ≤ q → A q := fun q h => by rw [← hAe]; exact Or.inr h
  have hS : va_S A s.heap s.heap [] := va_S.rf
  have hP : va_P G vwCl [(h0, .inr (2, [.int 7, .int 600, .ref h1, .int 1])), (h1, .inl (K 0, 112, .inl (upd (upd (fun _ => 0) 0 10) 1 p0)))] s.heap := hP
  have hl := lv_entry ([.ref h0, .int 2, .int 0]) (n := 4) (Nat.le_of_ble_eq_true rfl)
  rw [lg_entry_eq]
  generalize (lg_sl ([.ref h0, .int 2, .int 0]) ++ List.replicate (4 - (lg_sl ([.ref h0, .int 2, .int 0])).length) Slot.unset).toArray = ls at hl ⊢
  have hl : lv_has ls 4 [(0, .ref h0), (1, .int 2), (2, .int 0)] := hl
  refine lv_aload_n hx hb dX3_write_0 rfl (lv_at hl 0 rfl) ?_
  refine va_get (D := G) (ci := 2) (v := .int 1) (C := RX3) (T := TX3) (N := 4) hx hb hts iX3 hown hK hP 0 rfl rfl 3 (by decide) (hw (.fieldLink RX3 28 "MotionFloor$Ledger" "size" "I") (List.mem_of_getElem? (i := 0) rfl)) (fun _ h9 => h9) rfl dX3_write_1 ?_
  refine lv_iconst (v := 1) hx hb dX3_write_4 (by decide) ?_
  refine lv_isub hx hb dX3_write_5 ?_
  refine wTop (v1 := .int 0) (congrArg Value.int (by decide)) ?_
  refine lv_aload_n hx hb dX3_write_6 rfl (lv_at hl 0 rfl) ?_
  refine va_get (D := G) (ci := 2) (v := .int 7) (C := RX3) (T := TX3) (N := 4) hx hb hts iX3 hown hK hP 0 rfl rfl 0 (by decide) (hw (.fieldLink RX3 15 "MotionFloor$Ledger" "columns" "I") (List.mem_of_getElem? (i := 1) rfl)) (fun _ h9 => h9) rfl dX3_write_7 ?_
  refine lv_imul hx hb dX3_write_10 ?_
  refine wTop (v1 := .int 0) (congrArg Value.int (by decide)) ?_
  refine lv_iload_n hx hb dX3_write_11 rfl (lv_at hl 1 rfl) ?_
  refine lv_iadd hx hb dX3_write_12 ?_
  refine wTop (v1 := .int 2) (congrArg Value.int (by decide)) ?_
  refine lv_istore_n (lv' := [(3, .int 2), (0, .ref h0), (1, .int 2), (2, .int 0)]) hx hb dX3_write_13 rfl hl (by decide) rfl (fun ls hl => ?_)
  refine lv_iload_n hx hb dX3_write_14 rfl (lv_at hl 2 rfl) ?_
  refine lv_if_lt (tgt := 46) hx hb dX3_write_15 (by decide) (fun c_ => absurd c_ (by decide)) (fun _ => ?_)
  refine lv_iload_n hx hb dX3_write_18 rfl (lv_at hl 2 rfl) ?_
  refine lv_aload_n hx hb dX3_write_19 rfl (lv_at hl 1 rfl) ?_
  refine va_get (D := G) (ci := 2) (v := .int 7) (C := RX3) (T := TX3) (N := 4) hx hb hts iX3 hown hK hP 0 rfl rfl 0 (by decide) (hw (.fieldLink RX3 15 "MotionFloor$Ledger" "columns" "I") (List.mem_of_getElem? (i := 1) rfl)) (fun _ h9 => h9) rfl dX3_write_20 ?_
  refine lv_icmp_ge (tgt := 46) hx hb dX3_write_23 (by decide) (fun c_ => absurd c_ (by decide)) (fun _ => ?_)
  refine lv_iload_n hx hb dX3_write_26 rfl (lv_at hl 0 rfl) ?_
  refine lv_if_lt (tgt := 46) hx hb dX3_write_27 (by decide) (fun c_ => absurd c_ (by decide)) (fun _ => ?_)
  refine lv_iload_n hx hb dX3_write_30 rfl (lv_at hl 0 rfl) ?_
  refine lv_aload_n hx hb dX3_write_31 rfl (lv_at hl 1 rfl) ?_
  refine va_get (D := G) (ci := 2) (v := .ref h1) (C := RX3) (T := TX3) (N := 4) hx hb hts iX3 hown hK hP 0 rfl rfl 2 (by decide) (hw (.fieldLink RX3 24 "MotionFloor$Ledger" "cells" "[I") (List.mem_of_getElem? (i := 2) rfl)) (fun _ h9 => h9) rfl dX3_write_32 ?_
  refine va_alen (v := 112) hx hb hK hP 1 0 rfl rfl (by decide) dX3_write_35 ?_
  refine lv_icmp_ge (tgt := 46) hx hb dX3_write_36 (by decide) (fun c_ => absurd c_ (by decide)) (fun _ => ?_)
  refine lv_aload_n hx hb dX3_write_39 rfl (lv_at hl 1 rfl) ?_
  refine va_get (D := G) (ci := 2) (v := .ref h1) (C := RX3) (T := TX3) (N := 4) hx hb hts iX3 hown hK hP 0 rfl rfl 2 (by decide) (hw (.fieldLink RX3 24 "MotionFloor$Ledger" "cells" "[I") (List.mem_of_getElem? (i := 2) rfl)) (fun _ h9 => h9) rfl dX3_write_40 ?_
  refine lv_iload_n hx hb dX3_write_43 rfl (lv_at hl 0 rfl) ?_
  refine lv_iload_n hx hb dX3_write_44 rfl (lv_at hl 3 rfl) ?_
  refine va_iast hx hb hK hP hD hS 1 0 rfl rfl (vp_in_iff.mpr (by decide)) dX3_write_45 (fun H locs hP hD hS => ?_)
  have hP : va_P G vwCl [(h0, .inr (2, [.int 7, .int 600, .ref h1, .int 1])), (h1, .inl (K 0, 112, .inl (upd (upd (upd (fun _ => 0) 0 10) 1 p0) 2 0)))] _ := hP
  have hD : va_D A [(h0, .inr (2, [.int 7, .int 600, .ref h1, .int 1])), (h1, .inl (K 0, 112, .inl (upd (upd (upd (fun _ => 0) 0 10) 1 p0) 2 0)))] := hD
  have hP9 : va_P G vwCl [(h0, .inr (2, [.int 7, .int 600, .ref h1, .int 1])), (h1, .inl (K 0, 112, .inl (upd (upd (upd (fun _ => 0) 0 10) 1 p0) 2 0)))] _ := hP
  have hD9 : va_D A [(h0, .inr (2, [.int 7, .int 600, .ref h1, .int 1])), (h1, .inl (K 0, 112, .inl (upd (upd (upd (fun _ => 0) 0 10) 1 p0) 2 0)))] := hD
  exact W.vret hx hb hr (fun t ht hW => ⟨⟨_, rfl, rfl, by rw [ht]; exact hP9, hD9⟩, hS.F ht⟩) hS.2.2 dX3_write_46
def e_X3_write_31 : List Cond := [.fieldLink RX3 28 "MotionFloor$Ledger" "size" "I", .fieldLink RX3 15 "MotionFloor$Ledger" "columns" "I", .fieldLink RX3 24 "MotionFloor$Ledger" "cells" "[I"]
def v_X3_write_31 : List Cond := .code yX3_write cX3_write 4 none :: (e_X3_write_31 ++ (wsX30 ++ []))
theorem te_X3_write_31 : GoodIn lw_tbl e_X3_write_31 := wGc z162 (wGc z38 (wGc z36 (wG0)))
theorem t_X3_write_31 : GoodIn lw_tbl v_X3_write_31 := wGc z194 (wGa te_X3_write_31 (wGa zcX3 (wG0)))
set_option maxHeartbeats 4000000 in
set_option maxRecDepth 100000 in
theorem m_X3_write_31 (l : Launch) (G : va_G) (K : Nat → ClassId) (h0 h1 : Nat) (p0 : Int32) (sz : Nat) (bp0 : 1 ≤ p0.toInt ∧ p0.toInt ≤ 8) : Met l yX3_write v_X3_write_31 ({ frames := 0, cells := 0, slots := 0, locals := 0 }) (va_Pc [.ref h0, .int 3, .int 0] (wS G K sz [(h0, .inr (2, [.int 7, .int 600, .ref h1, .int 1])), (h1, .inl (K 0, 112, .inl (upd (upd (upd (fun _ => 0) 0 10) 1 p0) 2 0)))])) (va_Qv (fun u : va_W => (u = [(h0, .inr (2, [.int 7, .int 600, .ref h1, .int 1])), (h1, .inl (K 0, 112, .inl (upd (upd (upd (upd (fun _ => 0) 0 10) 1 p0) 2 0) 3 0)))])) (wB G (va_A [(h0, .inr (2, [.int 7, .int 600, .ref h1, .int 1])), (h1, .inl (K 0, 112, .inl (upd (upd (upd (fun _ => 0) 0 10) 1 p0) 2 0)))] sz)) (va_A [(h0, .inr (2, [.int 7, .int 600, .ref h1, .int 1])), (h1, .inl (K 0, 112, .inl (upd (upd (upd (fun _ => 0) 0 10) 1 p0) 2 0)))] sz)) 0 0 (va_A [(h0, .inr (2, [.int 7, .int 600, .ref h1, .int 1])), (h1, .inl (K 0, 112, .inl (upd (upd (upd (fun _ => 0) 0 10) 1 p0) 2 0)))] sz) := by
  refine Met.ofW (cc := cX3_write) (maxL := 4) (ret := none) (by decide) rfl ?_
  intro p e s m args below meth c s₁ B hml hv
  obtain ⟨rfl, hsz, hP, hK, hD0, hE⟩ := hv
  have hx := B.exec
  have hb := B.bytes
  have hr := B.returns
  have hts := atoms_spec (ws := v_X3_write_31) B.pre
  have t_ := t_X3_write_31
  have mw : ∀ w ∈ e_X3_write_31, w ∈ v_X3_write_31 := fun w h => List.mem_cons_of_mem _ (List.mem_append_left _ h)
  have hw := fun w (h : w ∈ e_X3_write_31) => hts w (mw w h)
  have iX3 : ∀ w ∈ wsX30, w ∈ v_X3_write_31 := fun w h => List.mem_cons_of_mem _ (List.mem_append_right _ (List.mem_append_left _ h))
  have hown : s.vm.findClass RX3 = some m.cls := findClass_of_methodNamed B.named
  have hlocks := B.notSynchronized
  subst hsz
  have hD := hD0.self (sz := s.heap.size)
  generalize hAe : va_A [(h0, .inr (2, [.int 7, .int 600, .ref h1, .int 1])), (h1, .inl (K 0, 112, .inl (upd (upd (upd (fun _ => 0) 0 10) 1 p0) 2 0)))] s.heap.size = A at hD ⊢
  have hA : ∀ q : Nat, s.heap.size ≤ q → A q := fun q h => by rw [← hAe]; exact Or.inr h
  have hS : va_S A s.heap s.heap [] := va_S.rf
  have hP : va_P G vwCl [(h0, .inr (2, [.int 7, .int 600, .ref h1, .int 1])), (h1, .inl (K 0, 112, .inl (upd (upd (upd (fun _ => 0) 0 10) 1 p0) 2 0)))] s.heap := hP
  have hl := lv_entry ([.ref h0, .int 3, .int 0]) (n := 4) (Nat.le_of_ble_eq_true rfl)
  rw [lg_entry_eq]
  generalize (lg_sl ([.ref h0, .int 3, .int 0]) ++ List.replicate (4 - (lg_sl ([.ref h0, .int 3, .int 0])).length) Slot.unset).toArray = ls at hl ⊢
  have hl : lv_has ls 4 [(0, .ref h0), (1, .int 3), (2, .int 0)] := hl
  refine lv_aload_n hx hb dX3_write_0 rfl (lv_at hl 0 rfl) ?_
  refine va_get (D := G) (ci := 2) (v := .int 1) (C := RX3) (T := TX3) (N := 4) hx hb hts iX3 hown hK hP 0 rfl rfl 3 (by decide) (hw (.fieldLink RX3 28 "MotionFloor$Ledger" "size" "I") (List.mem_of_getElem? (i := 0) rfl)) (fun _ h9 => h9) rfl dX3_write_1 ?_
  refine lv_iconst (v := 1) hx hb dX3_write_4 (by decide) ?_
  refine lv_isub hx hb dX3_write_5 ?_
  refine wTop (v1 := .int 0) (congrArg Value.int (by decide)) ?_
  refine lv_aload_n hx hb dX3_write_6 rfl (lv_at hl 0 rfl) ?_
  refine va_get (D := G) (ci := 2) (v := .int 7) (C := RX3) (T := TX3) (N := 4) hx hb hts iX3 hown hK hP 0 rfl rfl 0 (by decide) (hw (.fieldLink RX3 15 "MotionFloor$Ledger" "columns" "I") (List.mem_of_getElem? (i := 1) rfl)) (fun _ h9 => h9) rfl dX3_write_7 ?_
  refine lv_imul hx hb dX3_write_10 ?_
  refine wTop (v1 := .int 0) (congrArg Value.int (by decide)) ?_
  refine lv_iload_n hx hb dX3_write_11 rfl (lv_at hl 1 rfl) ?_
  refine lv_iadd hx hb dX3_write_12 ?_
  refine wTop (v1 := .int 3) (congrArg Value.int (by decide)) ?_
  refine lv_istore_n (lv' := [(3, .int 3), (0, .ref h0), (1, .int 3), (2, .int 0)]) hx hb dX3_write_13 rfl hl (by decide) rfl (fun ls hl => ?_)
  refine lv_iload_n hx hb dX3_write_14 rfl (lv_at hl 2 rfl) ?_
  refine lv_if_lt (tgt := 46) hx hb dX3_write_15 (by decide) (fun c_ => absurd c_ (by decide)) (fun _ => ?_)
  refine lv_iload_n hx hb dX3_write_18 rfl (lv_at hl 2 rfl) ?_
  refine lv_aload_n hx hb dX3_write_19 rfl (lv_at hl 1 rfl) ?_
  refine va_get (D := G) (ci := 2) (v := .int 7) (C := RX3) (T := TX3) (N := 4) hx hb hts iX3 hown hK hP 0 rfl rfl 0 (by decide) (hw (.fieldLink RX3 15 "MotionFloor$Ledger" "columns" "I") (List.mem_of_getElem? (i := 1) rfl)) (fun _ h9 => h9) rfl dX3_write_20 ?_
  refine lv_icmp_ge (tgt := 46) hx hb dX3_write_23 (by decide) (fun c_ => absurd c_ (by decide)) (fun _ => ?_)
  refine lv_iload_n hx hb dX3_write_26 rfl (lv_at hl 0 rfl) ?_
  refine lv_if_lt (tgt := 46) hx hb dX3_write_27 (by decide) (fun c_ => absurd c_ (by decide)) (fun _ => ?_)
  refine lv_iload_n hx hb dX3_write_30 rfl (lv_at hl 0 rfl) ?_
  refine lv_aload_n hx hb dX3_write_31 rfl (lv_at hl 1 rfl) ?_
  refine va_get (D := G) (ci := 2) (v := .ref h1) (C := RX3) (T := TX3) (N := 4) hx hb hts iX3 hown hK hP 0 rfl rfl 2 (by decide) (hw (.fieldLink RX3 24 "MotionFloor$Ledger" "cells" "[I") (List.mem_of_getElem? (i := 2) rfl)) (fun _ h9 => h9) rfl dX3_write_32 ?_
  refine va_alen (v := 112) hx hb hK hP 1 0 rfl rfl (by decide) dX3_write_35 ?_
  refine lv_icmp_ge (tgt := 46) hx hb dX3_write_36 (by decide) (fun c_ => absurd c_ (by decide)) (fun _ => ?_)
  refine lv_aload_n hx hb dX3_write_39 rfl (lv_at hl 1 rfl) ?_
  refine va_get (D := G) (ci := 2) (v := .ref h1) (C := RX3) (T := TX3) (N := 4) hx hb hts iX3 hown hK hP 0 rfl rfl 2 (by decide) (hw (.fieldLink RX3 24 "MotionFloor$Ledger" "cells" "[I") (List.mem_of_getElem? (i := 2) rfl)) (fun _ h9 => h9) rfl dX3_write_40 ?_
  refine lv_iload_n hx hb dX3_write_43 rfl (lv_at hl 0 rfl) ?_
  refine lv_iload_n hx hb dX3_write_44 rfl (lv_at hl 3 rfl) ?_
  refine va_iast hx hb hK hP hD hS 1 0 rfl rfl (vp_in_iff.mpr (by decide)) dX3_write_45 (fun H locs hP hD hS => ?_)
  have hP : va_P G vwCl [(h0, .inr (2, [.int 7, .int 600, .ref h1, .int 1])), (h1, .inl (K 0, 112, .inl (upd (upd (upd (upd (fun _ => 0) 0 10) 1 p0) 2 0) 3 0)))] _ := hP
  have hD : va_D A [(h0, .inr (2, [.int 7, .int 600, .ref h1, .int 1])), (h1, .inl (K 0, 112, .inl (upd (upd (upd (upd (fun _ => 0) 0 10) 1 p0) 2 0) 3 0)))] := hD
  have hP9 : va_P G vwCl [(h0, .inr (2, [.int 7, .int 600, .ref h1, .int 1])), (h1, .inl (K 0, 112, .inl (upd (upd (upd (upd (fun _ => 0) 0 10) 1 p0) 2 0) 3 0)))] _ := hP
  have hD9 : va_D A [(h0, .inr (2, [.int 7, .int 600, .ref h1, .int 1])), (h1, .inl (K 0, 112, .inl (upd (upd (upd (upd (fun _ => 0) 0 10) 1 p0) 2 0) 3 0)))] := hD
  exact W.vret hx hb hr (fun t ht hW => ⟨⟨_, rfl, rfl, by rw [ht]; exact hP9, hD9⟩, hS.F ht⟩) hS.2.2 dX3_write_46
def e_X3_write_32 : List Cond := [.fieldLink RX3 28 "MotionFloor$Ledger" "size" "I", .fieldLink RX3 15 "MotionFloor$Ledger" "columns" "I", .fieldLink RX3 24 "MotionFloor$Ledger" "cells" "[I"]
def v_X3_write_32 : List Cond := .code yX3_write cX3_write 4 none :: (e_X3_write_32 ++ (wsX30 ++ []))
theorem te_X3_write_32 : GoodIn lw_tbl e_X3_write_32 := wGc z162 (wGc z38 (wGc z36 (wG0)))
theorem t_X3_write_32 : GoodIn lw_tbl v_X3_write_32 := wGc z194 (wGa te_X3_write_32 (wGa zcX3 (wG0)))
set_option maxHeartbeats 4000000 in
set_option maxRecDepth 100000 in
theorem m_X3_write_32 (l : Launch) (G : va_G) (K : Nat → ClassId) (h0 h1 : Nat) (p0 : Int32) (sz : Nat) (bp0 : 1 ≤ p0.toInt ∧ p0.toInt ≤ 8) : Met l yX3_write v_X3_write_32 ({ frames := 0, cells := 0, slots := 0, locals := 0 }) (va_Pc [.ref h0, .int 4, .int 0] (wS G K sz [(h0, .inr (2, [.int 7, .int 600, .ref h1, .int 1])), (h1, .inl (K 0, 112, .inl (upd (upd (upd (upd (fun _ => 0) 0 10) 1 p0) 2 0) 3 0)))])) (va_Qv (fun u : va_W => (u = [(h0, .inr (2, [.int 7, .int 600, .ref h1, .int 1])), (h1, .inl (K 0, 112, .inl (upd (upd (upd (upd (upd (fun _ => 0) 0 10) 1 p0) 2 0) 3 0) 4 0)))])) (wB G (va_A [(h0, .inr (2, [.int 7, .int 600, .ref h1, .int 1])), (h1, .inl (K 0, 112, .inl (upd (upd (upd (upd (fun _ => 0) 0 10) 1 p0) 2 0) 3 0)))] sz)) (va_A [(h0, .inr (2, [.int 7, .int 600, .ref h1, .int 1])), (h1, .inl (K 0, 112, .inl (upd (upd (upd (upd (fun _ => 0) 0 10) 1 p0) 2 0) 3 0)))] sz)) 0 0 (va_A [(h0, .inr (2, [.int 7, .int 600, .ref h1, .int 1])), (h1, .inl (K 0, 112, .inl (upd (upd (upd (upd (fun _ => 0) 0 10) 1 p0) 2 0) 3 0)))] sz) := by
  refine Met.ofW (cc := cX3_write) (maxL := 4) (ret := none) (by decide) rfl ?_
  intro p e s m args below meth c s₁ B hml hv
  obtain ⟨rfl, hsz, hP, hK, hD0, hE⟩ := hv
  have hx := B.exec
  have hb := B.bytes
  have hr := B.returns
  have hts := atoms_spec (ws := v_X3_write_32) B.pre
  have t_ := t_X3_write_32
  have mw : ∀ w ∈ e_X3_write_32, w ∈ v_X3_write_32 := fun w h => List.mem_cons_of_mem _ (List.mem_append_left _ h)
  have hw := fun w (h : w ∈ e_X3_write_32) => hts w (mw w h)
  have iX3 : ∀ w ∈ wsX30, w ∈ v_X3_write_32 := fun w h => List.mem_cons_of_mem _ (List.mem_append_right _ (List.mem_append_left _ h))
  have hown : s.vm.findClass RX3 = some m.cls := findClass_of_methodNamed B.named
  have hlocks := B.notSynchronized
  subst hsz
  have hD := hD0.self (sz := s.heap.size)
  generalize hAe : va_A [(h0, .inr (2, [.int 7, .int 600, .ref h1, .int 1])), (h1, .inl (K 0, 112, .inl (upd (upd (upd (upd (fun _ => 0) 0 10) 1 p0) 2 0) 3 0)))] s.heap.size = A at hD ⊢
  have hA : ∀ q : Nat, s.heap.size ≤ q → A q := fun q h => by rw [← hAe]; exact Or.inr h
  have hS : va_S A s.heap s.heap [] := va_S.rf
  have hP : va_P G vwCl [(h0, .inr (2, [.int 7, .int 600, .ref h1, .int 1])), (h1, .inl (K 0, 112, .inl (upd (upd (upd (upd (fun _ => 0) 0 10) 1 p0) 2 0) 3 0)))] s.heap := hP
  have hl := lv_entry ([.ref h0, .int 4, .int 0]) (n := 4) (Nat.le_of_ble_eq_true rfl)
  rw [lg_entry_eq]
  generalize (lg_sl ([.ref h0, .int 4, .int 0]) ++ List.replicate (4 - (lg_sl ([.ref h0, .int 4, .int 0])).length) Slot.unset).toArray = ls at hl ⊢
  have hl : lv_has ls 4 [(0, .ref h0), (1, .int 4), (2, .int 0)] := hl
  refine lv_aload_n hx hb dX3_write_0 rfl (lv_at hl 0 rfl) ?_
  refine va_get (D := G) (ci := 2) (v := .int 1) (C := RX3) (T := TX3) (N := 4) hx hb hts iX3 hown hK hP 0 rfl rfl 3 (by decide) (hw (.fieldLink RX3 28 "MotionFloor$Ledger" "size" "I") (List.mem_of_getElem? (i := 0) rfl)) (fun _ h9 => h9) rfl dX3_write_1 ?_
  refine lv_iconst (v := 1) hx hb dX3_write_4 (by decide) ?_
  refine lv_isub hx hb dX3_write_5 ?_
  refine wTop (v1 := .int 0) (congrArg Value.int (by decide)) ?_
  refine lv_aload_n hx hb dX3_write_6 rfl (lv_at hl 0 rfl) ?_
  refine va_get (D := G) (ci := 2) (v := .int 7) (C := RX3) (T := TX3) (N := 4) hx hb hts iX3 hown hK hP 0 rfl rfl 0 (by decide) (hw (.fieldLink RX3 15 "MotionFloor$Ledger" "columns" "I") (List.mem_of_getElem? (i := 1) rfl)) (fun _ h9 => h9) rfl dX3_write_7 ?_
  refine lv_imul hx hb dX3_write_10 ?_
  refine wTop (v1 := .int 0) (congrArg Value.int (by decide)) ?_
  refine lv_iload_n hx hb dX3_write_11 rfl (lv_at hl 1 rfl) ?_
  refine lv_iadd hx hb dX3_write_12 ?_
  refine wTop (v1 := .int 4) (congrArg Value.int (by decide)) ?_
  refine lv_istore_n (lv' := [(3, .int 4), (0, .ref h0), (1, .int 4), (2, .int 0)]) hx hb dX3_write_13 rfl hl (by decide) rfl (fun ls hl => ?_)
  refine lv_iload_n hx hb dX3_write_14 rfl (lv_at hl 2 rfl) ?_
  refine lv_if_lt (tgt := 46) hx hb dX3_write_15 (by decide) (fun c_ => absurd c_ (by decide)) (fun _ => ?_)
  refine lv_iload_n hx hb dX3_write_18 rfl (lv_at hl 2 rfl) ?_
  refine lv_aload_n hx hb dX3_write_19 rfl (lv_at hl 1 rfl) ?_
  refine va_get (D := G) (ci := 2) (v := .int 7) (C := RX3) (T := TX3) (N := 4) hx hb hts iX3 hown hK hP 0 rfl rfl 0 (by decide) (hw (.fieldLink RX3 15 "MotionFloor$Ledger" "columns" "I") (List.mem_of_getElem? (i := 1) rfl)) (fun _ h9 => h9) rfl dX3_write_20 ?_
  refine lv_icmp_ge (tgt := 46) hx hb dX3_write_23 (by decide) (fun c_ => absurd c_ (by decide)) (fun _ => ?_)
  refine lv_iload_n hx hb dX3_write_26 rfl (lv_at hl 0 rfl) ?_
  refine lv_if_lt (tgt := 46) hx hb dX3_write_27 (by decide) (fun c_ => absurd c_ (by decide)) (fun _ => ?_)
  refine lv_iload_n hx hb dX3_write_30 rfl (lv_at hl 0 rfl) ?_
  refine lv_aload_n hx hb dX3_write_31 rfl (lv_at hl 1 rfl) ?_
  refine va_get (D := G) (ci := 2) (v := .ref h1) (C := RX3) (T := TX3) (N := 4) hx hb hts iX3 hown hK hP 0 rfl rfl 2 (by decide) (hw (.fieldLink RX3 24 "MotionFloor$Ledger" "cells" "[I") (List.mem_of_getElem? (i := 2) rfl)) (fun _ h9 => h9) rfl dX3_write_32 ?_
  refine va_alen (v := 112) hx hb hK hP 1 0 rfl rfl (by decide) dX3_write_35 ?_
  refine lv_icmp_ge (tgt := 46) hx hb dX3_write_36 (by decide) (fun c_ => absurd c_ (by decide)) (fun _ => ?_)
  refine lv_aload_n hx hb dX3_write_39 rfl (lv_at hl 1 rfl) ?_
  refine va_get (D := G) (ci := 2) (v := .ref h1) (C := RX3) (T := TX3) (N := 4) hx hb hts iX3 hown hK hP 0 rfl rfl 2 (by decide) (hw (.fieldLink RX3 24 "MotionFloor$Ledger" "cells" "[I") (List.mem_of_getElem? (i := 2) rfl)) (fun _ h9 => h9) rfl dX3_write_40 ?_
  refine lv_iload_n hx hb dX3_write_43 rfl (lv_at hl 0 rfl) ?_
  refine lv_iload_n hx hb dX3_write_44 rfl (lv_at hl 3 rfl) ?_
  refine va_iast hx hb hK hP hD hS 1 0 rfl rfl (vp_in_iff.mpr (by decide)) dX3_write_45 (fun H locs hP hD hS => ?_)
  have hP : va_P G vwCl [(h0, .inr (2, [.int 7, .int 600, .ref h1, .int 1])), (h1, .inl (K 0, 112, .inl (upd (upd (upd (upd (upd (fun _ => 0) 0 10) 1 p0) 2 0) 3 0) 4 0)))] _ := hP
  have hD : va_D A [(h0, .inr (2, [.int 7, .int 600, .ref h1, .int 1])), (h1, .inl (K 0, 112, .inl (upd (upd (upd (upd (upd (fun _ => 0) 0 10) 1 p0) 2 0) 3 0) 4 0)))] := hD
  have hP9 : va_P G vwCl [(h0, .inr (2, [.int 7, .int 600, .ref h1, .int 1])), (h1, .inl (K 0, 112, .inl (upd (upd (upd (upd (upd (fun _ => 0) 0 10) 1 p0) 2 0) 3 0) 4 0)))] _ := hP
  have hD9 : va_D A [(h0, .inr (2, [.int 7, .int 600, .ref h1, .int 1])), (h1, .inl (K 0, 112, .inl (upd (upd (upd (upd (upd (fun _ => 0) 0 10) 1 p0) 2 0) 3 0) 4 0)))] := hD
  exact W.vret hx hb hr (fun t ht hW => ⟨⟨_, rfl, rfl, by rw [ht]; exact hP9, hD9⟩, hS.F ht⟩) hS.2.2 dX3_write_46
def e_X3_write_33 : List Cond := [.fieldLink RX3 28 "MotionFloor$Ledger" "size" "I", .fieldLink RX3 15 "MotionFloor$Ledger" "columns" "I", .fieldLink RX3 24 "MotionFloor$Ledger" "cells" "[I"]
def v_X3_write_33 : List Cond := .code yX3_write cX3_write 4 none :: (e_X3_write_33 ++ (wsX30 ++ []))
theorem te_X3_write_33 : GoodIn lw_tbl e_X3_write_33 := wGc z162 (wGc z38 (wGc z36 (wG0)))
theorem t_X3_write_33 : GoodIn lw_tbl v_X3_write_33 := wGc z194 (wGa te_X3_write_33 (wGa zcX3 (wG0)))
set_option maxHeartbeats 4000000 in
set_option maxRecDepth 100000 in
theorem m_X3_write_33 (l : Launch) (G : va_G) (K : Nat → ClassId) (h0 h1 : Nat) (p0 : Int32) (sz : Nat) (bp0 : 1 ≤ p0.toInt ∧ p0.toInt ≤ 8) : Met l yX3_write v_X3_write_33 ({ frames := 0, cells := 0, slots := 0, locals := 0 }) (va_Pc [.ref h0, .int 5, .int p0] (wS G K sz [(h0, .inr (2, [.int 7, .int 600, .ref h1, .int 1])), (h1, .inl (K 0, 112, .inl (upd (upd (upd (upd (upd (fun _ => 0) 0 10) 1 p0) 2 0) 3 0) 4 0)))])) (va_Qv (fun u : va_W => (u = [(h0, .inr (2, [.int 7, .int 600, .ref h1, .int 1])), (h1, .inl (K 0, 112, .inl (upd (upd (upd (upd (upd (upd (fun _ => 0) 0 10) 1 p0) 2 0) 3 0) 4 0) 5 p0)))])) (wB G (va_A [(h0, .inr (2, [.int 7, .int 600, .ref h1, .int 1])), (h1, .inl (K 0, 112, .inl (upd (upd (upd (upd (upd (fun _ => 0) 0 10) 1 p0) 2 0) 3 0) 4 0)))] sz)) (va_A [(h0, .inr (2, [.int 7, .int 600, .ref h1, .int 1])), (h1, .inl (K 0, 112, .inl (upd (upd (upd (upd (upd (fun _ => 0) 0 10) 1 p0) 2 0) 3 0) 4 0)))] sz)) 0 0 (va_A [(h0, .inr (2, [.int 7, .int 600, .ref h1, .int 1])), (h1, .inl (K 0, 112, .inl (upd (upd (upd (upd (upd (fun _ => 0) 0 10) 1 p0) 2 0) 3 0) 4 0)))] sz) := by
  refine Met.ofW (cc := cX3_write) (maxL := 4) (ret := none) (by decide) rfl ?_
  intro p e s m args below meth c s₁ B hml hv
  obtain ⟨rfl, hsz, hP, hK, hD0, hE⟩ := hv
  have hx := B.exec
  have hb := B.bytes
  have hr := B.returns
  have hts := atoms_spec (ws := v_X3_write_33) B.pre
  have t_ := t_X3_write_33
  have mw : ∀ w ∈ e_X3_write_33, w ∈ v_X3_write_33 := fun w h => List.mem_cons_of_mem _ (List.mem_append_left _ h)
  have hw := fun w (h : w ∈ e_X3_write_33) => hts w (mw w h)
  have iX3 : ∀ w ∈ wsX30, w ∈ v_X3_write_33 := fun w h => List.mem_cons_of_mem _ (List.mem_append_right _ (List.mem_append_left _ h))
  have hown : s.vm.findClass RX3 = some m.cls := findClass_of_methodNamed B.named
  have hlocks := B.notSynchronized
  subst hsz
  have hD := hD0.self (sz := s.heap.size)
  generalize hAe : va_A [(h0, .inr (2, [.int 7, .int 600, .ref h1, .int 1])), (h1, .inl (K 0, 112, .inl (upd (upd (upd (upd (upd (fun _ => 0) 0 10) 1 p0) 2 0) 3 0) 4 0)))] s.heap.size = A at hD ⊢
  have hA : ∀ q : Nat, s.heap.size ≤ q → A q := fun q h => by rw [← hAe]; exact Or.inr h
  have hS : va_S A s.heap s.heap [] := va_S.rf
  have hP : va_P G vwCl [(h0, .inr (2, [.int 7, .int 600, .ref h1, .int 1])), (h1, .inl (K 0, 112, .inl (upd (upd (upd (upd (upd (fun _ => 0) 0 10) 1 p0) 2 0) 3 0) 4 0)))] s.heap := hP
  have hl := lv_entry ([.ref h0, .int 5, .int p0]) (n := 4) (Nat.le_of_ble_eq_true rfl)
  rw [lg_entry_eq]
  generalize (lg_sl ([.ref h0, .int 5, .int p0]) ++ List.replicate (4 - (lg_sl ([.ref h0, .int 5, .int p0])).length) Slot.unset).toArray = ls at hl ⊢
  have hl : lv_has ls 4 [(0, .ref h0), (1, .int 5), (2, .int p0)] := hl
  refine lv_aload_n hx hb dX3_write_0 rfl (lv_at hl 0 rfl) ?_
  refine va_get (D := G) (ci := 2) (v := .int 1) (C := RX3) (T := TX3) (N := 4) hx hb hts iX3 hown hK hP 0 rfl rfl 3 (by decide) (hw (.fieldLink RX3 28 "MotionFloor$Ledger" "size" "I") (List.mem_of_getElem? (i := 0) rfl)) (fun _ h9 => h9) rfl dX3_write_1 ?_
  refine lv_iconst (v := 1) hx hb dX3_write_4 (by decide) ?_
  refine lv_isub hx hb dX3_write_5 ?_
  refine wTop (v1 := .int 0) (congrArg Value.int (by decide)) ?_
  refine lv_aload_n hx hb dX3_write_6 rfl (lv_at hl 0 rfl) ?_
  refine va_get (D := G) (ci := 2) (v := .int 7) (C := RX3) (T := TX3) (N := 4) hx hb hts iX3 hown hK hP 0 rfl rfl 0 (by decide) (hw (.fieldLink RX3 15 "MotionFloor$Ledger" "columns" "I") (List.mem_of_getElem? (i := 1) rfl)) (fun _ h9 => h9) rfl dX3_write_7 ?_
  refine lv_imul hx hb dX3_write_10 ?_
  refine wTop (v1 := .int 0) (congrArg Value.int (by decide)) ?_
  refine lv_iload_n hx hb dX3_write_11 rfl (lv_at hl 1 rfl) ?_
  refine lv_iadd hx hb dX3_write_12 ?_
  refine wTop (v1 := .int 5) (congrArg Value.int (by decide)) ?_
  refine lv_istore_n (lv' := [(3, .int 5), (0, .ref h0), (1, .int 5), (2, .int p0)]) hx hb dX3_write_13 rfl hl (by decide) rfl (fun ls hl => ?_)
  refine lv_iload_n hx hb dX3_write_14 rfl (lv_at hl 2 rfl) ?_
  refine lv_if_lt (tgt := 46) hx hb dX3_write_15 (by decide) (fun c_ => absurd c_ (by decide)) (fun _ => ?_)
  refine lv_iload_n hx hb dX3_write_18 rfl (lv_at hl 2 rfl) ?_
  refine lv_aload_n hx hb dX3_write_19 rfl (lv_at hl 1 rfl) ?_
  refine va_get (D := G) (ci := 2) (v := .int 7) (C := RX3) (T := TX3) (N := 4) hx hb hts iX3 hown hK hP 0 rfl rfl 0 (by decide) (hw (.fieldLink RX3 15 "MotionFloor$Ledger" "columns" "I") (List.mem_of_getElem? (i := 1) rfl)) (fun _ h9 => h9) rfl dX3_write_20 ?_
  refine lv_icmp_ge (tgt := 46) hx hb dX3_write_23 (by decide) (fun c_ => absurd c_ (by decide)) (fun _ => ?_)
  refine lv_iload_n hx hb dX3_write_26 rfl (lv_at hl 0 rfl) ?_
  refine lv_if_lt (tgt := 46) hx hb dX3_write_27 (by decide) (fun c_ => absurd c_ (by decide)) (fun _ => ?_)
  refine lv_iload_n hx hb dX3_write_30 rfl (lv_at hl 0 rfl) ?_
  refine lv_aload_n hx hb dX3_write_31 rfl (lv_at hl 1 rfl) ?_
  refine va_get (D := G) (ci := 2) (v := .ref h1) (C := RX3) (T := TX3) (N := 4) hx hb hts iX3 hown hK hP 0 rfl rfl 2 (by decide) (hw (.fieldLink RX3 24 "MotionFloor$Ledger" "cells" "[I") (List.mem_of_getElem? (i := 2) rfl)) (fun _ h9 => h9) rfl dX3_write_32 ?_
  refine va_alen (v := 112) hx hb hK hP 1 0 rfl rfl (by decide) dX3_write_35 ?_
  refine lv_icmp_ge (tgt := 46) hx hb dX3_write_36 (by decide) (fun c_ => absurd c_ (by decide)) (fun _ => ?_)
  refine lv_aload_n hx hb dX3_write_39 rfl (lv_at hl 1 rfl) ?_
  refine va_get (D := G) (ci := 2) (v := .ref h1) (C := RX3) (T := TX3) (N := 4) hx hb hts iX3 hown hK hP 0 rfl rfl 2 (by decide) (hw (.fieldLink RX3 24 "MotionFloor$Ledger" "cells" "[I") (List.mem_of_getElem? (i := 2) rfl)) (fun _ h9 => h9) rfl dX3_write_40 ?_
  refine lv_iload_n hx hb dX3_write_43 rfl (lv_at hl 0 rfl) ?_
  refine lv_iload_n hx hb dX3_write_44 rfl (lv_at hl 3 rfl) ?_
  refine va_iast hx hb hK hP hD hS 1 0 rfl rfl (vp_in_iff.mpr (by decide)) dX3_write_45 (fun H locs hP hD hS => ?_)
  have hP : va_P G vwCl [(h0, .inr (2, [.int 7, .int 600, .ref h1, .int 1])), (h1, .inl (K 0, 112, .inl (upd (upd (upd (upd (upd (upd (fun _ => 0) 0 10) 1 p0) 2 0) 3 0) 4 0) 5 p0)))] _ := hP
  have hD : va_D A [(h0, .inr (2, [.int 7, .int 600, .ref h1, .int 1])), (h1, .inl (K 0, 112, .inl (upd (upd (upd (upd (upd (upd (fun _ => 0) 0 10) 1 p0) 2 0) 3 0) 4 0) 5 p0)))] := hD
  have hP9 : va_P G vwCl [(h0, .inr (2, [.int 7, .int 600, .ref h1, .int 1])), (h1, .inl (K 0, 112, .inl (upd (upd (upd (upd (upd (upd (fun _ => 0) 0 10) 1 p0) 2 0) 3 0) 4 0) 5 p0)))] _ := hP
  have hD9 : va_D A [(h0, .inr (2, [.int 7, .int 600, .ref h1, .int 1])), (h1, .inl (K 0, 112, .inl (upd (upd (upd (upd (upd (upd (fun _ => 0) 0 10) 1 p0) 2 0) 3 0) 4 0) 5 p0)))] := hD
  exact W.vret hx hb hr (fun t ht hW => ⟨⟨_, rfl, rfl, by rw [ht]; exact hP9, hD9⟩, hS.F ht⟩) hS.2.2 dX3_write_46
def e_X3_write_34 : List Cond := [.fieldLink RX3 28 "MotionFloor$Ledger" "size" "I", .fieldLink RX3 15 "MotionFloor$Ledger" "columns" "I", .fieldLink RX3 24 "MotionFloor$Ledger" "cells" "[I"]
def v_X3_write_34 : List Cond := .code yX3_write cX3_write 4 none :: (e_X3_write_34 ++ (wsX30 ++ []))
theorem te_X3_write_34 : GoodIn lw_tbl e_X3_write_34 := wGc z162 (wGc z38 (wGc z36 (wG0)))
theorem t_X3_write_34 : GoodIn lw_tbl v_X3_write_34 := wGc z194 (wGa te_X3_write_34 (wGa zcX3 (wG0)))
set_option maxHeartbeats 4000000 in
set_option maxRecDepth 100000 in
theorem m_X3_write_34 (l : Launch) (G : va_G) (K : Nat → ClassId) (h0 h1 : Nat) (p0 : Int32) (sz : Nat) (bp0 : 1 ≤ p0.toInt ∧ p0.toInt ≤ 8) : Met l yX3_write v_X3_write_34 ({ frames := 0, cells := 0, slots := 0, locals := 0 }) (va_Pc [.ref h0, .int 6, .int 0] (wS G K sz [(h0, .inr (2, [.int 7, .int 600, .ref h1, .int 1])), (h1, .inl (K 0, 112, .inl (upd (upd (upd (upd (upd (upd (fun _ => 0) 0 10) 1 p0) 2 0) 3 0) 4 0) 5 p0)))])) (va_Qv (fun u : va_W => (u = [(h0, .inr (2, [.int 7, .int 600, .ref h1, .int 1])), (h1, .inl (K 0, 112, .inl (upd (upd (upd (upd (upd (upd (upd (fun _ => 0) 0 10) 1 p0) 2 0) 3 0) 4 0) 5 p0) 6 0)))])) (wB G (va_A [(h0, .inr (2, [.int 7, .int 600, .ref h1, .int 1])), (h1, .inl (K 0, 112, .inl (upd (upd (upd (upd (upd (upd (fun _ => 0) 0 10) 1 p0) 2 0) 3 0) 4 0) 5 p0)))] sz)) (va_A [(h0, .inr (2, [.int 7, .int 600, .ref h1, .int 1])), (h1, .inl (K 0, 112, .inl (upd (upd (upd (upd (upd (upd (fun _ => 0) 0 10) 1 p0) 2 0) 3 0) 4 0) 5 p0)))] sz)) 0 0 (va_A [(h0, .inr (2, [.int 7, .int 600, .ref h1, .int 1])), (h1, .inl (K 0, 112, .inl (upd (upd (upd (upd (upd (upd (fun _ => 0) 0 10) 1 p0) 2 0) 3 0) 4 0) 5 p0)))] sz) := by
  refine Met.ofW (cc := cX3_write) (maxL := 4) (ret := none) (by decide) rfl ?_
  intro p e s m args below meth c s₁ B hml hv
  obtain ⟨rfl, hsz, hP, hK, hD0, hE⟩ := hv
  have hx := B.exec
  have hb := B.bytes
  have hr := B.returns
  have hts := atoms_spec (ws := v_X3_write_34) B.pre
  have t_ := t_X3_write_34
  have mw : ∀ w ∈ e_X3_write_34, w ∈ v_X3_write_34 := fun w h => List.mem_cons_of_mem _ (List.mem_append_left _ h)
  have hw := fun w (h : w ∈ e_X3_write_34) => hts w (mw w h)
  have iX3 : ∀ w ∈ wsX30, w ∈ v_X3_write_34 := fun w h => List.mem_cons_of_mem _ (List.mem_append_right _ (List.mem_append_left _ h))
  have hown : s.vm.findClass RX3 = some m.cls := findClass_of_methodNamed B.named
  have hlocks := B.notSynchronized
  subst hsz
  have hD := hD0.self (sz := s.heap.size)
  generalize hAe : va_A [(h0, .inr (2, [.int 7, .int 600, .ref h1, .int 1])), (h1, .inl (K 0, 112, .inl (upd (upd (upd (upd (upd (upd (fun _ => 0) 0 10) 1 p0) 2 0) 3 0) 4 0) 5 p0)))] s.heap.size = A at hD ⊢
  have hA : ∀ q : Nat, s.heap.size ≤ q → A q := fun q h => by rw [← hAe]; exact Or.inr h
  have hS : va_S A s.heap s.heap [] := va_S.rf
  have hP : va_P G vwCl [(h0, .inr (2, [.int 7, .int 600, .ref h1, .int 1])), (h1, .inl (K 0, 112, .inl (upd (upd (upd (upd (upd (upd (fun _ => 0) 0 10) 1 p0) 2 0) 3 0) 4 0) 5 p0)))] s.heap := hP
  have hl := lv_entry ([.ref h0, .int 6, .int 0]) (n := 4) (Nat.le_of_ble_eq_true rfl)
  rw [lg_entry_eq]
  generalize (lg_sl ([.ref h0, .int 6, .int 0]) ++ List.replicate (4 - (lg_sl ([.ref h0, .int 6, .int 0])).length) Slot.unset).toArray = ls at hl ⊢
  have hl : lv_has ls 4 [(0, .ref h0), (1, .int 6), (2, .int 0)] := hl
  refine lv_aload_n hx hb dX3_write_0 rfl (lv_at hl 0 rfl) ?_
  refine va_get (D := G) (ci := 2) (v := .int 1) (C := RX3) (T := TX3) (N := 4) hx hb hts iX3 hown hK hP 0 rfl rfl 3 (by decide) (hw (.fieldLink RX3 28 "MotionFloor$Ledger" "size" "I") (List.mem_of_getElem? (i := 0) rfl)) (fun _ h9 => h9) rfl dX3_write_1 ?_
  refine lv_iconst (v := 1) hx hb dX3_write_4 (by decide) ?_
  refine lv_isub hx hb dX3_write_5 ?_
  refine wTop (v1 := .int 0) (congrArg Value.int (by decide)) ?_
  refine lv_aload_n hx hb dX3_write_6 rfl (lv_at hl 0 rfl) ?_
  refine va_get (D := G) (ci := 2) (v := .int 7) (C := RX3) (T := TX3) (N := 4) hx hb hts iX3 hown hK hP 0 rfl rfl 0 (by decide) (hw (.fieldLink RX3 15 "MotionFloor$Ledger" "columns" "I") (List.mem_of_getElem? (i := 1) rfl)) (fun _ h9 => h9) rfl dX3_write_7 ?_
  refine lv_imul hx hb dX3_write_10 ?_
  refine wTop (v1 := .int 0) (congrArg Value.int (by decide)) ?_
  refine lv_iload_n hx hb dX3_write_11 rfl (lv_at hl 1 rfl) ?_
  refine lv_iadd hx hb dX3_write_12 ?_
  refine wTop (v1 := .int 6) (congrArg Value.int (by decide)) ?_
  refine lv_istore_n (lv' := [(3, .int 6), (0, .ref h0), (1, .int 6), (2, .int 0)]) hx hb dX3_write_13 rfl hl (by decide) rfl (fun ls hl => ?_)
  refine lv_iload_n hx hb dX3_write_14 rfl (lv_at hl 2 rfl) ?_
  refine lv_if_lt (tgt := 46) hx hb dX3_write_15 (by decide) (fun c_ => absurd c_ (by decide)) (fun _ => ?_)
  refine lv_iload_n hx hb dX3_write_18 rfl (lv_at hl 2 rfl) ?_
  refine lv_aload_n hx hb dX3_write_19 rfl (lv_at hl 1 rfl) ?_
  refine va_get (D := G) (ci := 2) (v := .int 7) (C := RX3) (T := TX3) (N := 4) hx hb hts iX3 hown hK hP 0 rfl rfl 0 (by decide) (hw (.fieldLink RX3 15 "MotionFloor$Ledger" "columns" "I") (List.mem_of_getElem? (i := 1) rfl)) (fun _ h9 => h9) rfl dX3_write_20 ?_
  refine lv_icmp_ge (tgt := 46) hx hb dX3_write_23 (by decide) (fun c_ => absurd c_ (by decide)) (fun _ => ?_)
  refine lv_iload_n hx hb dX3_write_26 rfl (lv_at hl 0 rfl) ?_
  refine lv_if_lt (tgt := 46) hx hb dX3_write_27 (by decide) (fun c_ => absurd c_ (by decide)) (fun _ => ?_)
  refine lv_iload_n hx hb dX3_write_30 rfl (lv_at hl 0 rfl) ?_
  refine lv_aload_n hx hb dX3_write_31 rfl (lv_at hl 1 rfl) ?_
  refine va_get (D := G) (ci := 2) (v := .ref h1) (C := RX3) (T := TX3) (N := 4) hx hb hts iX3 hown hK hP 0 rfl rfl 2 (by decide) (hw (.fieldLink RX3 24 "MotionFloor$Ledger" "cells" "[I") (List.mem_of_getElem? (i := 2) rfl)) (fun _ h9 => h9) rfl dX3_write_32 ?_
  refine va_alen (v := 112) hx hb hK hP 1 0 rfl rfl (by decide) dX3_write_35 ?_
  refine lv_icmp_ge (tgt := 46) hx hb dX3_write_36 (by decide) (fun c_ => absurd c_ (by decide)) (fun _ => ?_)
  refine lv_aload_n hx hb dX3_write_39 rfl (lv_at hl 1 rfl) ?_
  refine va_get (D := G) (ci := 2) (v := .ref h1) (C := RX3) (T := TX3) (N := 4) hx hb hts iX3 hown hK hP 0 rfl rfl 2 (by decide) (hw (.fieldLink RX3 24 "MotionFloor$Ledger" "cells" "[I") (List.mem_of_getElem? (i := 2) rfl)) (fun _ h9 => h9) rfl dX3_write_40 ?_
  refine lv_iload_n hx hb dX3_write_43 rfl (lv_at hl 0 rfl) ?_
  refine lv_iload_n hx hb dX3_write_44 rfl (lv_at hl 3 rfl) ?_
  refine va_iast hx hb hK hP hD hS 1 0 rfl rfl (vp_in_iff.mpr (by decide)) dX3_write_45 (fun H locs hP hD hS => ?_)
  have hP : va_P G vwCl [(h0, .inr (2, [.int 7, .int 600, .ref h1, .int 1])), (h1, .inl (K 0, 112, .inl (upd (upd (upd (upd (upd (upd (upd (fun _ => 0) 0 10) 1 p0) 2 0) 3 0) 4 0) 5 p0) 6 0)))] _ := hP
  have hD : va_D A [(h0, .inr (2, [.int 7, .int 600, .ref h1, .int 1])), (h1, .inl (K 0, 112, .inl (upd (upd (upd (upd (upd (upd (upd (fun _ => 0) 0 10) 1 p0) 2 0) 3 0) 4 0) 5 p0) 6 0)))] := hD
  have hP9 : va_P G vwCl [(h0, .inr (2, [.int 7, .int 600, .ref h1, .int 1])), (h1, .inl (K 0, 112, .inl (upd (upd (upd (upd (upd (upd (upd (fun _ => 0) 0 10) 1 p0) 2 0) 3 0) 4 0) 5 p0) 6 0)))] _ := hP
  have hD9 : va_D A [(h0, .inr (2, [.int 7, .int 600, .ref h1, .int 1])), (h1, .inl (K 0, 112, .inl (upd (upd (upd (upd (upd (upd (upd (fun _ => 0) 0 10) 1 p0) 2 0) 3 0) 4 0) 5 p0) 6 0)))] := hD
  exact W.vret hx hb hr (fun t ht hW => ⟨⟨_, rfl, rfl, by rw [ht]; exact hP9, hD9⟩, hS.F ht⟩) hS.2.2 dX3_write_46
def e_X0_enact_9 : List Cond := [.methodLink RX0 155 yX8_against, .static yX8_against, .initialized RX8, .fieldLink RX0 73 "MotionFloor$Assembly" "reason" "I", .methodLink RX0 161 yX1_perform, .static yX1_perform, .initialized RX1, .fieldLink RX0 41 "MotionFloor$Assembly" "minutes" "LMotionFloor$Ledger;", .methodLink RX0 166 yX3_open, .instanceMethod yX3_open, .selects RX3 yX3_open yX3_open, .initialized RX3, .methodLink RX0 169 yX3_write, .instanceMethod yX3_write, .selects RX3 yX3_write yX3_write, .fieldLink RX0 21 "MotionFloor$Assembly" "pending" "LMotionFloor$Pile;", .fieldLink RX0 96 "MotionFloor$Pile" "size" "I"]
def v_X0_enact_9 : List Cond := .code yX0_enact cX0_enact 7 (some .int) :: (e_X0_enact_9 ++ (wsX00 ++ (wsX50 ++ (v_X8_against_9 ++ (v_X1_perform_4 ++ (v_X3_open_0 ++ (v_X3_write_28 ++ (v_X3_write_29 ++ (v_X3_write_30 ++ (v_X3_write_31 ++ (v_X3_write_32 ++ (v_X3_write_33 ++ (v_X3_write_34 ++ [])))))))))))))
theorem te_X0_enact_9 : GoodIn lw_tbl e_X0_enact_9 := wGc z205 (wGc z204 (wGc z157 (wGc z135 (wGc z203 (wGc z202 (wGc z201 (wGc z86 (wGc z200 (wGc z199 (wGc z198 (wGc z89 (wGc z197 (wGc z196 (wGc z195 (wGc z98 (wGc z123 (wG0)))))))))))))))))
theorem t_X0_enact_9 : GoodIn lw_tbl v_X0_enact_9 := wGc z206 (wGa te_X0_enact_9 (wGa zcX0 (wGa zcX5 (wGa t_X8_against_9 (wGa t_X1_perform_4 (wGa t_X3_open_0 (wGa t_X3_write_28 (wGa t_X3_write_29 (wGa t_X3_write_30 (wGa t_X3_write_31 (wGa t_X3_write_32 (wGa t_X3_write_33 (wGa t_X3_write_34 (wG0))))))))))))))
set_option maxHeartbeats 4000000 in
set_option maxRecDepth 100000 in
theorem m_X0_enact_9 (l : Launch) (G : va_G) (K : Nat → ClassId) (h0 h1 h2 h3 h4 h5 h6 h7 h8 h9 h10 h11 : Nat) (p0 : Int32) (sz : Nat) : Met l yX0_enact v_X0_enact_9 ({ frames := 6, cells := 4, slots := 618, locals := 121 }) (va_Pc [.ref h0, .int 10, .int p0, .int 0, .int 0, .int 0] (wS G K sz [(h0, .inr (0, [.ref h7, .ref h1, .ref h2, .ref h8, .ref h3, .ref h9, .ref h10, .int 0, .int 0, .int 0, .null])), (h1, .inr (4, [.ref h11, .int 0])), (h2, .inr (5, [.int 0, .ref h4])), (h3, .inr (2, [.int 7, .int 600, .ref h5, .int 0])), (h4, .inr (4, [.ref h6, .int 0])), (h5, .inl (K 0, 112, .inl (fun _ => 0))), (h6, .inl (K 3, 9, .inr (.inr (.inr (.inr (fun _ => none))))))])) (va_Qi (fun (r : Int32) (u : va_W) => ((((p0.toInt < 1 ∨ (p0.toInt ≥ 1 ∧ p0.toInt > 8)))) ∧ r = (-9) ∧ u = [(h0, .inr (0, [.ref h7, .ref h1, .ref h2, .ref h8, .ref h3, .ref h9, .ref h10, .int 0, .int 0, .int 9, .null])), (h1, .inr (4, [.ref h11, .int 0])), (h2, .inr (5, [.int 0, .ref h4])), (h3, .inr (2, [.int 7, .int 600, .ref h5, .int 0])), (h4, .inr (4, [.ref h6, .int 0])), (h5, .inl (K 0, 112, .inl (fun _ => 0))), (h6, .inl (K 3, 9, .inr (.inr (.inr (.inr (fun _ => none))))))]) ∨ (∃ n0 n1 n2 n3 : Nat, ((((p0.toInt ≥ 1 ∧ p0.toInt ≤ 8)))) ∧ r = p0 ∧ u = [(h0, .inr (0, [.ref h7, .ref h1, .ref h2, .ref h8, .ref h3, .ref h9, .ref h10, .int 0, .int 0, .int 0, .null])), (h1, .inr (4, [.ref h11, .int 0])), (h2, .inr (5, [.int 2, .ref h4])), (h3, .inr (2, [.int 7, .int 600, .ref h5, .int 1])), (h4, .inr (4, [.ref h6, .int 1])), (h5, .inl (K 0, 112, .inl (upd (upd (upd (upd (upd (upd (upd (fun _ => 0) 0 10) 1 p0) 2 0) 3 0) 4 0) 5 p0) 6 0))), (h6, .inl (K 3, 9, .inr (.inr (.inr (.inr (va_up (fun _ => none) 0 (some n3))))))), (n0, .inl (K 0, 400, .inl (fun _ => 0))), (n1, .inl (K 2, 200, .inl (fun _ => 0))), (n2, .inr (6, [.ref n0, .int 0])), (n3, .inr (3, [.int 0, .int 0, .int p0, .int (-1), .int (-1), .int 0, .int 0, .int 0, .int 0, .int 0, .int 0, .int 0, .ref n2, .ref n1, .int 0, .null]))])) (wB G (va_A [(h0, .inr (0, [.ref h7, .ref h1, .ref h2, .ref h8, .ref h3, .ref h9, .ref h10, .int 0, .int 0, .int 0, .null])), (h1, .inr (4, [.ref h11, .int 0])), (h2, .inr (5, [.int 0, .ref h4])), (h3, .inr (2, [.int 7, .int 600, .ref h5, .int 0])), (h4, .inr (4, [.ref h6, .int 0])), (h5, .inl (K 0, 112, .inl (fun _ => 0))), (h6, .inl (K 3, 9, .inr (.inr (.inr (.inr (fun _ => none))))))] sz)) (va_A [(h0, .inr (0, [.ref h7, .ref h1, .ref h2, .ref h8, .ref h3, .ref h9, .ref h10, .int 0, .int 0, .int 0, .null])), (h1, .inr (4, [.ref h11, .int 0])), (h2, .inr (5, [.int 0, .ref h4])), (h3, .inr (2, [.int 7, .int 600, .ref h5, .int 0])), (h4, .inr (4, [.ref h6, .int 0])), (h5, .inl (K 0, 112, .inl (fun _ => 0))), (h6, .inl (K 3, 9, .inr (.inr (.inr (.inr (fun _ => none))))))] sz)) 4 618 (va_A [(h0, .inr (0, [.ref h7, .ref h1, .ref h2, .ref h8, .ref h3, .ref h9, .ref h10, .int 0, .int 0, .int 0, .null])), (h1, .inr (4, [.ref h11, .int 0])), (h2, .inr (5, [.int 0, .ref h4])), (h3, .inr (2, [.int 7, .int 600, .ref h5, .int 0])), (h4, .inr (4, [.ref h6, .int 0])), (h5, .inl (K 0, 112, .inl (fun _ => 0))), (h6, .inl (K 3, 9, .inr (.inr (.inr (.inr (fun _ => none))))))] sz) := by
  refine Met.ofW (cc := cX0_enact) (maxL := 7) (ret := (some .int)) (by decide) rfl ?_
  intro p e s m args below meth c s₁ B hml hv
  obtain ⟨rfl, hsz, hP, hK, hD0, hE⟩ := hv
  have hx := B.exec
  have hb := B.bytes
  have hr := B.returns
  have hts := atoms_spec (ws := v_X0_enact_9) B.pre
  have t_ := t_X0_enact_9
  have mw : ∀ w ∈ e_X0_enact_9, w ∈ v_X0_enact_9 := fun w h => List.mem_cons_of_mem _ (List.mem_append_left _ h)
  have hw := fun w (h : w ∈ e_X0_enact_9) => hts w (mw w h)
  have iX0 : ∀ w ∈ wsX00, w ∈ v_X0_enact_9 := fun w h => List.mem_cons_of_mem _ (List.mem_append_right _ (List.mem_append_left _ h))
  have iX5 : ∀ w ∈ wsX50, w ∈ v_X0_enact_9 := fun w h => List.mem_cons_of_mem _ (List.mem_append_right _ (List.mem_append_right _ (List.mem_append_left _ h)))
  have j_X8_against_9 : ∀ w ∈ v_X8_against_9, w ∈ v_X0_enact_9 := fun w h => List.mem_cons_of_mem _ (List.mem_append_right _ (List.mem_append_right _ (List.mem_append_right _ (List.mem_append_left _ h))))
  have j_X1_perform_4 : ∀ w ∈ v_X1_perform_4, w ∈ v_X0_enact_9 := fun w h => List.mem_cons_of_mem _ (List.mem_append_right _ (List.mem_append_right _ (List.mem_append_right _ (List.mem_append_right _ (List.mem_append_left _ h)))))
  have j_X3_open_0 : ∀ w ∈ v_X3_open_0, w ∈ v_X0_enact_9 := fun w h => List.mem_cons_of_mem _ (List.mem_append_right _ (List.mem_append_right _ (List.mem_append_right _ (List.mem_append_right _ (List.mem_append_right _ (List.mem_append_left _ h))))))
  have j_X3_write_28 : ∀ w ∈ v_X3_write_28, w ∈ v_X0_enact_9 := fun w h => List.mem_cons_of_mem _ (List.mem_append_right _ (List.mem_append_right _ (List.mem_append_right _ (List.mem_append_right _ (List.mem_append_right _ (List.mem_append_right _ (List.mem_append_left _ h)))))))
  have j_X3_write_29 : ∀ w ∈ v_X3_write_29, w ∈ v_X0_enact_9 := fun w h => List.mem_cons_of_mem _ (List.mem_append_right _ (List.mem_append_right _ (List.mem_append_right _ (List.mem_append_right _ (List.mem_append_right _ (List.mem_append_right _ (List.mem_append_right _ (List.mem_append_left _ h))))))))
  have j_X3_write_30 : ∀ w ∈ v_X3_write_30, w ∈ v_X0_enact_9 := fun w h => List.mem_cons_of_mem _ (List.mem_append_right _ (List.mem_append_right _ (List.mem_append_right _ (List.mem_append_right _ (List.mem_append_right _ (List.mem_append_right _ (List.mem_append_right _ (List.mem_append_right _ (List.mem_append_left _ h)))))))))
  have j_X3_write_31 : ∀ w ∈ v_X3_write_31, w ∈ v_X0_enact_9 := fun w h => List.mem_cons_of_mem _ (List.mem_append_right _ (List.mem_append_right _ (List.mem_append_right _ (List.mem_append_right _ (List.mem_append_right _ (List.mem_append_right _ (List.mem_append_right _ (List.mem_append_right _ (List.mem_append_right _ (List.mem_append_left _ h))))))))))
  have j_X3_write_32 : ∀ w ∈ v_X3_write_32, w ∈ v_X0_enact_9 := fun w h => List.mem_cons_of_mem _ (List.mem_append_right _ (List.mem_append_right _ (List.mem_append_right _ (List.mem_append_right _ (List.mem_append_right _ (List.mem_append_right _ (List.mem_append_right _ (List.mem_append_right _ (List.mem_append_right _ (List.mem_append_right _ (List.mem_append_left _ h)))))))))))
  have j_X3_write_33 : ∀ w ∈ v_X3_write_33, w ∈ v_X0_enact_9 := fun w h => List.mem_cons_of_mem _ (List.mem_append_right _ (List.mem_append_right _ (List.mem_append_right _ (List.mem_append_right _ (List.mem_append_right _ (List.mem_append_right _ (List.mem_append_right _ (List.mem_append_right _ (List.mem_append_right _ (List.mem_append_right _ (List.mem_append_right _ (List.mem_append_left _ h))))))))))))
  have j_X3_write_34 : ∀ w ∈ v_X3_write_34, w ∈ v_X0_enact_9 := fun w h => List.mem_cons_of_mem _ (List.mem_append_right _ (List.mem_append_right _ (List.mem_append_right _ (List.mem_append_right _ (List.mem_append_right _ (List.mem_append_right _ (List.mem_append_right _ (List.mem_append_right _ (List.mem_append_right _ (List.mem_append_right _ (List.mem_append_right _ (List.mem_append_right _ (List.mem_append_left _ h)))))))))))))
  have hown : s.vm.findClass RX0 = some m.cls := findClass_of_methodNamed B.named
  have hlocks := B.notSynchronized
  subst hsz
  have hD := hD0.self (sz := s.heap.size)
  generalize hAe : va_A [(h0, .inr (0, [.ref h7, .ref h1, .ref h2, .ref h8, .ref h3, .ref h9, .ref h10, .int 0, .int 0, .int 0, .null])), (h1, .inr (4, [.ref h11, .int 0])), (h2, .inr (5, [.int 0, .ref h4])), (h3, .inr (2, [.int 7, .int 600, .ref h5, .int 0])), (h4, .inr (4, [.ref h6, .int 0])), (h5, .inl (K 0, 112, .inl (fun _ => 0))), (h6, .inl (K 3, 9, .inr (.inr (.inr (.inr (fun _ => none))))))] s.heap.size = A at hD ⊢
  have hA : ∀ q : Nat, s.heap.size ≤ q → A q := fun q h => by rw [← hAe]; exact Or.inr h
  have hS : va_S A s.heap s.heap [] := va_S.rf
  have hP : va_P G vwCl [(h0, .inr (0, [.ref h7, .ref h1, .ref h2, .ref h8, .ref h3, .ref h9, .ref h10, .int 0, .int 0, .int 0, .null])), (h1, .inr (4, [.ref h11, .int 0])), (h2, .inr (5, [.int 0, .ref h4])), (h3, .inr (2, [.int 7, .int 600, .ref h5, .int 0])), (h4, .inr (4, [.ref h6, .int 0])), (h5, .inl (K 0, 112, .inl (fun _ => 0))), (h6, .inl (K 3, 9, .inr (.inr (.inr (.inr (fun _ => none))))))] s.heap := hP
  have hl := lv_entry ([.ref h0, .int 10, .int p0, .int 0, .int 0, .int 0]) (n := 7) (Nat.le_of_ble_eq_true rfl)
  rw [lg_entry_eq]
  generalize (lg_sl ([.ref h0, .int 10, .int p0, .int 0, .int 0, .int 0]) ++ List.replicate (7 - (lg_sl ([.ref h0, .int 10, .int p0, .int 0, .int 0, .int 0])).length) Slot.unset).toArray = ls at hl ⊢
  have hl : lv_has ls 7 [(0, .ref h0), (1, .int 10), (2, .int p0), (3, .int 0), (4, .int 0), (5, .int 0)] := hl
  refine lv_aload_n hx hb dX0_enact_0 rfl (lv_at hl 0 rfl) ?_
  refine lv_aload_n hx hb dX0_enact_1 rfl (lv_at hl 0 rfl) ?_
  refine lv_iload_n hx hb dX0_enact_2 rfl (lv_at hl 1 rfl) ?_
  refine lv_iload_n hx hb dX0_enact_3 rfl (lv_at hl 2 rfl) ?_
  refine lv_iload_n hx hb dX0_enact_4 rfl (lv_at hl 3 rfl) ?_
  refine lv_iload hx hb dX0_enact_5 (lv_at hl 4 rfl) ?_
  refine lv_iload hx hb dX0_enact_7 (lv_at hl 5 rfl) ?_
  have hPc := hP.sub (ws' := [(h0, .inr (0, [.ref h7, .ref h1, .ref h2, .ref h8, .ref h3, .ref h9, .ref h10, .int 0, .int 0, .int 0, .null])), (h3, .inr (2, [.int 7, .int 600, .ref h5, .int 0]))]) [0, 3] rfl
  have hDc := hD.sub (ws' := [(h0, .inr (0, [.ref h7, .ref h1, .ref h2, .ref h8, .ref h3, .ref h9, .ref h10, .int 0, .int 0, .int 0, .null])), (h3, .inr (2, [.int 7, .int 600, .ref h5, .int 0]))]) [0, 3] (by decide) rfl
  refine wGoi (wc := [(h0, .inr (0, [.ref h7, .ref h1, .ref h2, .ref h8, .ref h3, .ref h9, .ref h10, .int 0, .int 0, .int 0, .null])), (h3, .inr (2, [.int 7, .int 600, .ref h5, .int 0]))]) (wr := [(h1, .inr (4, [.ref h11, .int 0])), (h2, .inr (5, [.int 0, .ref h4])), (h4, .inr (4, [.ref h6, .int 0])), (h5, .inl (K 0, 112, .inl (fun _ => 0))), (h6, .inl (K 3, 9, .inr (.inr (.inr (.inr (fun _ => none))))))]) (va_runS (As := [.ref h0, .int 10, .int p0, .int 0, .int 0, .int 0]) (rest := [.ref h0]) ⟨hx, hb, hml, hown, hts⟩ (m_X8_against_9 l G K h0 h3 h7 h1 h2 h8 h9 h10 h5 p0 _) (va_cwS 6 hts (wGS t_ (mw (.methodLink RX0 155 yX8_against) (List.mem_of_getElem? (i := 0) rfl)) (mw (.static yX8_against) (List.mem_of_getElem? (i := 1) rfl)) (mw (.initialized RX8) (List.mem_of_getElem? (i := 2) rfl)) j_X8_against_9) rfl rfl rfl (by decide +kernel) ⟨Nat.le_of_ble_eq_true rfl, Nat.le_of_ble_eq_true rfl⟩) (wPS hK hE hPc hDc) rfl rfl hl.1 rfl (lv_room (Nat.le_of_ble_eq_true rfl)) dX0_enact_9 ⟨Nat.le_of_ble_eq_true rfl, Nat.le_of_ble_eq_true rfl⟩) hP hD hS hA [0, 3] [1, 2, 4, 5, 6] rfl rfl rfl (by decide) (fun r u H locs hw hP hD hS => ?_)
  rcases hw with ⟨c_w, rfl, rfl⟩ | ⟨c_w, rfl, rfl⟩
  · have c1 := c_w
    have hP : va_P G vwCl [(h1, .inr (4, [.ref h11, .int 0])), (h2, .inr (5, [.int 0, .ref h4])), (h4, .inr (4, [.ref h6, .int 0])), (h5, .inl (K 0, 112, .inl (fun _ => 0))), (h6, .inl (K 3, 9, .inr (.inr (.inr (.inr (fun _ => none)))))), (h0, .inr (0, [.ref h7, .ref h1, .ref h2, .ref h8, .ref h3, .ref h9, .ref h10, .int 0, .int 0, .int 0, .null])), (h3, .inr (2, [.int 7, .int 600, .ref h5, .int 0]))] _ := hP
    have hD : va_D A [(h1, .inr (4, [.ref h11, .int 0])), (h2, .inr (5, [.int 0, .ref h4])), (h4, .inr (4, [.ref h6, .int 0])), (h5, .inl (K 0, 112, .inl (fun _ => 0))), (h6, .inl (K 3, 9, .inr (.inr (.inr (.inr (fun _ => none)))))), (h0, .inr (0, [.ref h7, .ref h1, .ref h2, .ref h8, .ref h3, .ref h9, .ref h10, .int 0, .int 0, .int 0, .null])), (h3, .inr (2, [.int 7, .int 600, .ref h5, .int 0]))] := hD
    refine va_put (D := G) (ci := 0) (v := .int 9) (ty := .int) (C := RX0) (T := TX0) (N := 11) hx hb hts iX0 tyX0 tyX0_ok nmX0 hown hK hP hD hS 5 rfl rfl 9 (by decide) (hw (.fieldLink RX0 73 "MotionFloor$Assembly" "reason" "I") (List.mem_of_getElem? (i := 3) rfl)) (fun _ h9 => h9) rfl (by decide +kernel) rfl rfl (Nat.le_of_ble_eq_true rfl) dX0_enact_12 (fun H locs hP hD hS => ?_)
    have hP : va_P G vwCl [(h1, .inr (4, [.ref h11, .int 0])), (h2, .inr (5, [.int 0, .ref h4])), (h4, .inr (4, [.ref h6, .int 0])), (h5, .inl (K 0, 112, .inl (fun _ => 0))), (h6, .inl (K 3, 9, .inr (.inr (.inr (.inr (fun _ => none)))))), (h0, .inr (0, [.ref h7, .ref h1, .ref h2, .ref h8, .ref h3, .ref h9, .ref h10, .int 0, .int 0, .int 9, .null])), (h3, .inr (2, [.int 7, .int 600, .ref h5, .int 0]))] _ := hP
    have hD : va_D A [(h1, .inr (4, [.ref h11, .int 0])), (h2, .inr (5, [.int 0, .ref h4])), (h4, .inr (4, [.ref h6, .int 0])), (h5, .inl (K 0, 112, .inl (fun _ => 0))), (h6, .inl (K 3, 9, .inr (.inr (.inr (.inr (fun _ => none)))))), (h0, .inr (0, [.ref h7, .ref h1, .ref h2, .ref h8, .ref h3, .ref h9, .ref h10, .int 0, .int 0, .int 9, .null])), (h3, .inr (2, [.int 7, .int 600, .ref h5, .int 0]))] := hD
    refine lv_aload_n hx hb dX0_enact_15 rfl (lv_at hl 0 rfl) ?_
    refine va_get (D := G) (ci := 0) (v := .int 9) (C := RX0) (T := TX0) (N := 11) hx hb hts iX0 hown hK hP 5 rfl rfl 9 (by decide) (hw (.fieldLink RX0 73 "MotionFloor$Assembly" "reason" "I") (List.mem_of_getElem? (i := 3) rfl)) (fun _ h9 => h9) rfl dX0_enact_16 ?_
    refine lv_if_eq (tgt := 28) hx hb dX0_enact_19 (by decide) (fun c_ => absurd c_ (by decide)) (fun _ => ?_)
    refine lv_aload_n hx hb dX0_enact_22 rfl (lv_at hl 0 rfl) ?_
    refine va_get (D := G) (ci := 0) (v := .int 9) (C := RX0) (T := TX0) (N := 11) hx hb hts iX0 hown hK hP 5 rfl rfl 9 (by decide) (hw (.fieldLink RX0 73 "MotionFloor$Assembly" "reason" "I") (List.mem_of_getElem? (i := 3) rfl)) (fun _ h9 => h9) rfl dX0_enact_23 ?_
    refine lv_ineg hx hb dX0_enact_26 ?_
    refine wTop (v1 := .int (-9)) (congrArg Value.int (by decide)) ?_
    have hP9 := hP.sub (ws' := [(h0, .inr (0, [.ref h7, .ref h1, .ref h2, .ref h8, .ref h3, .ref h9, .ref h10, .int 0, .int 0, .int 9, .null])), (h1, .inr (4, [.ref h11, .int 0])), (h2, .inr (5, [.int 0, .ref h4])), (h3, .inr (2, [.int 7, .int 600, .ref h5, .int 0])), (h4, .inr (4, [.ref h6, .int 0])), (h5, .inl (K 0, 112, .inl (fun _ => 0))), (h6, .inl (K 3, 9, .inr (.inr (.inr (.inr (fun _ => none))))))]) [5, 0, 1, 6, 2, 3, 4] rfl
    have hD9 := hD.sub (ws' := [(h0, .inr (0, [.ref h7, .ref h1, .ref h2, .ref h8, .ref h3, .ref h9, .ref h10, .int 0, .int 0, .int 9, .null])), (h1, .inr (4, [.ref h11, .int 0])), (h2, .inr (5, [.int 0, .ref h4])), (h3, .inr (2, [.int 7, .int 600, .ref h5, .int 0])), (h4, .inr (4, [.ref h6, .int 0])), (h5, .inl (K 0, 112, .inl (fun _ => 0))), (h6, .inl (K 3, 9, .inr (.inr (.inr (.inr (fun _ => none))))))]) [5, 0, 1, 6, 2, 3, 4] (by decide) rfl
    refine W.widen (k := 4) (n := 618) (Nat.le_of_ble_eq_true rfl) (Nat.le_of_ble_eq_true rfl) ?_
    exact W.iret (v := (-9)) hx hb hr (fun t ht hW => ⟨⟨(-9), _, rfl, Or.inl ⟨(by first | omega | decide | simp), rfl, rfl⟩, by rw [ht]; exact hP9, hD9⟩, hS.F ht⟩) hS.2.2 dX0_enact_27
  · have c2 := c_w
    have hP : va_P G vwCl [(h1, .inr (4, [.ref h11, .int 0])), (h2, .inr (5, [.int 0, .ref h4])), (h4, .inr (4, [.ref h6, .int 0])), (h5, .inl (K 0, 112, .inl (fun _ => 0))), (h6, .inl (K 3, 9, .inr (.inr (.inr (.inr (fun _ => none)))))), (h0, .inr (0, [.ref h7, .ref h1, .ref h2, .ref h8, .ref h3, .ref h9, .ref h10, .int 0, .int 0, .int 0, .null])), (h3, .inr (2, [.int 7, .int 600, .ref h5, .int 0]))] _ := hP
    have hD : va_D A [(h1, .inr (4, [.ref h11, .int 0])), (h2, .inr (5, [.int 0, .ref h4])), (h4, .inr (4, [.ref h6, .int 0])), (h5, .inl (K 0, 112, .inl (fun _ => 0))), (h6, .inl (K 3, 9, .inr (.inr (.inr (.inr (fun _ => none)))))), (h0, .inr (0, [.ref h7, .ref h1, .ref h2, .ref h8, .ref h3, .ref h9, .ref h10, .int 0, .int 0, .int 0, .null])), (h3, .inr (2, [.int 7, .int 600, .ref h5, .int 0]))] := hD
    refine va_put (D := G) (ci := 0) (v := .int 0) (ty := .int) (C := RX0) (T := TX0) (N := 11) hx hb hts iX0 tyX0 tyX0_ok nmX0 hown hK hP hD hS 5 rfl rfl 9 (by decide) (hw (.fieldLink RX0 73 "MotionFloor$Assembly" "reason" "I") (List.mem_of_getElem? (i := 3) rfl)) (fun _ h9 => h9) rfl (by decide +kernel) rfl rfl (Nat.le_of_ble_eq_true rfl) dX0_enact_12 (fun H locs hP hD hS => ?_)
    have hP : va_P G vwCl [(h1, .inr (4, [.ref h11, .int 0])), (h2, .inr (5, [.int 0, .ref h4])), (h4, .inr (4, [.ref h6, .int 0])), (h5, .inl (K 0, 112, .inl (fun _ => 0))), (h6, .inl (K 3, 9, .inr (.inr (.inr (.inr (fun _ => none)))))), (h0, .inr (0, [.ref h7, .ref h1, .ref h2, .ref h8, .ref h3, .ref h9, .ref h10, .int 0, .int 0, .int 0, .null])), (h3, .inr (2, [.int 7, .int 600, .ref h5, .int 0]))] _ := hP
    have hD : va_D A [(h1, .inr (4, [.ref h11, .int 0])), (h2, .inr (5, [.int 0, .ref h4])), (h4, .inr (4, [.ref h6, .int 0])), (h5, .inl (K 0, 112, .inl (fun _ => 0))), (h6, .inl (K 3, 9, .inr (.inr (.inr (.inr (fun _ => none)))))), (h0, .inr (0, [.ref h7, .ref h1, .ref h2, .ref h8, .ref h3, .ref h9, .ref h10, .int 0, .int 0, .int 0, .null])), (h3, .inr (2, [.int 7, .int 600, .ref h5, .int 0]))] := hD
    refine lv_aload_n hx hb dX0_enact_15 rfl (lv_at hl 0 rfl) ?_
    refine va_get (D := G) (ci := 0) (v := .int 0) (C := RX0) (T := TX0) (N := 11) hx hb hts iX0 hown hK hP 5 rfl rfl 9 (by decide) (hw (.fieldLink RX0 73 "MotionFloor$Assembly" "reason" "I") (List.mem_of_getElem? (i := 3) rfl)) (fun _ h9 => h9) rfl dX0_enact_16 ?_
    refine lv_if_eq (tgt := 28) hx hb dX0_enact_19 (by decide) (fun _ => ?_) (fun c_ => absurd c_ (by decide))
    refine lv_aload_n hx hb dX0_enact_28 rfl (lv_at hl 0 rfl) ?_
    refine lv_iload_n hx hb dX0_enact_29 rfl (lv_at hl 1 rfl) ?_
    refine lv_iload_n hx hb dX0_enact_30 rfl (lv_at hl 2 rfl) ?_
    refine lv_iload_n hx hb dX0_enact_31 rfl (lv_at hl 3 rfl) ?_
    refine lv_iload hx hb dX0_enact_32 (lv_at hl 4 rfl) ?_
    refine lv_iload hx hb dX0_enact_34 (lv_at hl 5 rfl) ?_
    have hPc := hP.sub (ws' := [(h0, .inr (0, [.ref h7, .ref h1, .ref h2, .ref h8, .ref h3, .ref h9, .ref h10, .int 0, .int 0, .int 0, .null])), (h1, .inr (4, [.ref h11, .int 0])), (h2, .inr (5, [.int 0, .ref h4])), (h4, .inr (4, [.ref h6, .int 0])), (h6, .inl (K 3, 9, .inr (.inr (.inr (.inr (fun _ => none))))))]) [5, 0, 1, 2, 4] rfl
    have hDc := hD.sub (ws' := [(h0, .inr (0, [.ref h7, .ref h1, .ref h2, .ref h8, .ref h3, .ref h9, .ref h10, .int 0, .int 0, .int 0, .null])), (h1, .inr (4, [.ref h11, .int 0])), (h2, .inr (5, [.int 0, .ref h4])), (h4, .inr (4, [.ref h6, .int 0])), (h6, .inl (K 3, 9, .inr (.inr (.inr (.inr (fun _ => none))))))]) [5, 0, 1, 2, 4] (by decide) rfl
    refine wGoi (wc := [(h0, .inr (0, [.ref h7, .ref h1, .ref h2, .ref h8, .ref h3, .ref h9, .ref h10, .int 0, .int 0, .int 0, .null])), (h1, .inr (4, [.ref h11, .int 0])), (h2, .inr (5, [.int 0, .ref h4])), (h4, .inr (4, [.ref h6, .int 0])), (h6, .inl (K 3, 9, .inr (.inr (.inr (.inr (fun _ => none))))))]) (wr := [(h5, .inl (K 0, 112, .inl (fun _ => 0))), (h3, .inr (2, [.int 7, .int 600, .ref h5, .int 0]))]) (va_runS (As := [.ref h0, .int 10, .int p0, .int 0, .int 0, .int 0]) (rest := []) ⟨hx, hb, hml, hown, hts⟩ (m_X1_perform_4 l G K h0 h1 h2 h4 h6 h7 h8 h3 h9 h10 h11 p0 _ (by omega)) (va_cwS 6 hts (wGS t_ (mw (.methodLink RX0 161 yX1_perform) (List.mem_of_getElem? (i := 4) rfl)) (mw (.static yX1_perform) (List.mem_of_getElem? (i := 5) rfl)) (mw (.initialized RX1) (List.mem_of_getElem? (i := 6) rfl)) j_X1_perform_4) rfl rfl rfl (by decide +kernel) ⟨Nat.le_of_ble_eq_true rfl, Nat.le_of_ble_eq_true rfl⟩) (wPS hK hE hPc hDc) rfl rfl hl.1 rfl (lv_room (Nat.le_of_ble_eq_true rfl)) dX0_enact_36 ⟨Nat.le_of_ble_eq_true rfl, Nat.le_of_ble_eq_true rfl⟩) hP hD hS hA [5, 0, 1, 2, 4] [3, 6] rfl rfl rfl (by decide) (fun r u H locs hw hP hD hS => ?_)
    rcases hw with ⟨q3, q4, q5, q6, rfl, rfl⟩
    have hP : va_P G vwCl [(h5, .inl (K 0, 112, .inl (fun _ => 0))), (h3, .inr (2, [.int 7, .int 600, .ref h5, .int 0])), (h0, .inr (0, [.ref h7, .ref h1, .ref h2, .ref h8, .ref h3, .ref h9, .ref h10, .int 0, .int 0, .int 0, .null])), (h1, .inr (4, [.ref h11, .int 0])), (h2, .inr (5, [.int 2, .ref h4])), (h4, .inr (4, [.ref h6, .int 1])), (h6, .inl (K 3, 9, .inr (.inr (.inr (.inr (va_up (fun _ => none) 0 (some q6))))))), (q3, .inl (K 0, 400, .inl (fun _ => 0))), (q4, .inl (K 2, 200, .inl (fun _ => 0))), (q5, .inr (6, [.ref q3, .int 0])), (q6, .inr (3, [.int 0, .int 0, .int p0, .int (-1), .int (-1), .int 0, .int 0, .int 0, .int 0, .int 0, .int 0, .int 0, .ref q5, .ref q4, .int 0, .null]))] _ := hP
    have hD : va_D A [(h5, .inl (K 0, 112, .inl (fun _ => 0))), (h3, .inr (2, [.int 7, .int 600, .ref h5, .int 0])), (h0, .inr (0, [.ref h7, .ref h1, .ref h2, .ref h8, .ref h3, .ref h9, .ref h10, .int 0, .int 0, .int 0, .null])), (h1, .inr (4, [.ref h11, .int 0])), (h2, .inr (5, [.int 2, .ref h4])), (h4, .inr (4, [.ref h6, .int 1])), (h6, .inl (K 3, 9, .inr (.inr (.inr (.inr (va_up (fun _ => none) 0 (some q6))))))), (q3, .inl (K 0, 400, .inl (fun _ => 0))), (q4, .inl (K 2, 200, .inl (fun _ => 0))), (q5, .inr (6, [.ref q3, .int 0])), (q6, .inr (3, [.int 0, .int 0, .int p0, .int (-1), .int (-1), .int 0, .int 0, .int 0, .int 0, .int 0, .int 0, .int 0, .ref q5, .ref q4, .int 0, .null]))] := hD
    refine lv_istore (lv' := [(6, .int p0), (0, .ref h0), (1, .int 10), (2, .int p0), (3, .int 0), (4, .int 0), (5, .int 0)]) hx hb dX0_enact_39 hl (by decide) rfl (fun ls hl => ?_)
    refine lv_aload_n hx hb dX0_enact_41 rfl (lv_at hl 1 rfl) ?_
    refine va_get (D := G) (ci := 0) (v := .ref h3) (C := RX0) (T := TX0) (N := 11) hx hb hts iX0 hown hK hP 2 rfl rfl 4 (by decide) (hw (.fieldLink RX0 41 "MotionFloor$Assembly" "minutes" "LMotionFloor$Ledger;") (List.mem_of_getElem? (i := 7) rfl)) (fun _ h9 => h9) rfl dX0_enact_42 ?_
    have hPc := hP.sub (ws' := [(h3, .inr (2, [.int 7, .int 600, .ref h5, .int 0])), (h5, .inl (K 0, 112, .inl (fun _ => 0)))]) [1, 0] rfl
    have hDc := hD.sub (ws' := [(h3, .inr (2, [.int 7, .int 600, .ref h5, .int 0])), (h5, .inl (K 0, 112, .inl (fun _ => 0)))]) [1, 0] (by decide) rfl
    refine wGov (wc := [(h3, .inr (2, [.int 7, .int 600, .ref h5, .int 0])), (h5, .inl (K 0, 112, .inl (fun _ => 0)))]) (wr := [(h0, .inr (0, [.ref h7, .ref h1, .ref h2, .ref h8, .ref h3, .ref h9, .ref h10, .int 0, .int 0, .int 0, .null])), (h1, .inr (4, [.ref h11, .int 0])), (h2, .inr (5, [.int 2, .ref h4])), (h4, .inr (4, [.ref h6, .int 1])), (h6, .inl (K 3, 9, .inr (.inr (.inr (.inr (va_up (fun _ => none) 0 (some q6))))))), (q3, .inl (K 0, 400, .inl (fun _ => 0))), (q4, .inl (K 2, 200, .inl (fun _ => 0))), (q5, .inr (6, [.ref q3, .int 0])), (q6, .inr (3, [.int 0, .int 0, .int p0, .int (-1), .int (-1), .int 0, .int 0, .int 0, .int 0, .int 0, .int 0, .int 0, .ref q5, .ref q4, .int 0, .null]))]) (va_runV (As := []) (rest := []) ⟨hx, hb, hml, hown, hts⟩ (m_X3_open_0 l G K h3 h5 _) (cwV 0 hts (wGV t_ (mw (.methodLink RX0 166 yX3_open) (List.mem_of_getElem? (i := 8) rfl)) (mw (.instanceMethod yX3_open) (List.mem_of_getElem? (i := 9) rfl)) (mw (.selects RX3 yX3_open yX3_open) (List.mem_of_getElem? (i := 10) rfl)) (mw (.initialized RX3) (List.mem_of_getElem? (i := 11) rfl)) j_X3_open_0) rfl rfl rfl (by decide +kernel) ⟨Nat.le_of_ble_eq_true rfl, Nat.le_of_ble_eq_true rfl⟩) (wPV hK hE hPc hDc 2 0 rfl rfl) rfl rfl hl.1 rfl (lv_room (Nat.le_of_ble_eq_true rfl)) dX0_enact_45 ⟨Nat.le_of_ble_eq_true rfl, Nat.le_of_ble_eq_true rfl⟩) hP hD hS hA [1, 0] [2, 3, 4, 5, 6, 7, 8, 9, 10] rfl rfl rfl (by decide) (fun u H locs hw hP hD hS => ?_)
    subst hw
    have hP : va_P G vwCl [(h0, .inr (0, [.ref h7, .ref h1, .ref h2, .ref h8, .ref h3, .ref h9, .ref h10, .int 0, .int 0, .int 0, .null])), (h1, .inr (4, [.ref h11, .int 0])), (h2, .inr (5, [.int 2, .ref h4])), (h4, .inr (4, [.ref h6, .int 1])), (h6, .inl (K 3, 9, .inr (.inr (.inr (.inr (va_up (fun _ => none) 0 (some q6))))))), (q3, .inl (K 0, 400, .inl (fun _ => 0))), (q4, .inl (K 2, 200, .inl (fun _ => 0))), (q5, .inr (6, [.ref q3, .int 0])), (q6, .inr (3, [.int 0, .int 0, .int p0, .int (-1), .int (-1), .int 0, .int 0, .int 0, .int 0, .int 0, .int 0, .int 0, .ref q5, .ref q4, .int 0, .null])), (h3, .inr (2, [.int 7, .int 600, .ref h5, .int 1])), (h5, .inl (K 0, 112, .inl (fun _ => 0)))] _ := hP
    have hD : va_D A [(h0, .inr (0, [.ref h7, .ref h1, .ref h2, .ref h8, .ref h3, .ref h9, .ref h10, .int 0, .int 0, .int 0, .null])), (h1, .inr (4, [.ref h11, .int 0])), (h2, .inr (5, [.int 2, .ref h4])), (h4, .inr (4, [.ref h6, .int 1])), (h6, .inl (K 3, 9, .inr (.inr (.inr (.inr (va_up (fun _ => none) 0 (some q6))))))), (q3, .inl (K 0, 400, .inl (fun _ => 0))), (q4, .inl (K 2, 200, .inl (fun _ => 0))), (q5, .inr (6, [.ref q3, .int 0])), (q6, .inr (3, [.int 0, .int 0, .int p0, .int (-1), .int (-1), .int 0, .int 0, .int 0, .int 0, .int 0, .int 0, .int 0, .ref q5, .ref q4, .int 0, .null])), (h3, .inr (2, [.int 7, .int 600, .ref h5, .int 1])), (h5, .inl (K 0, 112, .inl (fun _ => 0)))] := hD
    refine lv_aload_n hx hb dX0_enact_48 rfl (lv_at hl 1 rfl) ?_
    refine va_get (D := G) (ci := 0) (v := .ref h3) (C := RX0) (T := TX0) (N := 11) hx hb hts iX0 hown hK hP 0 rfl rfl 4 (by decide) (hw (.fieldLink RX0 41 "MotionFloor$Assembly" "minutes" "LMotionFloor$Ledger;") (List.mem_of_getElem? (i := 7) rfl)) (fun _ h9 => h9) rfl dX0_enact_49 ?_
    refine lv_iconst (v := 0) hx hb dX0_enact_52 (by decide) ?_
    refine lv_iload_n hx hb dX0_enact_53 rfl (lv_at hl 2 rfl) ?_
    have hPc := hP.sub (ws' := [(h3, .inr (2, [.int 7, .int 600, .ref h5, .int 1])), (h5, .inl (K 0, 112, .inl (fun _ => 0)))]) [9, 10] rfl
    have hDc := hD.sub (ws' := [(h3, .inr (2, [.int 7, .int 600, .ref h5, .int 1])), (h5, .inl (K 0, 112, .inl (fun _ => 0)))]) [9, 10] (by decide) rfl
    refine wGov (wc := [(h3, .inr (2, [.int 7, .int 600, .ref h5, .int 1])), (h5, .inl (K 0, 112, .inl (fun _ => 0)))]) (wr := [(h0, .inr (0, [.ref h7, .ref h1, .ref h2, .ref h8, .ref h3, .ref h9, .ref h10, .int 0, .int 0, .int 0, .null])), (h1, .inr (4, [.ref h11, .int 0])), (h2, .inr (5, [.int 2, .ref h4])), (h4, .inr (4, [.ref h6, .int 1])), (h6, .inl (K 3, 9, .inr (.inr (.inr (.inr (va_up (fun _ => none) 0 (some q6))))))), (q3, .inl (K 0, 400, .inl (fun _ => 0))), (q4, .inl (K 2, 200, .inl (fun _ => 0))), (q5, .inr (6, [.ref q3, .int 0])), (q6, .inr (3, [.int 0, .int 0, .int p0, .int (-1), .int (-1), .int 0, .int 0, .int 0, .int 0, .int 0, .int 0, .int 0, .ref q5, .ref q4, .int 0, .null]))]) (va_runV (As := [.int 0, .int 10]) (rest := []) ⟨hx, hb, hml, hown, hts⟩ (m_X3_write_28 l G K h3 h5 _) (cwV 2 hts (wGV t_ (mw (.methodLink RX0 169 yX3_write) (List.mem_of_getElem? (i := 12) rfl)) (mw (.instanceMethod yX3_write) (List.mem_of_getElem? (i := 13) rfl)) (mw (.selects RX3 yX3_write yX3_write) (List.mem_of_getElem? (i := 14) rfl)) (mw (.initialized RX3) (List.mem_of_getElem? (i := 11) rfl)) j_X3_write_28) rfl rfl rfl (by decide +kernel) ⟨Nat.le_of_ble_eq_true rfl, Nat.le_of_ble_eq_true rfl⟩) (wPV hK hE hPc hDc 2 0 rfl rfl) rfl rfl hl.1 rfl (lv_room (Nat.le_of_ble_eq_true rfl)) dX0_enact_54 ⟨Nat.le_of_ble_eq_true rfl, Nat.le_of_ble_eq_true rfl⟩) hP hD hS hA [9, 10] [0, 1, 2, 3, 4, 5, 6, 7, 8] rfl rfl rfl (by decide) (fun u H locs hw hP hD hS => ?_)
    subst hw
    have hP : va_P G vwCl [(h0, .inr (0, [.ref h7, .ref h1, .ref h2, .ref h8, .ref h3, .ref h9, .ref h10, .int 0, .int 0, .int 0, .null])), (h1, .inr (4, [.ref h11, .int 0])), (h2, .inr (5, [.int 2, .ref h4])), (h4, .inr (4, [.ref h6, .int 1])), (h6, .inl (K 3, 9, .inr (.inr (.inr (.inr (va_up (fun _ => none) 0 (some q6))))))), (q3, .inl (K 0, 400, .inl (fun _ => 0))), (q4, .inl (K 2, 200, .inl (fun _ => 0))), (q5, .inr (6, [.ref q3, .int 0])), (q6, .inr (3, [.int 0, .int 0, .int p0, .int (-1), .int (-1), .int 0, .int 0, .int 0, .int 0, .int 0, .int 0, .int 0, .ref q5, .ref q4, .int 0, .null])), (h3, .inr (2, [.int 7, .int 600, .ref h5, .int 1])), (h5, .inl (K 0, 112, .inl (upd (fun _ => 0) 0 10)))] _ := hP
    have hD : va_D A [(h0, .inr (0, [.ref h7, .ref h1, .ref h2, .ref h8, .ref h3, .ref h9, .ref h10, .int 0, .int 0, .int 0, .null])), (h1, .inr (4, [.ref h11, .int 0])), (h2, .inr (5, [.int 2, .ref h4])), (h4, .inr (4, [.ref h6, .int 1])), (h6, .inl (K 3, 9, .inr (.inr (.inr (.inr (va_up (fun _ => none) 0 (some q6))))))), (q3, .inl (K 0, 400, .inl (fun _ => 0))), (q4, .inl (K 2, 200, .inl (fun _ => 0))), (q5, .inr (6, [.ref q3, .int 0])), (q6, .inr (3, [.int 0, .int 0, .int p0, .int (-1), .int (-1), .int 0, .int 0, .int 0, .int 0, .int 0, .int 0, .int 0, .ref q5, .ref q4, .int 0, .null])), (h3, .inr (2, [.int 7, .int 600, .ref h5, .int 1])), (h5, .inl (K 0, 112, .inl (upd (fun _ => 0) 0 10)))] := hD
    refine lv_aload_n hx hb dX0_enact_57 rfl (lv_at hl 1 rfl) ?_
    refine va_get (D := G) (ci := 0) (v := .ref h3) (C := RX0) (T := TX0) (N := 11) hx hb hts iX0 hown hK hP 0 rfl rfl 4 (by decide) (hw (.fieldLink RX0 41 "MotionFloor$Assembly" "minutes" "LMotionFloor$Ledger;") (List.mem_of_getElem? (i := 7) rfl)) (fun _ h9 => h9) rfl dX0_enact_58 ?_
    refine lv_iconst (v := 1) hx hb dX0_enact_61 (by decide) ?_
    refine lv_iload_n hx hb dX0_enact_62 rfl (lv_at hl 3 rfl) ?_
    have hPc := hP.sub (ws' := [(h3, .inr (2, [.int 7, .int 600, .ref h5, .int 1])), (h5, .inl (K 0, 112, .inl (upd (fun _ => 0) 0 10)))]) [9, 10] rfl
    have hDc := hD.sub (ws' := [(h3, .inr (2, [.int 7, .int 600, .ref h5, .int 1])), (h5, .inl (K 0, 112, .inl (upd (fun _ => 0) 0 10)))]) [9, 10] (by decide) rfl
    refine wGov (wc := [(h3, .inr (2, [.int 7, .int 600, .ref h5, .int 1])), (h5, .inl (K 0, 112, .inl (upd (fun _ => 0) 0 10)))]) (wr := [(h0, .inr (0, [.ref h7, .ref h1, .ref h2, .ref h8, .ref h3, .ref h9, .ref h10, .int 0, .int 0, .int 0, .null])), (h1, .inr (4, [.ref h11, .int 0])), (h2, .inr (5, [.int 2, .ref h4])), (h4, .inr (4, [.ref h6, .int 1])), (h6, .inl (K 3, 9, .inr (.inr (.inr (.inr (va_up (fun _ => none) 0 (some q6))))))), (q3, .inl (K 0, 400, .inl (fun _ => 0))), (q4, .inl (K 2, 200, .inl (fun _ => 0))), (q5, .inr (6, [.ref q3, .int 0])), (q6, .inr (3, [.int 0, .int 0, .int p0, .int (-1), .int (-1), .int 0, .int 0, .int 0, .int 0, .int 0, .int 0, .int 0, .ref q5, .ref q4, .int 0, .null]))]) (va_runV (As := [.int 1, .int p0]) (rest := []) ⟨hx, hb, hml, hown, hts⟩ (m_X3_write_29 l G K h3 h5 p0 _ (by omega)) (cwV 2 hts (wGV t_ (mw (.methodLink RX0 169 yX3_write) (List.mem_of_getElem? (i := 12) rfl)) (mw (.instanceMethod yX3_write) (List.mem_of_getElem? (i := 13) rfl)) (mw (.selects RX3 yX3_write yX3_write) (List.mem_of_getElem? (i := 14) rfl)) (mw (.initialized RX3) (List.mem_of_getElem? (i := 11) rfl)) j_X3_write_29) rfl rfl rfl (by decide +kernel) ⟨Nat.le_of_ble_eq_true rfl, Nat.le_of_ble_eq_true rfl⟩) (wPV hK hE hPc hDc 2 0 rfl rfl) rfl rfl hl.1 rfl (lv_room (Nat.le_of_ble_eq_true rfl)) dX0_enact_63 ⟨Nat.le_of_ble_eq_true rfl, Nat.le_of_ble_eq_true rfl⟩) hP hD hS hA [9, 10] [0, 1, 2, 3, 4, 5, 6, 7, 8] rfl rfl rfl (by decide) (fun u H locs hw hP hD hS => ?_)
    subst hw
    have hP : va_P G vwCl [(h0, .inr (0, [.ref h7, .ref h1, .ref h2, .ref h8, .ref h3, .ref h9, .ref h10, .int 0, .int 0, .int 0, .null])), (h1, .inr (4, [.ref h11, .int 0])), (h2, .inr (5, [.int 2, .ref h4])), (h4, .inr (4, [.ref h6, .int 1])), (h6, .inl (K 3, 9, .inr (.inr (.inr (.inr (va_up (fun _ => none) 0 (some q6))))))), (q3, .inl (K 0, 400, .inl (fun _ => 0))), (q4, .inl (K 2, 200, .inl (fun _ => 0))), (q5, .inr (6, [.ref q3, .int 0])), (q6, .inr (3, [.int 0, .int 0, .int p0, .int (-1), .int (-1), .int 0, .int 0, .int 0, .int 0, .int 0, .int 0, .int 0, .ref q5, .ref q4, .int 0, .null])), (h3, .inr (2, [.int 7, .int 600, .ref h5, .int 1])), (h5, .inl (K 0, 112, .inl (upd (upd (fun _ => 0) 0 10) 1 p0)))] _ := hP
    have hD : va_D A [(h0, .inr (0, [.ref h7, .ref h1, .ref h2, .ref h8, .ref h3, .ref h9, .ref h10, .int 0, .int 0, .int 0, .null])), (h1, .inr (4, [.ref h11, .int 0])), (h2, .inr (5, [.int 2, .ref h4])), (h4, .inr (4, [.ref h6, .int 1])), (h6, .inl (K 3, 9, .inr (.inr (.inr (.inr (va_up (fun _ => none) 0 (some q6))))))), (q3, .inl (K 0, 400, .inl (fun _ => 0))), (q4, .inl (K 2, 200, .inl (fun _ => 0))), (q5, .inr (6, [.ref q3, .int 0])), (q6, .inr (3, [.int 0, .int 0, .int p0, .int (-1), .int (-1), .int 0, .int 0, .int 0, .int 0, .int 0, .int 0, .int 0, .ref q5, .ref q4, .int 0, .null])), (h3, .inr (2, [.int 7, .int 600, .ref h5, .int 1])), (h5, .inl (K 0, 112, .inl (upd (upd (fun _ => 0) 0 10) 1 p0)))] := hD
    refine lv_aload_n hx hb dX0_enact_66 rfl (lv_at hl 1 rfl) ?_
    refine va_get (D := G) (ci := 0) (v := .ref h3) (C := RX0) (T := TX0) (N := 11) hx hb hts iX0 hown hK hP 0 rfl rfl 4 (by decide) (hw (.fieldLink RX0 41 "MotionFloor$Assembly" "minutes" "LMotionFloor$Ledger;") (List.mem_of_getElem? (i := 7) rfl)) (fun _ h9 => h9) rfl dX0_enact_67 ?_
    refine lv_iconst (v := 2) hx hb dX0_enact_70 (by decide) ?_
    refine lv_iload_n hx hb dX0_enact_71 rfl (lv_at hl 4 rfl) ?_
    have hPc := hP.sub (ws' := [(h3, .inr (2, [.int 7, .int 600, .ref h5, .int 1])), (h5, .inl (K 0, 112, .inl (upd (upd (fun _ => 0) 0 10) 1 p0)))]) [9, 10] rfl
    have hDc := hD.sub (ws' := [(h3, .inr (2, [.int 7, .int 600, .ref h5, .int 1])), (h5, .inl (K 0, 112, .inl (upd (upd (fun _ => 0) 0 10) 1 p0)))]) [9, 10] (by decide) rfl
    refine wGov (wc := [(h3, .inr (2, [.int 7, .int 600, .ref h5, .int 1])), (h5, .inl (K 0, 112, .inl (upd (upd (fun _ => 0) 0 10) 1 p0)))]) (wr := [(h0, .inr (0, [.ref h7, .ref h1, .ref h2, .ref h8, .ref h3, .ref h9, .ref h10, .int 0, .int 0, .int 0, .null])), (h1, .inr (4, [.ref h11, .int 0])), (h2, .inr (5, [.int 2, .ref h4])), (h4, .inr (4, [.ref h6, .int 1])), (h6, .inl (K 3, 9, .inr (.inr (.inr (.inr (va_up (fun _ => none) 0 (some q6))))))), (q3, .inl (K 0, 400, .inl (fun _ => 0))), (q4, .inl (K 2, 200, .inl (fun _ => 0))), (q5, .inr (6, [.ref q3, .int 0])), (q6, .inr (3, [.int 0, .int 0, .int p0, .int (-1), .int (-1), .int 0, .int 0, .int 0, .int 0, .int 0, .int 0, .int 0, .ref q5, .ref q4, .int 0, .null]))]) (va_runV (As := [.int 2, .int 0]) (rest := []) ⟨hx, hb, hml, hown, hts⟩ (m_X3_write_30 l G K h3 h5 p0 _ (by omega)) (cwV 2 hts (wGV t_ (mw (.methodLink RX0 169 yX3_write) (List.mem_of_getElem? (i := 12) rfl)) (mw (.instanceMethod yX3_write) (List.mem_of_getElem? (i := 13) rfl)) (mw (.selects RX3 yX3_write yX3_write) (List.mem_of_getElem? (i := 14) rfl)) (mw (.initialized RX3) (List.mem_of_getElem? (i := 11) rfl)) j_X3_write_30) rfl rfl rfl (by decide +kernel) ⟨Nat.le_of_ble_eq_true rfl, Nat.le_of_ble_eq_true rfl⟩) (wPV hK hE hPc hDc 2 0 rfl rfl) rfl rfl hl.1 rfl (lv_room (Nat.le_of_ble_eq_true rfl)) dX0_enact_72 ⟨Nat.le_of_ble_eq_true rfl, Nat.le_of_ble_eq_true rfl⟩) hP hD hS hA [9, 10] [0, 1, 2, 3, 4, 5, 6, 7, 8] rfl rfl rfl (by decide) (fun u H locs hw hP hD hS => ?_)
    subst hw
    have hP : va_P G vwCl [(h0, .inr (0, [.ref h7, .ref h1, .ref h2, .ref h8, .ref h3, .ref h9, .ref h10, .int 0, .int 0, .int 0, .null])), (h1, .inr (4, [.ref h11, .int 0])), (h2, .inr (5, [.int 2, .ref h4])), (h4, .inr (4, [.ref h6, .int 1])), (h6, .inl (K 3, 9, .inr (.inr (.inr (.inr (va_up (fun _ => none) 0 (some q6))))))), (q3, .inl (K 0, 400, .inl (fun _ => 0))), (q4, .inl (K 2, 200, .inl (fun _ => 0))), (q5, .inr (6, [.ref q3, .int 0])), (q6, .inr (3, [.int 0, .int 0, .int p0, .int (-1), .int (-1), .int 0, .int 0, .int 0, .int 0, .int 0, .int 0, .int 0, .ref q5, .ref q4, .int 0, .null])), (h3, .inr (2, [.int 7, .int 600, .ref h5, .int 1])), (h5, .inl (K 0, 112, .inl (upd (upd (upd (fun _ => 0) 0 10) 1 p0) 2 0)))] _ := hP
    have hD : va_D A [(h0, .inr (0, [.ref h7, .ref h1, .ref h2, .ref h8, .ref h3, .ref h9, .ref h10, .int 0, .int 0, .int 0, .null])), (h1, .inr (4, [.ref h11, .int 0])), (h2, .inr (5, [.int 2, .ref h4])), (h4, .inr (4, [.ref h6, .int 1])), (h6, .inl (K 3, 9, .inr (.inr (.inr (.inr (va_up (fun _ => none) 0 (some q6))))))), (q3, .inl (K 0, 400, .inl (fun _ => 0))), (q4, .inl (K 2, 200, .inl (fun _ => 0))), (q5, .inr (6, [.ref q3, .int 0])), (q6, .inr (3, [.int 0, .int 0, .int p0, .int (-1), .int (-1), .int 0, .int 0, .int 0, .int 0, .int 0, .int 0, .int 0, .ref q5, .ref q4, .int 0, .null])), (h3, .inr (2, [.int 7, .int 600, .ref h5, .int 1])), (h5, .inl (K 0, 112, .inl (upd (upd (upd (fun _ => 0) 0 10) 1 p0) 2 0)))] := hD
    refine lv_aload_n hx hb dX0_enact_75 rfl (lv_at hl 1 rfl) ?_
    refine va_get (D := G) (ci := 0) (v := .ref h3) (C := RX0) (T := TX0) (N := 11) hx hb hts iX0 hown hK hP 0 rfl rfl 4 (by decide) (hw (.fieldLink RX0 41 "MotionFloor$Assembly" "minutes" "LMotionFloor$Ledger;") (List.mem_of_getElem? (i := 7) rfl)) (fun _ h9 => h9) rfl dX0_enact_76 ?_
    refine lv_iconst (v := 3) hx hb dX0_enact_79 (by decide) ?_
    refine lv_iload hx hb dX0_enact_80 (lv_at hl 5 rfl) ?_
    have hPc := hP.sub (ws' := [(h3, .inr (2, [.int 7, .int 600, .ref h5, .int 1])), (h5, .inl (K 0, 112, .inl (upd (upd (upd (fun _ => 0) 0 10) 1 p0) 2 0)))]) [9, 10] rfl
    have hDc := hD.sub (ws' := [(h3, .inr (2, [.int 7, .int 600, .ref h5, .int 1])), (h5, .inl (K 0, 112, .inl (upd (upd (upd (fun _ => 0) 0 10) 1 p0) 2 0)))]) [9, 10] (by decide) rfl
    refine wGov (wc := [(h3, .inr (2, [.int 7, .int 600, .ref h5, .int 1])), (h5, .inl (K 0, 112, .inl (upd (upd (upd (fun _ => 0) 0 10) 1 p0) 2 0)))]) (wr := [(h0, .inr (0, [.ref h7, .ref h1, .ref h2, .ref h8, .ref h3, .ref h9, .ref h10, .int 0, .int 0, .int 0, .null])), (h1, .inr (4, [.ref h11, .int 0])), (h2, .inr (5, [.int 2, .ref h4])), (h4, .inr (4, [.ref h6, .int 1])), (h6, .inl (K 3, 9, .inr (.inr (.inr (.inr (va_up (fun _ => none) 0 (some q6))))))), (q3, .inl (K 0, 400, .inl (fun _ => 0))), (q4, .inl (K 2, 200, .inl (fun _ => 0))), (q5, .inr (6, [.ref q3, .int 0])), (q6, .inr (3, [.int 0, .int 0, .int p0, .int (-1), .int (-1), .int 0, .int 0, .int 0, .int 0, .int 0, .int 0, .int 0, .ref q5, .ref q4, .int 0, .null]))]) (va_runV (As := [.int 3, .int 0]) (rest := []) ⟨hx, hb, hml, hown, hts⟩ (m_X3_write_31 l G K h3 h5 p0 _ (by omega)) (cwV 2 hts (wGV t_ (mw (.methodLink RX0 169 yX3_write) (List.mem_of_getElem? (i := 12) rfl)) (mw (.instanceMethod yX3_write) (List.mem_of_getElem? (i := 13) rfl)) (mw (.selects RX3 yX3_write yX3_write) (List.mem_of_getElem? (i := 14) rfl)) (mw (.initialized RX3) (List.mem_of_getElem? (i := 11) rfl)) j_X3_write_31) rfl rfl rfl (by decide +kernel) ⟨Nat.le_of_ble_eq_true rfl, Nat.le_of_ble_eq_true rfl⟩) (wPV hK hE hPc hDc 2 0 rfl rfl) rfl rfl hl.1 rfl (lv_room (Nat.le_of_ble_eq_true rfl)) dX0_enact_82 ⟨Nat.le_of_ble_eq_true rfl, Nat.le_of_ble_eq_true rfl⟩) hP hD hS hA [9, 10] [0, 1, 2, 3, 4, 5, 6, 7, 8] rfl rfl rfl (by decide) (fun u H locs hw hP hD hS => ?_)
    subst hw
    have hP : va_P G vwCl [(h0, .inr (0, [.ref h7, .ref h1, .ref h2, .ref h8, .ref h3, .ref h9, .ref h10, .int 0, .int 0, .int 0, .null])), (h1, .inr (4, [.ref h11, .int 0])), (h2, .inr (5, [.int 2, .ref h4])), (h4, .inr (4, [.ref h6, .int 1])), (h6, .inl (K 3, 9, .inr (.inr (.inr (.inr (va_up (fun _ => none) 0 (some q6))))))), (q3, .inl (K 0, 400, .inl (fun _ => 0))), (q4, .inl (K 2, 200, .inl (fun _ => 0))), (q5, .inr (6, [.ref q3, .int 0])), (q6, .inr (3, [.int 0, .int 0, .int p0, .int (-1), .int (-1), .int 0, .int 0, .int 0, .int 0, .int 0, .int 0, .int 0, .ref q5, .ref q4, .int 0, .null])), (h3, .inr (2, [.int 7, .int 600, .ref h5, .int 1])), (h5, .inl (K 0, 112, .inl (upd (upd (upd (upd (fun _ => 0) 0 10) 1 p0) 2 0) 3 0)))] _ := hP
    have hD : va_D A [(h0, .inr (0, [.ref h7, .ref h1, .ref h2, .ref h8, .ref h3, .ref h9, .ref h10, .int 0, .int 0, .int 0, .null])), (h1, .inr (4, [.ref h11, .int 0])), (h2, .inr (5, [.int 2, .ref h4])), (h4, .inr (4, [.ref h6, .int 1])), (h6, .inl (K 3, 9, .inr (.inr (.inr (.inr (va_up (fun _ => none) 0 (some q6))))))), (q3, .inl (K 0, 400, .inl (fun _ => 0))), (q4, .inl (K 2, 200, .inl (fun _ => 0))), (q5, .inr (6, [.ref q3, .int 0])), (q6, .inr (3, [.int 0, .int 0, .int p0, .int (-1), .int (-1), .int 0, .int 0, .int 0, .int 0, .int 0, .int 0, .int 0, .ref q5, .ref q4, .int 0, .null])), (h3, .inr (2, [.int 7, .int 600, .ref h5, .int 1])), (h5, .inl (K 0, 112, .inl (upd (upd (upd (upd (fun _ => 0) 0 10) 1 p0) 2 0) 3 0)))] := hD
    refine lv_aload_n hx hb dX0_enact_85 rfl (lv_at hl 1 rfl) ?_
    refine va_get (D := G) (ci := 0) (v := .ref h3) (C := RX0) (T := TX0) (N := 11) hx hb hts iX0 hown hK hP 0 rfl rfl 4 (by decide) (hw (.fieldLink RX0 41 "MotionFloor$Assembly" "minutes" "LMotionFloor$Ledger;") (List.mem_of_getElem? (i := 7) rfl)) (fun _ h9 => h9) rfl dX0_enact_86 ?_
    refine lv_iconst (v := 4) hx hb dX0_enact_89 (by decide) ?_
    refine lv_iload hx hb dX0_enact_90 (lv_at hl 6 rfl) ?_
    have hPc := hP.sub (ws' := [(h3, .inr (2, [.int 7, .int 600, .ref h5, .int 1])), (h5, .inl (K 0, 112, .inl (upd (upd (upd (upd (fun _ => 0) 0 10) 1 p0) 2 0) 3 0)))]) [9, 10] rfl
    have hDc := hD.sub (ws' := [(h3, .inr (2, [.int 7, .int 600, .ref h5, .int 1])), (h5, .inl (K 0, 112, .inl (upd (upd (upd (upd (fun _ => 0) 0 10) 1 p0) 2 0) 3 0)))]) [9, 10] (by decide) rfl
    refine wGov (wc := [(h3, .inr (2, [.int 7, .int 600, .ref h5, .int 1])), (h5, .inl (K 0, 112, .inl (upd (upd (upd (upd (fun _ => 0) 0 10) 1 p0) 2 0) 3 0)))]) (wr := [(h0, .inr (0, [.ref h7, .ref h1, .ref h2, .ref h8, .ref h3, .ref h9, .ref h10, .int 0, .int 0, .int 0, .null])), (h1, .inr (4, [.ref h11, .int 0])), (h2, .inr (5, [.int 2, .ref h4])), (h4, .inr (4, [.ref h6, .int 1])), (h6, .inl (K 3, 9, .inr (.inr (.inr (.inr (va_up (fun _ => none) 0 (some q6))))))), (q3, .inl (K 0, 400, .inl (fun _ => 0))), (q4, .inl (K 2, 200, .inl (fun _ => 0))), (q5, .inr (6, [.ref q3, .int 0])), (q6, .inr (3, [.int 0, .int 0, .int p0, .int (-1), .int (-1), .int 0, .int 0, .int 0, .int 0, .int 0, .int 0, .int 0, .ref q5, .ref q4, .int 0, .null]))]) (va_runV (As := [.int 4, .int 0]) (rest := []) ⟨hx, hb, hml, hown, hts⟩ (m_X3_write_32 l G K h3 h5 p0 _ (by omega)) (cwV 2 hts (wGV t_ (mw (.methodLink RX0 169 yX3_write) (List.mem_of_getElem? (i := 12) rfl)) (mw (.instanceMethod yX3_write) (List.mem_of_getElem? (i := 13) rfl)) (mw (.selects RX3 yX3_write yX3_write) (List.mem_of_getElem? (i := 14) rfl)) (mw (.initialized RX3) (List.mem_of_getElem? (i := 11) rfl)) j_X3_write_32) rfl rfl rfl (by decide +kernel) ⟨Nat.le_of_ble_eq_true rfl, Nat.le_of_ble_eq_true rfl⟩) (wPV hK hE hPc hDc 2 0 rfl rfl) rfl rfl hl.1 rfl (lv_room (Nat.le_of_ble_eq_true rfl)) dX0_enact_92 ⟨Nat.le_of_ble_eq_true rfl, Nat.le_of_ble_eq_true rfl⟩) hP hD hS hA [9, 10] [0, 1, 2, 3, 4, 5, 6, 7, 8] rfl rfl rfl (by decide) (fun u H locs hw hP hD hS => ?_)
    subst hw
    have hP : va_P G vwCl [(h0, .inr (0, [.ref h7, .ref h1, .ref h2, .ref h8, .ref h3, .ref h9, .ref h10, .int 0, .int 0, .int 0, .null])), (h1, .inr (4, [.ref h11, .int 0])), (h2, .inr (5, [.int 2, .ref h4])), (h4, .inr (4, [.ref h6, .int 1])), (h6, .inl (K 3, 9, .inr (.inr (.inr (.inr (va_up (fun _ => none) 0 (some q6))))))), (q3, .inl (K 0, 400, .inl (fun _ => 0))), (q4, .inl (K 2, 200, .inl (fun _ => 0))), (q5, .inr (6, [.ref q3, .int 0])), (q6, .inr (3, [.int 0, .int 0, .int p0, .int (-1), .int (-1), .int 0, .int 0, .int 0, .int 0, .int 0, .int 0, .int 0, .ref q5, .ref q4, .int 0, .null])), (h3, .inr (2, [.int 7, .int 600, .ref h5, .int 1])), (h5, .inl (K 0, 112, .inl (upd (upd (upd (upd (upd (fun _ => 0) 0 10) 1 p0) 2 0) 3 0) 4 0)))] _ := hP
    have hD : va_D A [(h0, .inr (0, [.ref h7, .ref h1, .ref h2, .ref h8, .ref h3, .ref h9, .ref h10, .int 0, .int 0, .int 0, .null])), (h1, .inr (4, [.ref h11, .int 0])), (h2, .inr (5, [.int 2, .ref h4])), (h4, .inr (4, [.ref h6, .int 1])), (h6, .inl (K 3, 9, .inr (.inr (.inr (.inr (va_up (fun _ => none) 0 (some q6))))))), (q3, .inl (K 0, 400, .inl (fun _ => 0))), (q4, .inl (K 2, 200, .inl (fun _ => 0))), (q5, .inr (6, [.ref q3, .int 0])), (q6, .inr (3, [.int 0, .int 0, .int p0, .int (-1), .int (-1), .int 0, .int 0, .int 0, .int 0, .int 0, .int 0, .int 0, .ref q5, .ref q4, .int 0, .null])), (h3, .inr (2, [.int 7, .int 600, .ref h5, .int 1])), (h5, .inl (K 0, 112, .inl (upd (upd (upd (upd (upd (fun _ => 0) 0 10) 1 p0) 2 0) 3 0) 4 0)))] := hD
    refine lv_aload_n hx hb dX0_enact_95 rfl (lv_at hl 1 rfl) ?_
    refine va_get (D := G) (ci := 0) (v := .ref h3) (C := RX0) (T := TX0) (N := 11) hx hb hts iX0 hown hK hP 0 rfl rfl 4 (by decide) (hw (.fieldLink RX0 41 "MotionFloor$Assembly" "minutes" "LMotionFloor$Ledger;") (List.mem_of_getElem? (i := 7) rfl)) (fun _ h9 => h9) rfl dX0_enact_96 ?_
    refine lv_iconst (v := 5) hx hb dX0_enact_99 (by decide) ?_
    refine lv_iload hx hb dX0_enact_100 (lv_at hl 0 rfl) ?_
    have hPc := hP.sub (ws' := [(h3, .inr (2, [.int 7, .int 600, .ref h5, .int 1])), (h5, .inl (K 0, 112, .inl (upd (upd (upd (upd (upd (fun _ => 0) 0 10) 1 p0) 2 0) 3 0) 4 0)))]) [9, 10] rfl
    have hDc := hD.sub (ws' := [(h3, .inr (2, [.int 7, .int 600, .ref h5, .int 1])), (h5, .inl (K 0, 112, .inl (upd (upd (upd (upd (upd (fun _ => 0) 0 10) 1 p0) 2 0) 3 0) 4 0)))]) [9, 10] (by decide) rfl
    refine wGov (wc := [(h3, .inr (2, [.int 7, .int 600, .ref h5, .int 1])), (h5, .inl (K 0, 112, .inl (upd (upd (upd (upd (upd (fun _ => 0) 0 10) 1 p0) 2 0) 3 0) 4 0)))]) (wr := [(h0, .inr (0, [.ref h7, .ref h1, .ref h2, .ref h8, .ref h3, .ref h9, .ref h10, .int 0, .int 0, .int 0, .null])), (h1, .inr (4, [.ref h11, .int 0])), (h2, .inr (5, [.int 2, .ref h4])), (h4, .inr (4, [.ref h6, .int 1])), (h6, .inl (K 3, 9, .inr (.inr (.inr (.inr (va_up (fun _ => none) 0 (some q6))))))), (q3, .inl (K 0, 400, .inl (fun _ => 0))), (q4, .inl (K 2, 200, .inl (fun _ => 0))), (q5, .inr (6, [.ref q3, .int 0])), (q6, .inr (3, [.int 0, .int 0, .int p0, .int (-1), .int (-1), .int 0, .int 0, .int 0, .int 0, .int 0, .int 0, .int 0, .ref q5, .ref q4, .int 0, .null]))]) (va_runV (As := [.int 5, .int p0]) (rest := []) ⟨hx, hb, hml, hown, hts⟩ (m_X3_write_33 l G K h3 h5 p0 _ (by omega)) (cwV 2 hts (wGV t_ (mw (.methodLink RX0 169 yX3_write) (List.mem_of_getElem? (i := 12) rfl)) (mw (.instanceMethod yX3_write) (List.mem_of_getElem? (i := 13) rfl)) (mw (.selects RX3 yX3_write yX3_write) (List.mem_of_getElem? (i := 14) rfl)) (mw (.initialized RX3) (List.mem_of_getElem? (i := 11) rfl)) j_X3_write_33) rfl rfl rfl (by decide +kernel) ⟨Nat.le_of_ble_eq_true rfl, Nat.le_of_ble_eq_true rfl⟩) (wPV hK hE hPc hDc 2 0 rfl rfl) rfl rfl hl.1 rfl (lv_room (Nat.le_of_ble_eq_true rfl)) dX0_enact_102 ⟨Nat.le_of_ble_eq_true rfl, Nat.le_of_ble_eq_true rfl⟩) hP hD hS hA [9, 10] [0, 1, 2, 3, 4, 5, 6, 7, 8] rfl rfl rfl (by decide) (fun u H locs hw hP hD hS => ?_)
    subst hw
    have hP : va_P G vwCl [(h0, .inr (0, [.ref h7, .ref h1, .ref h2, .ref h8, .ref h3, .ref h9, .ref h10, .int 0, .int 0, .int 0, .null])), (h1, .inr (4, [.ref h11, .int 0])), (h2, .inr (5, [.int 2, .ref h4])), (h4, .inr (4, [.ref h6, .int 1])), (h6, .inl (K 3, 9, .inr (.inr (.inr (.inr (va_up (fun _ => none) 0 (some q6))))))), (q3, .inl (K 0, 400, .inl (fun _ => 0))), (q4, .inl (K 2, 200, .inl (fun _ => 0))), (q5, .inr (6, [.ref q3, .int 0])), (q6, .inr (3, [.int 0, .int 0, .int p0, .int (-1), .int (-1), .int 0, .int 0, .int 0, .int 0, .int 0, .int 0, .int 0, .ref q5, .ref q4, .int 0, .null])), (h3, .inr (2, [.int 7, .int 600, .ref h5, .int 1])), (h5, .inl (K 0, 112, .inl (upd (upd (upd (upd (upd (upd (fun _ => 0) 0 10) 1 p0) 2 0) 3 0) 4 0) 5 p0)))] _ := hP
    have hD : va_D A [(h0, .inr (0, [.ref h7, .ref h1, .ref h2, .ref h8, .ref h3, .ref h9, .ref h10, .int 0, .int 0, .int 0, .null])), (h1, .inr (4, [.ref h11, .int 0])), (h2, .inr (5, [.int 2, .ref h4])), (h4, .inr (4, [.ref h6, .int 1])), (h6, .inl (K 3, 9, .inr (.inr (.inr (.inr (va_up (fun _ => none) 0 (some q6))))))), (q3, .inl (K 0, 400, .inl (fun _ => 0))), (q4, .inl (K 2, 200, .inl (fun _ => 0))), (q5, .inr (6, [.ref q3, .int 0])), (q6, .inr (3, [.int 0, .int 0, .int p0, .int (-1), .int (-1), .int 0, .int 0, .int 0, .int 0, .int 0, .int 0, .int 0, .ref q5, .ref q4, .int 0, .null])), (h3, .inr (2, [.int 7, .int 600, .ref h5, .int 1])), (h5, .inl (K 0, 112, .inl (upd (upd (upd (upd (upd (upd (fun _ => 0) 0 10) 1 p0) 2 0) 3 0) 4 0) 5 p0)))] := hD
    refine lv_aload_n hx hb dX0_enact_105 rfl (lv_at hl 1 rfl) ?_
    refine va_get (D := G) (ci := 0) (v := .ref h3) (C := RX0) (T := TX0) (N := 11) hx hb hts iX0 hown hK hP 0 rfl rfl 4 (by decide) (hw (.fieldLink RX0 41 "MotionFloor$Assembly" "minutes" "LMotionFloor$Ledger;") (List.mem_of_getElem? (i := 7) rfl)) (fun _ h9 => h9) rfl dX0_enact_106 ?_
    refine lv_bipush (v := 6) hx hb dX0_enact_109 (by decide) ?_
    refine lv_aload_n hx hb dX0_enact_111 rfl (lv_at hl 1 rfl) ?_
    refine va_get (D := G) (ci := 0) (v := .ref h1) (C := RX0) (T := TX0) (N := 11) hx hb hts iX0 hown hK hP 0 rfl rfl 1 (by decide) (hw (.fieldLink RX0 21 "MotionFloor$Assembly" "pending" "LMotionFloor$Pile;") (List.mem_of_getElem? (i := 15) rfl)) (fun _ h9 => h9) rfl dX0_enact_112 ?_
    refine va_get (D := G) (ci := 4) (v := .int 0) (C := RX5) (T := TX5) (N := 2) hx hb hts iX5 hown hK hP 1 rfl rfl 1 (by decide) (hw (.fieldLink RX0 96 "MotionFloor$Pile" "size" "I") (List.mem_of_getElem? (i := 16) rfl)) (fun _ h9 => h9) rfl dX0_enact_115 ?_
    have hPc := hP.sub (ws' := [(h3, .inr (2, [.int 7, .int 600, .ref h5, .int 1])), (h5, .inl (K 0, 112, .inl (upd (upd (upd (upd (upd (upd (fun _ => 0) 0 10) 1 p0) 2 0) 3 0) 4 0) 5 p0)))]) [9, 10] rfl
    have hDc := hD.sub (ws' := [(h3, .inr (2, [.int 7, .int 600, .ref h5, .int 1])), (h5, .inl (K 0, 112, .inl (upd (upd (upd (upd (upd (upd (fun _ => 0) 0 10) 1 p0) 2 0) 3 0) 4 0) 5 p0)))]) [9, 10] (by decide) rfl
    refine wGov (wc := [(h3, .inr (2, [.int 7, .int 600, .ref h5, .int 1])), (h5, .inl (K 0, 112, .inl (upd (upd (upd (upd (upd (upd (fun _ => 0) 0 10) 1 p0) 2 0) 3 0) 4 0) 5 p0)))]) (wr := [(h0, .inr (0, [.ref h7, .ref h1, .ref h2, .ref h8, .ref h3, .ref h9, .ref h10, .int 0, .int 0, .int 0, .null])), (h1, .inr (4, [.ref h11, .int 0])), (h2, .inr (5, [.int 2, .ref h4])), (h4, .inr (4, [.ref h6, .int 1])), (h6, .inl (K 3, 9, .inr (.inr (.inr (.inr (va_up (fun _ => none) 0 (some q6))))))), (q3, .inl (K 0, 400, .inl (fun _ => 0))), (q4, .inl (K 2, 200, .inl (fun _ => 0))), (q5, .inr (6, [.ref q3, .int 0])), (q6, .inr (3, [.int 0, .int 0, .int p0, .int (-1), .int (-1), .int 0, .int 0, .int 0, .int 0, .int 0, .int 0, .int 0, .ref q5, .ref q4, .int 0, .null]))]) (va_runV (As := [.int 6, .int 0]) (rest := []) ⟨hx, hb, hml, hown, hts⟩ (m_X3_write_34 l G K h3 h5 p0 _ (by omega)) (cwV 2 hts (wGV t_ (mw (.methodLink RX0 169 yX3_write) (List.mem_of_getElem? (i := 12) rfl)) (mw (.instanceMethod yX3_write) (List.mem_of_getElem? (i := 13) rfl)) (mw (.selects RX3 yX3_write yX3_write) (List.mem_of_getElem? (i := 14) rfl)) (mw (.initialized RX3) (List.mem_of_getElem? (i := 11) rfl)) j_X3_write_34) rfl rfl rfl (by decide +kernel) ⟨Nat.le_of_ble_eq_true rfl, Nat.le_of_ble_eq_true rfl⟩) (wPV hK hE hPc hDc 2 0 rfl rfl) rfl rfl hl.1 rfl (lv_room (Nat.le_of_ble_eq_true rfl)) dX0_enact_118 ⟨Nat.le_of_ble_eq_true rfl, Nat.le_of_ble_eq_true rfl⟩) hP hD hS hA [9, 10] [0, 1, 2, 3, 4, 5, 6, 7, 8] rfl rfl rfl (by decide) (fun u H locs hw hP hD hS => ?_)
    subst hw
    have hP : va_P G vwCl [(h0, .inr (0, [.ref h7, .ref h1, .ref h2, .ref h8, .ref h3, .ref h9, .ref h10, .int 0, .int 0, .int 0, .null])), (h1, .inr (4, [.ref h11, .int 0])), (h2, .inr (5, [.int 2, .ref h4])), (h4, .inr (4, [.ref h6, .int 1])), (h6, .inl (K 3, 9, .inr (.inr (.inr (.inr (va_up (fun _ => none) 0 (some q6))))))), (q3, .inl (K 0, 400, .inl (fun _ => 0))), (q4, .inl (K 2, 200, .inl (fun _ => 0))), (q5, .inr (6, [.ref q3, .int 0])), (q6, .inr (3, [.int 0, .int 0, .int p0, .int (-1), .int (-1), .int 0, .int 0, .int 0, .int 0, .int 0, .int 0, .int 0, .ref q5, .ref q4, .int 0, .null])), (h3, .inr (2, [.int 7, .int 600, .ref h5, .int 1])), (h5, .inl (K 0, 112, .inl (upd (upd (upd (upd (upd (upd (upd (fun _ => 0) 0 10) 1 p0) 2 0) 3 0) 4 0) 5 p0) 6 0)))] _ := hP
    have hD : va_D A [(h0, .inr (0, [.ref h7, .ref h1, .ref h2, .ref h8, .ref h3, .ref h9, .ref h10, .int 0, .int 0, .int 0, .null])), (h1, .inr (4, [.ref h11, .int 0])), (h2, .inr (5, [.int 2, .ref h4])), (h4, .inr (4, [.ref h6, .int 1])), (h6, .inl (K 3, 9, .inr (.inr (.inr (.inr (va_up (fun _ => none) 0 (some q6))))))), (q3, .inl (K 0, 400, .inl (fun _ => 0))), (q4, .inl (K 2, 200, .inl (fun _ => 0))), (q5, .inr (6, [.ref q3, .int 0])), (q6, .inr (3, [.int 0, .int 0, .int p0, .int (-1), .int (-1), .int 0, .int 0, .int 0, .int 0, .int 0, .int 0, .int 0, .ref q5, .ref q4, .int 0, .null])), (h3, .inr (2, [.int 7, .int 600, .ref h5, .int 1])), (h5, .inl (K 0, 112, .inl (upd (upd (upd (upd (upd (upd (upd (fun _ => 0) 0 10) 1 p0) 2 0) 3 0) 4 0) 5 p0) 6 0)))] := hD
    refine lv_iload hx hb dX0_enact_121 (lv_at hl 0 rfl) ?_
    have hP9 := hP.sub (ws' := [(h0, .inr (0, [.ref h7, .ref h1, .ref h2, .ref h8, .ref h3, .ref h9, .ref h10, .int 0, .int 0, .int 0, .null])), (h1, .inr (4, [.ref h11, .int 0])), (h2, .inr (5, [.int 2, .ref h4])), (h3, .inr (2, [.int 7, .int 600, .ref h5, .int 1])), (h4, .inr (4, [.ref h6, .int 1])), (h5, .inl (K 0, 112, .inl (upd (upd (upd (upd (upd (upd (upd (fun _ => 0) 0 10) 1 p0) 2 0) 3 0) 4 0) 5 p0) 6 0))), (h6, .inl (K 3, 9, .inr (.inr (.inr (.inr (va_up (fun _ => none) 0 (some q6))))))), (q3, .inl (K 0, 400, .inl (fun _ => 0))), (q4, .inl (K 2, 200, .inl (fun _ => 0))), (q5, .inr (6, [.ref q3, .int 0])), (q6, .inr (3, [.int 0, .int 0, .int p0, .int (-1), .int (-1), .int 0, .int 0, .int 0, .int 0, .int 0, .int 0, .int 0, .ref q5, .ref q4, .int 0, .null]))]) [0, 1, 2, 9, 3, 10, 4, 5, 6, 7, 8] rfl
    have hD9 := hD.sub (ws' := [(h0, .inr (0, [.ref h7, .ref h1, .ref h2, .ref h8, .ref h3, .ref h9, .ref h10, .int 0, .int 0, .int 0, .null])), (h1, .inr (4, [.ref h11, .int 0])), (h2, .inr (5, [.int 2, .ref h4])), (h3, .inr (2, [.int 7, .int 600, .ref h5, .int 1])), (h4, .inr (4, [.ref h6, .int 1])), (h5, .inl (K 0, 112, .inl (upd (upd (upd (upd (upd (upd (upd (fun _ => 0) 0 10) 1 p0) 2 0) 3 0) 4 0) 5 p0) 6 0))), (h6, .inl (K 3, 9, .inr (.inr (.inr (.inr (va_up (fun _ => none) 0 (some q6))))))), (q3, .inl (K 0, 400, .inl (fun _ => 0))), (q4, .inl (K 2, 200, .inl (fun _ => 0))), (q5, .inr (6, [.ref q3, .int 0])), (q6, .inr (3, [.int 0, .int 0, .int p0, .int (-1), .int (-1), .int 0, .int 0, .int 0, .int 0, .int 0, .int 0, .int 0, .ref q5, .ref q4, .int 0, .null]))]) [0, 1, 2, 9, 3, 10, 4, 5, 6, 7, 8] (by decide) rfl
    refine W.widen (k := 4) (n := 618) (Nat.le_of_ble_eq_true rfl) (Nat.le_of_ble_eq_true rfl) ?_
    exact W.iret (v := p0) hx hb hr (fun t ht hW => ⟨⟨p0, _, rfl, Or.inr (⟨q3, q4, q5, q6, (by first | omega | decide | simp), rfl, rfl⟩), by rw [ht]; exact hP9, hD9⟩, hS.F ht⟩) hS.2.2 dX0_enact_123
def e_X10_draft_0 : List Cond := [.fieldLink RX10 10 "MotionFloor" "now" "LMotionFloor$Assembly;", .methodLink RX10 32 yX0_enact, .instanceMethod yX0_enact, .selects RX0 yX0_enact yX0_enact, .initialized RX0]
def v_X10_draft_0 : List Cond := .code yX10_draft cX10_draft 2 (some .int) :: (e_X10_draft_0 ++ (wsX100 ++ (v_X0_enact_9 ++ [])))
theorem te_X10_draft_0 : GoodIn lw_tbl e_X10_draft_0 := wGc z115 (wGc z209 (wGc z208 (wGc z207 (wGc z118 (wG0)))))
theorem t_X10_draft_0 : GoodIn lw_tbl v_X10_draft_0 := wGc z310 (wGa te_X10_draft_0 (wGa zcX10 (wGa t_X0_enact_9 (wG0))))
set_option maxHeartbeats 4000000 in
set_option maxRecDepth 100000 in
theorem m_X10_draft_0 (l : Launch) (G : va_G) (K : Nat → ClassId) (h0 h1 h2 h3 h4 h5 h6 h7 h8 h9 h10 h11 h12 h13 h14 : Nat) (p0 : Int32) (sz : Nat) : Met l yX10_draft v_X10_draft_0 ({ frames := 7, cells := 4, slots := 618, locals := 147 }) (va_Pc [.ref h0, .int p0] (wS G K sz [(h0, .inr (7, [.ref h1, .ref h8, .null, .null, .ref h9])), (h1, .inr (0, [.ref h10, .ref h2, .ref h3, .ref h11, .ref h4, .ref h12, .ref h13, .int 0, .int 0, .int 0, .null])), (h2, .inr (4, [.ref h14, .int 0])), (h3, .inr (5, [.int 0, .ref h5])), (h4, .inr (2, [.int 7, .int 600, .ref h6, .int 0])), (h5, .inr (4, [.ref h7, .int 0])), (h6, .inl (K 0, 112, .inl (fun _ => 0))), (h7, .inl (K 3, 9, .inr (.inr (.inr (.inr (fun _ => none))))))])) (va_Qi (fun (r : Int32) (u : va_W) => (((((p0.toInt < 1 ∨ (p0.toInt ≥ 1 ∧ p0.toInt > 8))))) ∧ r = (-9) ∧ u = [(h0, .inr (7, [.ref h1, .ref h8, .null, .null, .ref h9])), (h1, .inr (0, [.ref h10, .ref h2, .ref h3, .ref h11, .ref h4, .ref h12, .ref h13, .int 0, .int 0, .int 9, .null])), (h2, .inr (4, [.ref h14, .int 0])), (h3, .inr (5, [.int 0, .ref h5])), (h4, .inr (2, [.int 7, .int 600, .ref h6, .int 0])), (h5, .inr (4, [.ref h7, .int 0])), (h6, .inl (K 0, 112, .inl (fun _ => 0))), (h7, .inl (K 3, 9, .inr (.inr (.inr (.inr (fun _ => none))))))]) ∨ (∃ n0 n1 n2 n3 : Nat, (((((p0.toInt ≥ 1 ∧ p0.toInt ≤ 8))))) ∧ r = p0 ∧ u = [(h0, .inr (7, [.ref h1, .ref h8, .null, .null, .ref h9])), (h1, .inr (0, [.ref h10, .ref h2, .ref h3, .ref h11, .ref h4, .ref h12, .ref h13, .int 0, .int 0, .int 0, .null])), (h2, .inr (4, [.ref h14, .int 0])), (h3, .inr (5, [.int 2, .ref h5])), (h4, .inr (2, [.int 7, .int 600, .ref h6, .int 1])), (h5, .inr (4, [.ref h7, .int 1])), (h6, .inl (K 0, 112, .inl (upd (upd (upd (upd (upd (upd (upd (fun _ => 0) 0 10) 1 p0) 2 0) 3 0) 4 0) 5 p0) 6 0))), (h7, .inl (K 3, 9, .inr (.inr (.inr (.inr (va_up (fun _ => none) 0 (some n3))))))), (n0, .inl (K 0, 400, .inl (fun _ => 0))), (n1, .inl (K 2, 200, .inl (fun _ => 0))), (n2, .inr (6, [.ref n0, .int 0])), (n3, .inr (3, [.int 0, .int 0, .int p0, .int (-1), .int (-1), .int 0, .int 0, .int 0, .int 0, .int 0, .int 0, .int 0, .ref n2, .ref n1, .int 0, .null]))])) (wB G (va_A [(h0, .inr (7, [.ref h1, .ref h8, .null, .null, .ref h9])), (h1, .inr (0, [.ref h10, .ref h2, .ref h3, .ref h11, .ref h4, .ref h12, .ref h13, .int 0, .int 0, .int 0, .null])), (h2, .inr (4, [.ref h14, .int 0])), (h3, .inr (5, [.int 0, .ref h5])), (h4, .inr (2, [.int 7, .int 600, .ref h6, .int 0])), (h5, .inr (4, [.ref h7, .int 0])), (h6, .inl (K 0, 112, .inl (fun _ => 0))), (h7, .inl (K 3, 9, .inr (.inr (.inr (.inr (fun _ => none))))))] sz)) (va_A [(h0, .inr (7, [.ref h1, .ref h8, .null, .null, .ref h9])), (h1, .inr (0, [.ref h10, .ref h2, .ref h3, .ref h11, .ref h4, .ref h12, .ref h13, .int 0, .int 0, .int 0, .null])), (h2, .inr (4, [.ref h14, .int 0])), (h3, .inr (5, [.int 0, .ref h5])), (h4, .inr (2, [.int 7, .int 600, .ref h6, .int 0])), (h5, .inr (4, [.ref h7, .int 0])), (h6, .inl (K 0, 112, .inl (fun _ => 0))), (h7, .inl (K 3, 9, .inr (.inr (.inr (.inr (fun _ => none))))))] sz)) 4 618 (va_A [(h0, .inr (7, [.ref h1, .ref h8, .null, .null, .ref h9])), (h1, .inr (0, [.ref h10, .ref h2, .ref h3, .ref h11, .ref h4, .ref h12, .ref h13, .int 0, .int 0, .int 0, .null])), (h2, .inr (4, [.ref h14, .int 0])), (h3, .inr (5, [.int 0, .ref h5])), (h4, .inr (2, [.int 7, .int 600, .ref h6, .int 0])), (h5, .inr (4, [.ref h7, .int 0])), (h6, .inl (K 0, 112, .inl (fun _ => 0))), (h7, .inl (K 3, 9, .inr (.inr (.inr (.inr (fun _ => none))))))] sz) := by
  refine Met.ofW (cc := cX10_draft) (maxL := 2) (ret := (some .int)) (by decide) rfl ?_
  intro p e s m args below meth c s₁ B hml hv
  obtain ⟨rfl, hsz, hP, hK, hD0, hE⟩ := hv
  have hx := B.exec
  have hb := B.bytes
  have hr := B.returns
  have hts := atoms_spec (ws := v_X10_draft_0) B.pre
  have t_ := t_X10_draft_0
  have mw : ∀ w ∈ e_X10_draft_0, w ∈ v_X10_draft_0 := fun w h => List.mem_cons_of_mem _ (List.mem_append_left _ h)
  have hw := fun w (h : w ∈ e_X10_draft_0) => hts w (mw w h)
  have iX10 : ∀ w ∈ wsX100, w ∈ v_X10_draft_0 := fun w h => List.mem_cons_of_mem _ (List.mem_append_right _ (List.mem_append_left _ h))
  have j_X0_enact_9 : ∀ w ∈ v_X0_enact_9, w ∈ v_X10_draft_0 := fun w h => List.mem_cons_of_mem _ (List.mem_append_right _ (List.mem_append_right _ (List.mem_append_left _ h)))
  have hown : s.vm.findClass RX10 = some m.cls := findClass_of_methodNamed B.named
  have hlocks := B.notSynchronized
  subst hsz
  have hD := hD0.self (sz := s.heap.size)
  generalize hAe : va_A [(h0, .inr (7, [.ref h1, .ref h8, .null, .null, .ref h9])), (h1, .inr (0, [.ref h10, .ref h2, .ref h3, .ref h11, .ref h4, .ref h12, .ref h13, .int 0, .int 0, .int 0, .null])), (h2, .inr (4, [.ref h14, .int 0])), (h3, .inr (5, [.int 0, .ref h5])), (h4, .inr (2, [.int 7, .int 600, .ref h6, .int 0])), (h5, .inr (4, [.ref h7, .int 0])), (h6, .inl (K 0, 112, .inl (fun _ => 0))), (h7, .inl (K 3, 9, .inr (.inr (.inr (.inr (fun _ => none))))))] s.heap.size = A at hD ⊢
  have hA : ∀ q : Nat, s.heap.size ≤ q → A q := fun q h => by rw [← hAe]; exact Or.inr h
  have hS : va_S A s.heap s.heap [] := va_S.rf
  have hP : va_P G vwCl [(h0, .inr (7, [.ref h1, .ref h8, .null, .null, .ref h9])), (h1, .inr (0, [.ref h10, .ref h2, .ref h3, .ref h11, .ref h4, .ref h12, .ref h13, .int 0, .int 0, .int 0, .null])), (h2, .inr (4, [.ref h14, .int 0])), (h3, .inr (5, [.int 0, .ref h5])), (h4, .inr (2, [.int 7, .int 600, .ref h6, .int 0])), (h5, .inr (4, [.ref h7, .int 0])), (h6, .inl (K 0, 112, .inl (fun _ => 0))), (h7, .inl (K 3, 9, .inr (.inr (.inr (.inr (fun _ => none))))))] s.heap := hP
  have hl := lv_entry ([.ref h0, .int p0]) (n := 2) (Nat.le_of_ble_eq_true rfl)
  rw [lg_entry_eq]
  generalize (lg_sl ([.ref h0, .int p0]) ++ List.replicate (2 - (lg_sl ([.ref h0, .int p0])).length) Slot.unset).toArray = ls at hl ⊢
  have hl : lv_has ls 2 [(0, .ref h0), (1, .int p0)] := hl
  refine lv_aload_n hx hb dX10_draft_0 rfl (lv_at hl 0 rfl) ?_
  refine va_get (D := G) (ci := 7) (v := .ref h1) (C := RX10) (T := TX10) (N := 5) hx hb hts iX10 hown hK hP 0 rfl rfl 0 (by decide) (hw (.fieldLink RX10 10 "MotionFloor" "now" "LMotionFloor$Assembly;") (List.mem_of_getElem? (i := 0) rfl)) (fun _ h9 => h9) rfl dX10_draft_1 ?_
  refine lv_bipush (v := 10) hx hb dX10_draft_4 (by decide) ?_
  refine lv_iload_n hx hb dX10_draft_6 rfl (lv_at hl 1 rfl) ?_
  refine lv_iconst (v := 0) hx hb dX10_draft_7 (by decide) ?_
  refine lv_iconst (v := 0) hx hb dX10_draft_8 (by decide) ?_
  refine lv_iconst (v := 0) hx hb dX10_draft_9 (by decide) ?_
  have hPc := hP.sub (ws' := [(h1, .inr (0, [.ref h10, .ref h2, .ref h3, .ref h11, .ref h4, .ref h12, .ref h13, .int 0, .int 0, .int 0, .null])), (h2, .inr (4, [.ref h14, .int 0])), (h3, .inr (5, [.int 0, .ref h5])), (h4, .inr (2, [.int 7, .int 600, .ref h6, .int 0])), (h5, .inr (4, [.ref h7, .int 0])), (h6, .inl (K 0, 112, .inl (fun _ => 0))), (h7, .inl (K 3, 9, .inr (.inr (.inr (.inr (fun _ => none))))))]) [1, 2, 3, 4, 5, 6, 7] rfl
  have hDc := hD.sub (ws' := [(h1, .inr (0, [.ref h10, .ref h2, .ref h3, .ref h11, .ref h4, .ref h12, .ref h13, .int 0, .int 0, .int 0, .null])), (h2, .inr (4, [.ref h14, .int 0])), (h3, .inr (5, [.int 0, .ref h5])), (h4, .inr (2, [.int 7, .int 600, .ref h6, .int 0])), (h5, .inr (4, [.ref h7, .int 0])), (h6, .inl (K 0, 112, .inl (fun _ => 0))), (h7, .inl (K 3, 9, .inr (.inr (.inr (.inr (fun _ => none))))))]) [1, 2, 3, 4, 5, 6, 7] (by decide) rfl
  refine wGoi (wc := [(h1, .inr (0, [.ref h10, .ref h2, .ref h3, .ref h11, .ref h4, .ref h12, .ref h13, .int 0, .int 0, .int 0, .null])), (h2, .inr (4, [.ref h14, .int 0])), (h3, .inr (5, [.int 0, .ref h5])), (h4, .inr (2, [.int 7, .int 600, .ref h6, .int 0])), (h5, .inr (4, [.ref h7, .int 0])), (h6, .inl (K 0, 112, .inl (fun _ => 0))), (h7, .inl (K 3, 9, .inr (.inr (.inr (.inr (fun _ => none))))))]) (wr := [(h0, .inr (7, [.ref h1, .ref h8, .null, .null, .ref h9]))]) (va_runV (As := [.int 10, .int p0, .int 0, .int 0, .int 0]) (rest := []) ⟨hx, hb, hml, hown, hts⟩ (m_X0_enact_9 l G K h1 h2 h3 h4 h5 h6 h7 h10 h11 h12 h13 h14 p0 _) (cwV 5 hts (wGV t_ (mw (.methodLink RX10 32 yX0_enact) (List.mem_of_getElem? (i := 1) rfl)) (mw (.instanceMethod yX0_enact) (List.mem_of_getElem? (i := 2) rfl)) (mw (.selects RX0 yX0_enact yX0_enact) (List.mem_of_getElem? (i := 3) rfl)) (mw (.initialized RX0) (List.mem_of_getElem? (i := 4) rfl)) j_X0_enact_9) rfl rfl rfl (by decide +kernel) ⟨Nat.le_of_ble_eq_true rfl, Nat.le_of_ble_eq_true rfl⟩) (wPV hK hE hPc hDc 0 0 rfl rfl) rfl rfl hl.1 rfl (lv_room (Nat.le_of_ble_eq_true rfl)) dX10_draft_10 ⟨Nat.le_of_ble_eq_true rfl, Nat.le_of_ble_eq_true rfl⟩) hP hD hS hA [1, 2, 3, 4, 5, 6, 7] [0] rfl rfl rfl (by decide) (fun r u H locs hw hP hD hS => ?_)
  rcases hw with ⟨c_w, rfl, rfl⟩ | ⟨q1, q2, q3, q4, c_w, rfl, rfl⟩
  · have c5 := c_w
    have hP : va_P G vwCl [(h0, .inr (7, [.ref h1, .ref h8, .null, .null, .ref h9])), (h1, .inr (0, [.ref h10, .ref h2, .ref h3, .ref h11, .ref h4, .ref h12, .ref h13, .int 0, .int 0, .int 9, .null])), (h2, .inr (4, [.ref h14, .int 0])), (h3, .inr (5, [.int 0, .ref h5])), (h4, .inr (2, [.int 7, .int 600, .ref h6, .int 0])), (h5, .inr (4, [.ref h7, .int 0])), (h6, .inl (K 0, 112, .inl (fun _ => 0))), (h7, .inl (K 3, 9, .inr (.inr (.inr (.inr (fun _ => none))))))] _ := hP
    have hD : va_D A [(h0, .inr (7, [.ref h1, .ref h8, .null, .null, .ref h9])), (h1, .inr (0, [.ref h10, .ref h2, .ref h3, .ref h11, .ref h4, .ref h12, .ref h13, .int 0, .int 0, .int 9, .null])), (h2, .inr (4, [.ref h14, .int 0])), (h3, .inr (5, [.int 0, .ref h5])), (h4, .inr (2, [.int 7, .int 600, .ref h6, .int 0])), (h5, .inr (4, [.ref h7, .int 0])), (h6, .inl (K 0, 112, .inl (fun _ => 0))), (h7, .inl (K 3, 9, .inr (.inr (.inr (.inr (fun _ => none))))))] := hD
    have hP9 : va_P G vwCl [(h0, .inr (7, [.ref h1, .ref h8, .null, .null, .ref h9])), (h1, .inr (0, [.ref h10, .ref h2, .ref h3, .ref h11, .ref h4, .ref h12, .ref h13, .int 0, .int 0, .int 9, .null])), (h2, .inr (4, [.ref h14, .int 0])), (h3, .inr (5, [.int 0, .ref h5])), (h4, .inr (2, [.int 7, .int 600, .ref h6, .int 0])), (h5, .inr (4, [.ref h7, .int 0])), (h6, .inl (K 0, 112, .inl (fun _ => 0))), (h7, .inl (K 3, 9, .inr (.inr (.inr (.inr (fun _ => none))))))] _ := hP
    have hD9 : va_D A [(h0, .inr (7, [.ref h1, .ref h8, .null, .null, .ref h9])), (h1, .inr (0, [.ref h10, .ref h2, .ref h3, .ref h11, .ref h4, .ref h12, .ref h13, .int 0, .int 0, .int 9, .null])), (h2, .inr (4, [.ref h14, .int 0])), (h3, .inr (5, [.int 0, .ref h5])), (h4, .inr (2, [.int 7, .int 600, .ref h6, .int 0])), (h5, .inr (4, [.ref h7, .int 0])), (h6, .inl (K 0, 112, .inl (fun _ => 0))), (h7, .inl (K 3, 9, .inr (.inr (.inr (.inr (fun _ => none))))))] := hD
    refine W.widen (k := 4) (n := 618) (Nat.le_of_ble_eq_true rfl) (Nat.le_of_ble_eq_true rfl) ?_
    exact W.iret (v := (-9)) hx hb hr (fun t ht hW => ⟨⟨(-9), _, rfl, Or.inl ⟨(by first | omega | decide | simp), rfl, rfl⟩, by rw [ht]; exact hP9, hD9⟩, hS.F ht⟩) hS.2.2 dX10_draft_13
  · have c6 := c_w
    have hP : va_P G vwCl [(h0, .inr (7, [.ref h1, .ref h8, .null, .null, .ref h9])), (h1, .inr (0, [.ref h10, .ref h2, .ref h3, .ref h11, .ref h4, .ref h12, .ref h13, .int 0, .int 0, .int 0, .null])), (h2, .inr (4, [.ref h14, .int 0])), (h3, .inr (5, [.int 2, .ref h5])), (h4, .inr (2, [.int 7, .int 600, .ref h6, .int 1])), (h5, .inr (4, [.ref h7, .int 1])), (h6, .inl (K 0, 112, .inl (upd (upd (upd (upd (upd (upd (upd (fun _ => 0) 0 10) 1 p0) 2 0) 3 0) 4 0) 5 p0) 6 0))), (h7, .inl (K 3, 9, .inr (.inr (.inr (.inr (va_up (fun _ => none) 0 (some q4))))))), (q1, .inl (K 0, 400, .inl (fun _ => 0))), (q2, .inl (K 2, 200, .inl (fun _ => 0))), (q3, .inr (6, [.ref q1, .int 0])), (q4, .inr (3, [.int 0, .int 0, .int p0, .int (-1), .int (-1), .int 0, .int 0, .int 0, .int 0, .int 0, .int 0, .int 0, .ref q3, .ref q2, .int 0, .null]))] _ := hP
    have hD : va_D A [(h0, .inr (7, [.ref h1, .ref h8, .null, .null, .ref h9])), (h1, .inr (0, [.ref h10, .ref h2, .ref h3, .ref h11, .ref h4, .ref h12, .ref h13, .int 0, .int 0, .int 0, .null])), (h2, .inr (4, [.ref h14, .int 0])), (h3, .inr (5, [.int 2, .ref h5])), (h4, .inr (2, [.int 7, .int 600, .ref h6, .int 1])), (h5, .inr (4, [.ref h7, .int 1])), (h6, .inl (K 0, 112, .inl (upd (upd (upd (upd (upd (upd (upd (fun _ => 0) 0 10) 1 p0) 2 0) 3 0) 4 0) 5 p0) 6 0))), (h7, .inl (K 3, 9, .inr (.inr (.inr (.inr (va_up (fun _ => none) 0 (some q4))))))), (q1, .inl (K 0, 400, .inl (fun _ => 0))), (q2, .inl (K 2, 200, .inl (fun _ => 0))), (q3, .inr (6, [.ref q1, .int 0])), (q4, .inr (3, [.int 0, .int 0, .int p0, .int (-1), .int (-1), .int 0, .int 0, .int 0, .int 0, .int 0, .int 0, .int 0, .ref q3, .ref q2, .int 0, .null]))] := hD
    have hP9 : va_P G vwCl [(h0, .inr (7, [.ref h1, .ref h8, .null, .null, .ref h9])), (h1, .inr (0, [.ref h10, .ref h2, .ref h3, .ref h11, .ref h4, .ref h12, .ref h13, .int 0, .int 0, .int 0, .null])), (h2, .inr (4, [.ref h14, .int 0])), (h3, .inr (5, [.int 2, .ref h5])), (h4, .inr (2, [.int 7, .int 600, .ref h6, .int 1])), (h5, .inr (4, [.ref h7, .int 1])), (h6, .inl (K 0, 112, .inl (upd (upd (upd (upd (upd (upd (upd (fun _ => 0) 0 10) 1 p0) 2 0) 3 0) 4 0) 5 p0) 6 0))), (h7, .inl (K 3, 9, .inr (.inr (.inr (.inr (va_up (fun _ => none) 0 (some q4))))))), (q1, .inl (K 0, 400, .inl (fun _ => 0))), (q2, .inl (K 2, 200, .inl (fun _ => 0))), (q3, .inr (6, [.ref q1, .int 0])), (q4, .inr (3, [.int 0, .int 0, .int p0, .int (-1), .int (-1), .int 0, .int 0, .int 0, .int 0, .int 0, .int 0, .int 0, .ref q3, .ref q2, .int 0, .null]))] _ := hP
    have hD9 : va_D A [(h0, .inr (7, [.ref h1, .ref h8, .null, .null, .ref h9])), (h1, .inr (0, [.ref h10, .ref h2, .ref h3, .ref h11, .ref h4, .ref h12, .ref h13, .int 0, .int 0, .int 0, .null])), (h2, .inr (4, [.ref h14, .int 0])), (h3, .inr (5, [.int 2, .ref h5])), (h4, .inr (2, [.int 7, .int 600, .ref h6, .int 1])), (h5, .inr (4, [.ref h7, .int 1])), (h6, .inl (K 0, 112, .inl (upd (upd (upd (upd (upd (upd (upd (fun _ => 0) 0 10) 1 p0) 2 0) 3 0) 4 0) 5 p0) 6 0))), (h7, .inl (K 3, 9, .inr (.inr (.inr (.inr (va_up (fun _ => none) 0 (some q4))))))), (q1, .inl (K 0, 400, .inl (fun _ => 0))), (q2, .inl (K 2, 200, .inl (fun _ => 0))), (q3, .inr (6, [.ref q1, .int 0])), (q4, .inr (3, [.int 0, .int 0, .int p0, .int (-1), .int (-1), .int 0, .int 0, .int 0, .int 0, .int 0, .int 0, .int 0, .ref q3, .ref q2, .int 0, .null]))] := hD
    refine W.widen (k := 4) (n := 618) (Nat.le_of_ble_eq_true rfl) (Nat.le_of_ble_eq_true rfl) ?_
    exact W.iret (v := p0) hx hb hr (fun t ht hW => ⟨⟨p0, _, rfl, Or.inr (⟨q1, q2, q3, q4, (by first | omega | decide | simp), rfl, rfl⟩), by rw [ht]; exact hP9, hD9⟩, hS.F ht⟩) hS.2.2 dX10_draft_13
def e_X6_motion_0 : List Cond := [.fieldLink RX6 9 "MotionFloor$Place" "sort" "I"]
def v_X6_motion_0 : List Cond := .code yX6_motion cX6_motion 1 (some (.object "MotionFloor$Motion")) :: (e_X6_motion_0 ++ (wsX60 ++ []))
theorem te_X6_motion_0 : GoodIn lw_tbl e_X6_motion_0 := wGc z29 (wG0)
theorem t_X6_motion_0 : GoodIn lw_tbl v_X6_motion_0 := wGc z311 (wGa te_X6_motion_0 (wGa zcX6 (wG0)))
set_option maxHeartbeats 4000000 in
set_option maxRecDepth 100000 in
theorem m_X6_motion_0 (l : Launch) (G : va_G) (K : Nat → ClassId) (h0 h1 : Nat) (sz : Nat) : Met l yX6_motion v_X6_motion_0 ({ frames := 0, cells := 0, slots := 0, locals := 0 }) (va_Pc [.ref h0] (wS G K sz [(h0, .inr (5, [.int 0, .ref h1]))])) (va_Qq (fun (r : Option Nat) (u : va_W) => (r = none ∧ u = [(h0, .inr (5, [.int 0, .ref h1]))])) (wB G (va_A [(h0, .inr (5, [.int 0, .ref h1]))] sz)) (va_A [(h0, .inr (5, [.int 0, .ref h1]))] sz)) 0 0 (va_A [(h0, .inr (5, [.int 0, .ref h1]))] sz) := by
  refine Met.ofW (cc := cX6_motion) (maxL := 1) (ret := (some (.object "MotionFloor$Motion"))) (by decide) rfl ?_
  intro p e s m args below meth c s₁ B hml hv
  obtain ⟨rfl, hsz, hP, hK, hD0, hE⟩ := hv
  have hx := B.exec
  have hb := B.bytes
  have hr := B.returns
  have hts := atoms_spec (ws := v_X6_motion_0) B.pre
  have t_ := t_X6_motion_0
  have mw : ∀ w ∈ e_X6_motion_0, w ∈ v_X6_motion_0 := fun w h => List.mem_cons_of_mem _ (List.mem_append_left _ h)
  have hw := fun w (h : w ∈ e_X6_motion_0) => hts w (mw w h)
  have iX6 : ∀ w ∈ wsX60, w ∈ v_X6_motion_0 := fun w h => List.mem_cons_of_mem _ (List.mem_append_right _ (List.mem_append_left _ h))
  have hown : s.vm.findClass RX6 = some m.cls := findClass_of_methodNamed B.named
  have hlocks := B.notSynchronized
  subst hsz
  have hD := hD0.self (sz := s.heap.size)
  generalize hAe : va_A [(h0, .inr (5, [.int 0, .ref h1]))] s.heap.size = A at hD ⊢
  have hA : ∀ q : Nat, s.heap.size ≤ q → A q := fun q h => by rw [← hAe]; exact Or.inr h
  have hS : va_S A s.heap s.heap [] := va_S.rf
  have hP : va_P G vwCl [(h0, .inr (5, [.int 0, .ref h1]))] s.heap := hP
  have hl := lv_entry ([.ref h0]) (n := 1) (Nat.le_of_ble_eq_true rfl)
  rw [lg_entry_eq]
  generalize (lg_sl ([.ref h0]) ++ List.replicate (1 - (lg_sl ([.ref h0])).length) Slot.unset).toArray = ls at hl ⊢
  have hl : lv_has ls 1 [(0, .ref h0)] := hl
  refine lv_aload_n hx hb dX6_motion_0 rfl (lv_at hl 0 rfl) ?_
  refine va_get (D := G) (ci := 5) (v := .int 0) (C := RX6) (T := TX6) (N := 2) hx hb hts iX6 hown hK hP 0 rfl rfl 0 (by decide) (hw (.fieldLink RX6 9 "MotionFloor$Place" "sort" "I") (List.mem_of_getElem? (i := 0) rfl)) (fun _ h9 => h9) rfl dX6_motion_1 ?_
  refine lv_iconst (v := 2) hx hb dX6_motion_4 (by decide) ?_
  refine lv_icmp_ne (tgt := 19) hx hb dX6_motion_5 (by decide) (fun _ => ?_) (fun c_ => absurd c_ (by decide))
  refine lv_null hx hb dX6_motion_19 ?_
  have hP9 : va_P G vwCl [(h0, .inr (5, [.int 0, .ref h1]))] _ := hP
  have hD9 : va_D A [(h0, .inr (5, [.int 0, .ref h1]))] := hD
  exact W.aret (v := .null) hx hb hr (Or.inl ⟨_, rfl⟩) (Or.inl rfl) (fun t ht hW => ⟨⟨none, _, rfl, ⟨rfl, rfl⟩, by rw [ht]; exact hP9, hD9⟩, hS.F ht⟩) hS.2.2 dX6_motion_20
def e_X8_againstSpan_0 : List Cond := [.fieldLink RX8 141 "MotionFloor$Assembly" "draft" "LMotionFloor$Place;", .methodLink RX8 145 yX6_motion, .instanceMethod yX6_motion, .selects RX6 yX6_motion yX6_motion, .initialized RX6]
def v_X8_againstSpan_0 : List Cond := .code yX8_againstSpan cX8_againstSpan 4 (some .int) :: (e_X8_againstSpan_0 ++ (wsX00 ++ (v_X6_motion_0 ++ [])))
theorem te_X8_againstSpan_0 : GoodIn lw_tbl e_X8_againstSpan_0 := wGc z315 (wGc z314 (wGc z313 (wGc z312 (wGc z95 (wG0)))))
theorem t_X8_againstSpan_0 : GoodIn lw_tbl v_X8_againstSpan_0 := wGc z316 (wGa te_X8_againstSpan_0 (wGa zcX0 (wGa t_X6_motion_0 (wG0))))
set_option maxHeartbeats 4000000 in
set_option maxRecDepth 100000 in
theorem m_X8_againstSpan_0 (l : Launch) (G : va_G) (K : Nat → ClassId) (h0 h1 h2 h3 h4 h5 h6 h7 h8 : Nat) (p0 p1 : Int32) (sz : Nat) : Met l yX8_againstSpan v_X8_againstSpan_0 ({ frames := 1, cells := 0, slots := 0, locals := 20 }) (va_Pc [.ref h0, .int p0, .int p1] (wS G K sz [(h0, .inr (0, [.ref h2, .ref h3, .ref h1, .ref h4, .ref h5, .ref h6, .ref h7, .int 0, .int 0, .int 0, .null])), (h1, .inr (5, [.int 0, .ref h8]))])) (va_Qi (fun (r : Int32) (u : va_W) => (r = 11 ∧ u = [(h0, .inr (0, [.ref h2, .ref h3, .ref h1, .ref h4, .ref h5, .ref h6, .ref h7, .int 0, .int 0, .int 0, .null])), (h1, .inr (5, [.int 0, .ref h8]))])) (wB G (va_A [(h0, .inr (0, [.ref h2, .ref h3, .ref h1, .ref h4, .ref h5, .ref h6, .ref h7, .int 0, .int 0, .int 0, .null])), (h1, .inr (5, [.int 0, .ref h8]))] sz)) (va_A [(h0, .inr (0, [.ref h2, .ref h3, .ref h1, .ref h4, .ref h5, .ref h6, .ref h7, .int 0, .int 0, .int 0, .null])), (h1, .inr (5, [.int 0, .ref h8]))] sz)) 0 0 (va_A [(h0, .inr (0, [.ref h2, .ref h3, .ref h1, .ref h4, .ref h5, .ref h6, .ref h7, .int 0, .int 0, .int 0, .null])), (h1, .inr (5, [.int 0, .ref h8]))] sz) := by
  refine Met.ofW (cc := cX8_againstSpan) (maxL := 4) (ret := (some .int)) (by decide) rfl ?_
  intro p e s m args below meth c s₁ B hml hv
  obtain ⟨rfl, hsz, hP, hK, hD0, hE⟩ := hv
  have hx := B.exec
  have hb := B.bytes
  have hr := B.returns
  have hts := atoms_spec (ws := v_X8_againstSpan_0) B.pre
  have t_ := t_X8_againstSpan_0
  have mw : ∀ w ∈ e_X8_againstSpan_0, w ∈ v_X8_againstSpan_0 := fun w h => List.mem_cons_of_mem _ (List.mem_append_left _ h)
  have hw := fun w (h : w ∈ e_X8_againstSpan_0) => hts w (mw w h)
  have iX0 : ∀ w ∈ wsX00, w ∈ v_X8_againstSpan_0 := fun w h => List.mem_cons_of_mem _ (List.mem_append_right _ (List.mem_append_left _ h))
  have j_X6_motion_0 : ∀ w ∈ v_X6_motion_0, w ∈ v_X8_againstSpan_0 := fun w h => List.mem_cons_of_mem _ (List.mem_append_right _ (List.mem_append_right _ (List.mem_append_left _ h)))
  have hown : s.vm.findClass RX8 = some m.cls := findClass_of_methodNamed B.named
  have hlocks := B.notSynchronized
  subst hsz
  have hD := hD0.self (sz := s.heap.size)
  generalize hAe : va_A [(h0, .inr (0, [.ref h2, .ref h3, .ref h1, .ref h4, .ref h5, .ref h6, .ref h7, .int 0, .int 0, .int 0, .null])), (h1, .inr (5, [.int 0, .ref h8]))] s.heap.size = A at hD ⊢
  have hA : ∀ q : Nat, s.heap.size ≤ q → A q := fun q h => by rw [← hAe]; exact Or.inr h
  have hS : va_S A s.heap s.heap [] := va_S.rf
  have hP : va_P G vwCl [(h0, .inr (0, [.ref h2, .ref h3, .ref h1, .ref h4, .ref h5, .ref h6, .ref h7, .int 0, .int 0, .int 0, .null])), (h1, .inr (5, [.int 0, .ref h8]))] s.heap := hP
  have hl := lv_entry ([.ref h0, .int p0, .int p1]) (n := 4) (Nat.le_of_ble_eq_true rfl)
  rw [lg_entry_eq]
  generalize (lg_sl ([.ref h0, .int p0, .int p1]) ++ List.replicate (4 - (lg_sl ([.ref h0, .int p0, .int p1])).length) Slot.unset).toArray = ls at hl ⊢
  have hl : lv_has ls 4 [(0, .ref h0), (1, .int p0), (2, .int p1)] := hl
  refine lv_aload_n hx hb dX8_againstSpan_0 rfl (lv_at hl 0 rfl) ?_
  refine va_get (D := G) (ci := 0) (v := .ref h1) (C := RX0) (T := TX0) (N := 11) hx hb hts iX0 hown hK hP 0 rfl rfl 2 (by decide) (hw (.fieldLink RX8 141 "MotionFloor$Assembly" "draft" "LMotionFloor$Place;") (List.mem_of_getElem? (i := 0) rfl)) (fun _ h9 => h9) rfl dX8_againstSpan_1 ?_
  have hPc := hP.sub (ws' := [(h1, .inr (5, [.int 0, .ref h8]))]) [1] rfl
  have hDc := hD.sub (ws' := [(h1, .inr (5, [.int 0, .ref h8]))]) [1] (by decide) rfl
  refine wGoq (wc := [(h1, .inr (5, [.int 0, .ref h8]))]) (wr := [(h0, .inr (0, [.ref h2, .ref h3, .ref h1, .ref h4, .ref h5, .ref h6, .ref h7, .int 0, .int 0, .int 0, .null]))]) (va_runV (As := []) (rest := []) ⟨hx, hb, hml, hown, hts⟩ (m_X6_motion_0 l G K h1 h8 _) (cwV 0 hts (wGV t_ (mw (.methodLink RX8 145 yX6_motion) (List.mem_of_getElem? (i := 1) rfl)) (mw (.instanceMethod yX6_motion) (List.mem_of_getElem? (i := 2) rfl)) (mw (.selects RX6 yX6_motion yX6_motion) (List.mem_of_getElem? (i := 3) rfl)) (mw (.initialized RX6) (List.mem_of_getElem? (i := 4) rfl)) j_X6_motion_0) rfl rfl rfl (by decide +kernel) ⟨Nat.le_of_ble_eq_true rfl, Nat.le_of_ble_eq_true rfl⟩) (wPV hK hE hPc hDc 5 0 rfl rfl) rfl rfl hl.1 rfl (lv_room (Nat.le_of_ble_eq_true rfl)) dX8_againstSpan_4 ⟨Nat.le_of_ble_eq_true rfl, Nat.le_of_ble_eq_true rfl⟩) hP hD hS hA [1] [0] rfl rfl rfl (by decide) (fun r u H locs hw hP hD hS => ?_)
  rcases hw with ⟨rfl, rfl⟩
  have hP : va_P G vwCl [(h0, .inr (0, [.ref h2, .ref h3, .ref h1, .ref h4, .ref h5, .ref h6, .ref h7, .int 0, .int 0, .int 0, .null])), (h1, .inr (5, [.int 0, .ref h8]))] _ := hP
  have hD : va_D A [(h0, .inr (0, [.ref h2, .ref h3, .ref h1, .ref h4, .ref h5, .ref h6, .ref h7, .int 0, .int 0, .int 0, .null])), (h1, .inr (5, [.int 0, .ref h8]))] := hD
  refine wTop (v1 := .null) rfl ?_
  refine lv_astore_nN (lv' := [(3, .null), (0, .ref h0), (1, .int p0), (2, .int p1)]) hx hb dX8_againstSpan_7 rfl hl (by decide) rfl (fun ls hl => ?_)
  refine lv_aload_nN hx hb dX8_againstSpan_8 rfl (lv_at hl 0 rfl) ?_
  refine lv_ifnullN (tgt := 26) hx hb dX8_againstSpan_9 (by decide) ?_
  refine lv_bipush (v := 11) hx hb dX8_againstSpan_26 (by decide) ?_
  have hP9 : va_P G vwCl [(h0, .inr (0, [.ref h2, .ref h3, .ref h1, .ref h4, .ref h5, .ref h6, .ref h7, .int 0, .int 0, .int 0, .null])), (h1, .inr (5, [.int 0, .ref h8]))] _ := hP
  have hD9 : va_D A [(h0, .inr (0, [.ref h2, .ref h3, .ref h1, .ref h4, .ref h5, .ref h6, .ref h7, .int 0, .int 0, .int 0, .null])), (h1, .inr (5, [.int 0, .ref h8]))] := hD
  exact W.iret (v := 11) hx hb hr (fun t ht hW => ⟨⟨11, _, rfl, ⟨rfl, rfl⟩, by rw [ht]; exact hP9, hD9⟩, hS.F ht⟩) hS.2.2 dX8_againstSpan_28
def e_X8_againstOnPaper_1 : List Cond := [.methodLink RX8 62 yX8_againstSpan, .static yX8_againstSpan, .initialized RX8]
def v_X8_againstOnPaper_1 : List Cond := .code yX8_againstOnPaper cX8_againstOnPaper 6 (some .int) :: (e_X8_againstOnPaper_1 ++ (v_X8_againstSpan_0 ++ []))
theorem te_X8_againstOnPaper_1 : GoodIn lw_tbl e_X8_againstOnPaper_1 := wGc z318 (wGc z317 (wGc z157 (wG0)))
theorem t_X8_againstOnPaper_1 : GoodIn lw_tbl v_X8_againstOnPaper_1 := wGc z241 (wGa te_X8_againstOnPaper_1 (wGa t_X8_againstSpan_0 (wG0)))
set_option maxHeartbeats 4000000 in
set_option maxRecDepth 100000 in
theorem m_X8_againstOnPaper_1 (l : Launch) (G : va_G) (K : Nat → ClassId) (h0 h1 h2 h3 h4 h5 h6 h7 h8 : Nat) (p0 p1 : Int32) (sz : Nat) : Met l yX8_againstOnPaper v_X8_againstOnPaper_1 ({ frames := 2, cells := 0, slots := 0, locals := 43 }) (va_Pc [.ref h0, .int 11, .int p0, .int p1, .int 0, .int 0] (wS G K sz [(h0, .inr (0, [.ref h2, .ref h3, .ref h1, .ref h4, .ref h5, .ref h6, .ref h7, .int 0, .int 0, .int 0, .null])), (h1, .inr (5, [.int 0, .ref h8]))])) (va_Qi (fun (r : Int32) (u : va_W) => (r = 11 ∧ u = [(h0, .inr (0, [.ref h2, .ref h3, .ref h1, .ref h4, .ref h5, .ref h6, .ref h7, .int 0, .int 0, .int 0, .null])), (h1, .inr (5, [.int 0, .ref h8]))])) (wB G (va_A [(h0, .inr (0, [.ref h2, .ref h3, .ref h1, .ref h4, .ref h5, .ref h6, .ref h7, .int 0, .int 0, .int 0, .null])), (h1, .inr (5, [.int 0, .ref h8]))] sz)) (va_A [(h0, .inr (0, [.ref h2, .ref h3, .ref h1, .ref h4, .ref h5, .ref h6, .ref h7, .int 0, .int 0, .int 0, .null])), (h1, .inr (5, [.int 0, .ref h8]))] sz)) 0 0 (va_A [(h0, .inr (0, [.ref h2, .ref h3, .ref h1, .ref h4, .ref h5, .ref h6, .ref h7, .int 0, .int 0, .int 0, .null])), (h1, .inr (5, [.int 0, .ref h8]))] sz) := by
  refine Met.ofW (cc := cX8_againstOnPaper) (maxL := 6) (ret := (some .int)) (by decide) rfl ?_
  intro p e s m args below meth c s₁ B hml hv
  obtain ⟨rfl, hsz, hP, hK, hD0, hE⟩ := hv
  have hx := B.exec
  have hb := B.bytes
  have hr := B.returns
  have hts := atoms_spec (ws := v_X8_againstOnPaper_1) B.pre
  have t_ := t_X8_againstOnPaper_1
  have mw : ∀ w ∈ e_X8_againstOnPaper_1, w ∈ v_X8_againstOnPaper_1 := fun w h => List.mem_cons_of_mem _ (List.mem_append_left _ h)
  have hw := fun w (h : w ∈ e_X8_againstOnPaper_1) => hts w (mw w h)
  have j_X8_againstSpan_0 : ∀ w ∈ v_X8_againstSpan_0, w ∈ v_X8_againstOnPaper_1 := fun w h => List.mem_cons_of_mem _ (List.mem_append_right _ (List.mem_append_left _ h))
  have hown : s.vm.findClass RX8 = some m.cls := findClass_of_methodNamed B.named
  have hlocks := B.notSynchronized
  subst hsz
  have hD := hD0.self (sz := s.heap.size)
  generalize hAe : va_A [(h0, .inr (0, [.ref h2, .ref h3, .ref h1, .ref h4, .ref h5, .ref h6, .ref h7, .int 0, .int 0, .int 0, .null])), (h1, .inr (5, [.int 0, .ref h8]))] s.heap.size = A at hD ⊢
  have hA : ∀ q : Nat, s.heap.size ≤ q → A q := fun q h => by rw [← hAe]; exact Or.inr h
  have hS : va_S A s.heap s.heap [] := va_S.rf
  have hP : va_P G vwCl [(h0, .inr (0, [.ref h2, .ref h3, .ref h1, .ref h4, .ref h5, .ref h6, .ref h7, .int 0, .int 0, .int 0, .null])), (h1, .inr (5, [.int 0, .ref h8]))] s.heap := hP
  have hl := lv_entry ([.ref h0, .int 11, .int p0, .int p1, .int 0, .int 0]) (n := 6) (Nat.le_of_ble_eq_true rfl)
  rw [lg_entry_eq]
  generalize (lg_sl ([.ref h0, .int 11, .int p0, .int p1, .int 0, .int 0]) ++ List.replicate (6 - (lg_sl ([.ref h0, .int 11, .int p0, .int p1, .int 0, .int 0])).length) Slot.unset).toArray = ls at hl ⊢
  have hl : lv_has ls 6 [(0, .ref h0), (1, .int 11), (2, .int p0), (3, .int p1), (4, .int 0), (5, .int 0)] := hl
  refine lv_iload_n hx hb dX8_againstOnPaper_0 rfl (lv_at hl 1 rfl) ?_
  refine lv_tableIn (tgt := 54) hx hb dX8_againstOnPaper_1 (by decide) (by decide) (by decide) (by decide) ?_
  refine lv_aload_n hx hb dX8_againstOnPaper_54 rfl (lv_at hl 0 rfl) ?_
  refine lv_iload_n hx hb dX8_againstOnPaper_55 rfl (lv_at hl 2 rfl) ?_
  refine lv_iload_n hx hb dX8_againstOnPaper_56 rfl (lv_at hl 3 rfl) ?_
  have hPc := hP.sub (ws' := [(h0, .inr (0, [.ref h2, .ref h3, .ref h1, .ref h4, .ref h5, .ref h6, .ref h7, .int 0, .int 0, .int 0, .null])), (h1, .inr (5, [.int 0, .ref h8]))]) [0, 1] rfl
  have hDc := hD.sub (ws' := [(h0, .inr (0, [.ref h2, .ref h3, .ref h1, .ref h4, .ref h5, .ref h6, .ref h7, .int 0, .int 0, .int 0, .null])), (h1, .inr (5, [.int 0, .ref h8]))]) [0, 1] (by decide) rfl
  refine wGoi (wc := [(h0, .inr (0, [.ref h2, .ref h3, .ref h1, .ref h4, .ref h5, .ref h6, .ref h7, .int 0, .int 0, .int 0, .null])), (h1, .inr (5, [.int 0, .ref h8]))]) (wr := []) (va_runS (As := [.ref h0, .int p0, .int p1]) (rest := []) ⟨hx, hb, hml, hown, hts⟩ (m_X8_againstSpan_0 l G K h0 h1 h2 h3 h4 h5 h6 h7 h8 p0 p1 _) (va_cwS 3 hts (wGS t_ (mw (.methodLink RX8 62 yX8_againstSpan) (List.mem_of_getElem? (i := 0) rfl)) (mw (.static yX8_againstSpan) (List.mem_of_getElem? (i := 1) rfl)) (mw (.initialized RX8) (List.mem_of_getElem? (i := 2) rfl)) j_X8_againstSpan_0) rfl rfl rfl (by decide +kernel) ⟨Nat.le_of_ble_eq_true rfl, Nat.le_of_ble_eq_true rfl⟩) (wPS hK hE hPc hDc) rfl rfl hl.1 rfl (lv_room (Nat.le_of_ble_eq_true rfl)) dX8_againstOnPaper_57 ⟨Nat.le_of_ble_eq_true rfl, Nat.le_of_ble_eq_true rfl⟩) hP hD hS hA [0, 1] [] rfl rfl rfl (by decide) (fun r u H locs hw hP hD hS => ?_)
  rcases hw with ⟨rfl, rfl⟩
  have hP : va_P G vwCl [(h0, .inr (0, [.ref h2, .ref h3, .ref h1, .ref h4, .ref h5, .ref h6, .ref h7, .int 0, .int 0, .int 0, .null])), (h1, .inr (5, [.int 0, .ref h8]))] _ := hP
  have hD : va_D A [(h0, .inr (0, [.ref h2, .ref h3, .ref h1, .ref h4, .ref h5, .ref h6, .ref h7, .int 0, .int 0, .int 0, .null])), (h1, .inr (5, [.int 0, .ref h8]))] := hD
  have hP9 : va_P G vwCl [(h0, .inr (0, [.ref h2, .ref h3, .ref h1, .ref h4, .ref h5, .ref h6, .ref h7, .int 0, .int 0, .int 0, .null])), (h1, .inr (5, [.int 0, .ref h8]))] _ := hP
  have hD9 : va_D A [(h0, .inr (0, [.ref h2, .ref h3, .ref h1, .ref h4, .ref h5, .ref h6, .ref h7, .int 0, .int 0, .int 0, .null])), (h1, .inr (5, [.int 0, .ref h8]))] := hD
  exact W.iret (v := 11) hx hb hr (fun t ht hW => ⟨⟨11, _, rfl, ⟨rfl, rfl⟩, by rw [ht]; exact hP9, hD9⟩, hS.F ht⟩) hS.2.2 dX8_againstOnPaper_60
def e_X8_against_10 : List Cond := [.methodLink RX8 15 yX8_againstOnPaper, .static yX8_againstOnPaper, .initialized RX8]
def v_X8_against_10 : List Cond := .code yX8_against cX8_against 7 (some .int) :: (e_X8_against_10 ++ (v_X8_againstOnPaper_1 ++ []))
theorem te_X8_against_10 : GoodIn lw_tbl e_X8_against_10 := wGc z243 (wGc z242 (wGc z157 (wG0)))
theorem t_X8_against_10 : GoodIn lw_tbl v_X8_against_10 := wGc z170 (wGa te_X8_against_10 (wGa t_X8_againstOnPaper_1 (wG0)))
set_option maxHeartbeats 4000000 in
set_option maxRecDepth 100000 in
theorem m_X8_against_10 (l : Launch) (G : va_G) (K : Nat → ClassId) (h0 h1 h2 h3 h4 h5 h6 h7 h8 : Nat) (p0 p1 : Int32) (sz : Nat) : Met l yX8_against v_X8_against_10 ({ frames := 3, cells := 0, slots := 0, locals := 68 }) (va_Pc [.ref h0, .int 11, .int p0, .int p1, .int 0, .int 0] (wS G K sz [(h0, .inr (0, [.ref h2, .ref h3, .ref h1, .ref h4, .ref h5, .ref h6, .ref h7, .int 0, .int 0, .int 0, .null])), (h1, .inr (5, [.int 0, .ref h8]))])) (va_Qi (fun (r : Int32) (u : va_W) => (r = 11 ∧ u = [(h0, .inr (0, [.ref h2, .ref h3, .ref h1, .ref h4, .ref h5, .ref h6, .ref h7, .int 0, .int 0, .int 0, .null])), (h1, .inr (5, [.int 0, .ref h8]))])) (wB G (va_A [(h0, .inr (0, [.ref h2, .ref h3, .ref h1, .ref h4, .ref h5, .ref h6, .ref h7, .int 0, .int 0, .int 0, .null])), (h1, .inr (5, [.int 0, .ref h8]))] sz)) (va_A [(h0, .inr (0, [.ref h2, .ref h3, .ref h1, .ref h4, .ref h5, .ref h6, .ref h7, .int 0, .int 0, .int 0, .null])), (h1, .inr (5, [.int 0, .ref h8]))] sz)) 0 0 (va_A [(h0, .inr (0, [.ref h2, .ref h3, .ref h1, .ref h4, .ref h5, .ref h6, .ref h7, .int 0, .int 0, .int 0, .null])), (h1, .inr (5, [.int 0, .ref h8]))] sz) := by
  refine Met.ofW (cc := cX8_against) (maxL := 7) (ret := (some .int)) (by decide) rfl ?_
  intro p e s m args below meth c s₁ B hml hv
  obtain ⟨rfl, hsz, hP, hK, hD0, hE⟩ := hv
  have hx := B.exec
  have hb := B.bytes
  have hr := B.returns
  have hts := atoms_spec (ws := v_X8_against_10) B.pre
  have t_ := t_X8_against_10
  have mw : ∀ w ∈ e_X8_against_10, w ∈ v_X8_against_10 := fun w h => List.mem_cons_of_mem _ (List.mem_append_left _ h)
  have hw := fun w (h : w ∈ e_X8_against_10) => hts w (mw w h)
  have j_X8_againstOnPaper_1 : ∀ w ∈ v_X8_againstOnPaper_1, w ∈ v_X8_against_10 := fun w h => List.mem_cons_of_mem _ (List.mem_append_right _ (List.mem_append_left _ h))
  have hown : s.vm.findClass RX8 = some m.cls := findClass_of_methodNamed B.named
  have hlocks := B.notSynchronized
  subst hsz
  have hD := hD0.self (sz := s.heap.size)
  generalize hAe : va_A [(h0, .inr (0, [.ref h2, .ref h3, .ref h1, .ref h4, .ref h5, .ref h6, .ref h7, .int 0, .int 0, .int 0, .null])), (h1, .inr (5, [.int 0, .ref h8]))] s.heap.size = A at hD ⊢
  have hA : ∀ q : Nat, s.heap.size ≤ q → A q := fun q h => by rw [← hAe]; exact Or.inr h
  have hS : va_S A s.heap s.heap [] := va_S.rf
  have hP : va_P G vwCl [(h0, .inr (0, [.ref h2, .ref h3, .ref h1, .ref h4, .ref h5, .ref h6, .ref h7, .int 0, .int 0, .int 0, .null])), (h1, .inr (5, [.int 0, .ref h8]))] s.heap := hP
  have hl := lv_entry ([.ref h0, .int 11, .int p0, .int p1, .int 0, .int 0]) (n := 7) (Nat.le_of_ble_eq_true rfl)
  rw [lg_entry_eq]
  generalize (lg_sl ([.ref h0, .int 11, .int p0, .int p1, .int 0, .int 0]) ++ List.replicate (7 - (lg_sl ([.ref h0, .int 11, .int p0, .int p1, .int 0, .int 0])).length) Slot.unset).toArray = ls at hl ⊢
  have hl : lv_has ls 7 [(0, .ref h0), (1, .int 11), (2, .int p0), (3, .int p1), (4, .int 0), (5, .int 0)] := hl
  refine lv_iload_n hx hb dX8_against_0 rfl (lv_at hl 1 rfl) ?_
  refine lv_bipush (v := 9) hx hb dX8_against_1 (by decide) ?_
  refine lv_icmp_gt (tgt := 18) hx hb dX8_against_3 (by decide) (fun _ => ?_) (fun c_ => absurd c_ (by decide))
  refine lv_iload_n hx hb dX8_against_18 rfl (lv_at hl 1 rfl) ?_
  refine lv_bipush (v := 14) hx hb dX8_against_19 (by decide) ?_
  refine lv_icmp_gt (tgt := 40) hx hb dX8_against_21 (by decide) (fun c_ => absurd c_ (by decide)) (fun _ => ?_)
  refine lv_aload_n hx hb dX8_against_24 rfl (lv_at hl 0 rfl) ?_
  refine lv_iload_n hx hb dX8_against_25 rfl (lv_at hl 1 rfl) ?_
  refine lv_iload_n hx hb dX8_against_26 rfl (lv_at hl 2 rfl) ?_
  refine lv_iload_n hx hb dX8_against_27 rfl (lv_at hl 3 rfl) ?_
  refine lv_iload hx hb dX8_against_28 (lv_at hl 4 rfl) ?_
  refine lv_iload hx hb dX8_against_30 (lv_at hl 5 rfl) ?_
  have hPc := hP.sub (ws' := [(h0, .inr (0, [.ref h2, .ref h3, .ref h1, .ref h4, .ref h5, .ref h6, .ref h7, .int 0, .int 0, .int 0, .null])), (h1, .inr (5, [.int 0, .ref h8]))]) [0, 1] rfl
  have hDc := hD.sub (ws' := [(h0, .inr (0, [.ref h2, .ref h3, .ref h1, .ref h4, .ref h5, .ref h6, .ref h7, .int 0, .int 0, .int 0, .null])), (h1, .inr (5, [.int 0, .ref h8]))]) [0, 1] (by decide) rfl
  refine wGoi (wc := [(h0, .inr (0, [.ref h2, .ref h3, .ref h1, .ref h4, .ref h5, .ref h6, .ref h7, .int 0, .int 0, .int 0, .null])), (h1, .inr (5, [.int 0, .ref h8]))]) (wr := []) (va_runS (As := [.ref h0, .int 11, .int p0, .int p1, .int 0, .int 0]) (rest := []) ⟨hx, hb, hml, hown, hts⟩ (m_X8_againstOnPaper_1 l G K h0 h1 h2 h3 h4 h5 h6 h7 h8 p0 p1 _) (va_cwS 6 hts (wGS t_ (mw (.methodLink RX8 15 yX8_againstOnPaper) (List.mem_of_getElem? (i := 0) rfl)) (mw (.static yX8_againstOnPaper) (List.mem_of_getElem? (i := 1) rfl)) (mw (.initialized RX8) (List.mem_of_getElem? (i := 2) rfl)) j_X8_againstOnPaper_1) rfl rfl rfl (by decide +kernel) ⟨Nat.le_of_ble_eq_true rfl, Nat.le_of_ble_eq_true rfl⟩) (wPS hK hE hPc hDc) rfl rfl hl.1 rfl (lv_room (Nat.le_of_ble_eq_true rfl)) dX8_against_32 ⟨Nat.le_of_ble_eq_true rfl, Nat.le_of_ble_eq_true rfl⟩) hP hD hS hA [0, 1] [] rfl rfl rfl (by decide) (fun r u H locs hw hP hD hS => ?_)
  rcases hw with ⟨rfl, rfl⟩
  have hP : va_P G vwCl [(h0, .inr (0, [.ref h2, .ref h3, .ref h1, .ref h4, .ref h5, .ref h6, .ref h7, .int 0, .int 0, .int 0, .null])), (h1, .inr (5, [.int 0, .ref h8]))] _ := hP
  have hD : va_D A [(h0, .inr (0, [.ref h2, .ref h3, .ref h1, .ref h4, .ref h5, .ref h6, .ref h7, .int 0, .int 0, .int 0, .null])), (h1, .inr (5, [.int 0, .ref h8]))] := hD
  refine lv_istore (lv' := [(6, .int 11), (0, .ref h0), (1, .int 11), (2, .int p0), (3, .int p1), (4, .int 0), (5, .int 0)]) hx hb dX8_against_35 hl (by decide) rfl (fun ls hl => ?_)
  refine lv_goto (tgt := 49) hx hb dX8_against_37 (by decide) ?_
  refine lv_iload hx hb dX8_against_49 (lv_at hl 0 rfl) ?_
  refine lv_if_ne (tgt := 69) hx hb dX8_against_51 (by decide) (fun _ => ?_) (fun c_ => absurd c_ (by decide))
  refine lv_iload hx hb dX8_against_69 (lv_at hl 0 rfl) ?_
  have hP9 : va_P G vwCl [(h0, .inr (0, [.ref h2, .ref h3, .ref h1, .ref h4, .ref h5, .ref h6, .ref h7, .int 0, .int 0, .int 0, .null])), (h1, .inr (5, [.int 0, .ref h8]))] _ := hP
  have hD9 : va_D A [(h0, .inr (0, [.ref h2, .ref h3, .ref h1, .ref h4, .ref h5, .ref h6, .ref h7, .int 0, .int 0, .int 0, .null])), (h1, .inr (5, [.int 0, .ref h8]))] := hD
  exact W.iret (v := 11) hx hb hr (fun t ht hW => ⟨⟨11, _, rfl, ⟨rfl, rfl⟩, by rw [ht]; exact hP9, hD9⟩, hS.F ht⟩) hS.2.2 dX8_against_71
def e_X0_enact_10 : List Cond := [.methodLink RX0 155 yX8_against, .static yX8_against, .initialized RX8, .fieldLink RX0 73 "MotionFloor$Assembly" "reason" "I"]
def v_X0_enact_10 : List Cond := .code yX0_enact cX0_enact 7 (some .int) :: (e_X0_enact_10 ++ (wsX00 ++ (v_X8_against_10 ++ [])))
theorem te_X0_enact_10 : GoodIn lw_tbl e_X0_enact_10 := wGc z205 (wGc z204 (wGc z157 (wGc z135 (wG0))))
theorem t_X0_enact_10 : GoodIn lw_tbl v_X0_enact_10 := wGc z206 (wGa te_X0_enact_10 (wGa zcX0 (wGa t_X8_against_10 (wG0))))
set_option maxHeartbeats 4000000 in
set_option maxRecDepth 100000 in
theorem m_X0_enact_10 (l : Launch) (G : va_G) (K : Nat → ClassId) (h0 h1 h2 h3 h4 h5 h6 h7 h8 : Nat) (p0 p1 : Int32) (sz : Nat) : Met l yX0_enact v_X0_enact_10 ({ frames := 4, cells := 0, slots := 0, locals := 94 }) (va_Pc [.ref h0, .int 11, .int p0, .int p1, .int 0, .int 0] (wS G K sz [(h0, .inr (0, [.ref h2, .ref h3, .ref h1, .ref h4, .ref h5, .ref h6, .ref h7, .int 0, .int 0, .int 0, .null])), (h1, .inr (5, [.int 0, .ref h8]))])) (va_Qi (fun (r : Int32) (u : va_W) => (r = (-11) ∧ u = [(h0, .inr (0, [.ref h2, .ref h3, .ref h1, .ref h4, .ref h5, .ref h6, .ref h7, .int 0, .int 0, .int 11, .null])), (h1, .inr (5, [.int 0, .ref h8]))])) (wB G (va_A [(h0, .inr (0, [.ref h2, .ref h3, .ref h1, .ref h4, .ref h5, .ref h6, .ref h7, .int 0, .int 0, .int 0, .null])), (h1, .inr (5, [.int 0, .ref h8]))] sz)) (va_A [(h0, .inr (0, [.ref h2, .ref h3, .ref h1, .ref h4, .ref h5, .ref h6, .ref h7, .int 0, .int 0, .int 0, .null])), (h1, .inr (5, [.int 0, .ref h8]))] sz)) 0 0 (va_A [(h0, .inr (0, [.ref h2, .ref h3, .ref h1, .ref h4, .ref h5, .ref h6, .ref h7, .int 0, .int 0, .int 0, .null])), (h1, .inr (5, [.int 0, .ref h8]))] sz) := by
  refine Met.ofW (cc := cX0_enact) (maxL := 7) (ret := (some .int)) (by decide) rfl ?_
  intro p e s m args below meth c s₁ B hml hv
  obtain ⟨rfl, hsz, hP, hK, hD0, hE⟩ := hv
  have hx := B.exec
  have hb := B.bytes
  have hr := B.returns
  have hts := atoms_spec (ws := v_X0_enact_10) B.pre
  have t_ := t_X0_enact_10
  have mw : ∀ w ∈ e_X0_enact_10, w ∈ v_X0_enact_10 := fun w h => List.mem_cons_of_mem _ (List.mem_append_left _ h)
  have hw := fun w (h : w ∈ e_X0_enact_10) => hts w (mw w h)
  have iX0 : ∀ w ∈ wsX00, w ∈ v_X0_enact_10 := fun w h => List.mem_cons_of_mem _ (List.mem_append_right _ (List.mem_append_left _ h))
  have j_X8_against_10 : ∀ w ∈ v_X8_against_10, w ∈ v_X0_enact_10 := fun w h => List.mem_cons_of_mem _ (List.mem_append_right _ (List.mem_append_right _ (List.mem_append_left _ h)))
  have hown : s.vm.findClass RX0 = some m.cls := findClass_of_methodNamed B.named
  have hlocks := B.notSynchronized
  subst hsz
  have hD := hD0.self (sz := s.heap.size)
  generalize hAe : va_A [(h0, .inr (0, [.ref h2, .ref h3, .ref h1, .ref h4, .ref h5, .ref h6, .ref h7, .int 0, .int 0, .int 0, .null])), (h1, .inr (5, [.int 0, .ref h8]))] s.heap.size = A at hD ⊢
  have hA : ∀ q : Nat, s.heap.size ≤ q → A q := fun q h => by rw [← hAe]; exact Or.inr h
  have hS : va_S A s.heap s.heap [] := va_S.rf
  have hP : va_P G vwCl [(h0, .inr (0, [.ref h2, .ref h3, .ref h1, .ref h4, .ref h5, .ref h6, .ref h7, .int 0, .int 0, .int 0, .null])), (h1, .inr (5, [.int 0, .ref h8]))] s.heap := hP
  have hl := lv_entry ([.ref h0, .int 11, .int p0, .int p1, .int 0, .int 0]) (n := 7) (Nat.le_of_ble_eq_true rfl)
  rw [lg_entry_eq]
  generalize (lg_sl ([.ref h0, .int 11, .int p0, .int p1, .int 0, .int 0]) ++ List.replicate (7 - (lg_sl ([.ref h0, .int 11, .int p0, .int p1, .int 0, .int 0])).length) Slot.unset).toArray = ls at hl ⊢
  have hl : lv_has ls 7 [(0, .ref h0), (1, .int 11), (2, .int p0), (3, .int p1), (4, .int 0), (5, .int 0)] := hl
  refine lv_aload_n hx hb dX0_enact_0 rfl (lv_at hl 0 rfl) ?_
  refine lv_aload_n hx hb dX0_enact_1 rfl (lv_at hl 0 rfl) ?_
  refine lv_iload_n hx hb dX0_enact_2 rfl (lv_at hl 1 rfl) ?_
  refine lv_iload_n hx hb dX0_enact_3 rfl (lv_at hl 2 rfl) ?_
  refine lv_iload_n hx hb dX0_enact_4 rfl (lv_at hl 3 rfl) ?_
  refine lv_iload hx hb dX0_enact_5 (lv_at hl 4 rfl) ?_
  refine lv_iload hx hb dX0_enact_7 (lv_at hl 5 rfl) ?_
  have hPc := hP.sub (ws' := [(h0, .inr (0, [.ref h2, .ref h3, .ref h1, .ref h4, .ref h5, .ref h6, .ref h7, .int 0, .int 0, .int 0, .null])), (h1, .inr (5, [.int 0, .ref h8]))]) [0, 1] rfl
  have hDc := hD.sub (ws' := [(h0, .inr (0, [.ref h2, .ref h3, .ref h1, .ref h4, .ref h5, .ref h6, .ref h7, .int 0, .int 0, .int 0, .null])), (h1, .inr (5, [.int 0, .ref h8]))]) [0, 1] (by decide) rfl
  refine wGoi (wc := [(h0, .inr (0, [.ref h2, .ref h3, .ref h1, .ref h4, .ref h5, .ref h6, .ref h7, .int 0, .int 0, .int 0, .null])), (h1, .inr (5, [.int 0, .ref h8]))]) (wr := []) (va_runS (As := [.ref h0, .int 11, .int p0, .int p1, .int 0, .int 0]) (rest := [.ref h0]) ⟨hx, hb, hml, hown, hts⟩ (m_X8_against_10 l G K h0 h1 h2 h3 h4 h5 h6 h7 h8 p0 p1 _) (va_cwS 6 hts (wGS t_ (mw (.methodLink RX0 155 yX8_against) (List.mem_of_getElem? (i := 0) rfl)) (mw (.static yX8_against) (List.mem_of_getElem? (i := 1) rfl)) (mw (.initialized RX8) (List.mem_of_getElem? (i := 2) rfl)) j_X8_against_10) rfl rfl rfl (by decide +kernel) ⟨Nat.le_of_ble_eq_true rfl, Nat.le_of_ble_eq_true rfl⟩) (wPS hK hE hPc hDc) rfl rfl hl.1 rfl (lv_room (Nat.le_of_ble_eq_true rfl)) dX0_enact_9 ⟨Nat.le_of_ble_eq_true rfl, Nat.le_of_ble_eq_true rfl⟩) hP hD hS hA [0, 1] [] rfl rfl rfl (by decide) (fun r u H locs hw hP hD hS => ?_)
  rcases hw with ⟨rfl, rfl⟩
  have hP : va_P G vwCl [(h0, .inr (0, [.ref h2, .ref h3, .ref h1, .ref h4, .ref h5, .ref h6, .ref h7, .int 0, .int 0, .int 0, .null])), (h1, .inr (5, [.int 0, .ref h8]))] _ := hP
  have hD : va_D A [(h0, .inr (0, [.ref h2, .ref h3, .ref h1, .ref h4, .ref h5, .ref h6, .ref h7, .int 0, .int 0, .int 0, .null])), (h1, .inr (5, [.int 0, .ref h8]))] := hD
  refine va_put (D := G) (ci := 0) (v := .int 11) (ty := .int) (C := RX0) (T := TX0) (N := 11) hx hb hts iX0 tyX0 tyX0_ok nmX0 hown hK hP hD hS 0 rfl rfl 9 (by decide) (hw (.fieldLink RX0 73 "MotionFloor$Assembly" "reason" "I") (List.mem_of_getElem? (i := 3) rfl)) (fun _ h9 => h9) rfl (by decide +kernel) rfl rfl (Nat.le_of_ble_eq_true rfl) dX0_enact_12 (fun H locs hP hD hS => ?_)
  have hP : va_P G vwCl [(h0, .inr (0, [.ref h2, .ref h3, .ref h1, .ref h4, .ref h5, .ref h6, .ref h7, .int 0, .int 0, .int 11, .null])), (h1, .inr (5, [.int 0, .ref h8]))] _ := hP
  have hD : va_D A [(h0, .inr (0, [.ref h2, .ref h3, .ref h1, .ref h4, .ref h5, .ref h6, .ref h7, .int 0, .int 0, .int 11, .null])), (h1, .inr (5, [.int 0, .ref h8]))] := hD
  refine lv_aload_n hx hb dX0_enact_15 rfl (lv_at hl 0 rfl) ?_
  refine va_get (D := G) (ci := 0) (v := .int 11) (C := RX0) (T := TX0) (N := 11) hx hb hts iX0 hown hK hP 0 rfl rfl 9 (by decide) (hw (.fieldLink RX0 73 "MotionFloor$Assembly" "reason" "I") (List.mem_of_getElem? (i := 3) rfl)) (fun _ h9 => h9) rfl dX0_enact_16 ?_
  refine lv_if_eq (tgt := 28) hx hb dX0_enact_19 (by decide) (fun c_ => absurd c_ (by decide)) (fun _ => ?_)
  refine lv_aload_n hx hb dX0_enact_22 rfl (lv_at hl 0 rfl) ?_
  refine va_get (D := G) (ci := 0) (v := .int 11) (C := RX0) (T := TX0) (N := 11) hx hb hts iX0 hown hK hP 0 rfl rfl 9 (by decide) (hw (.fieldLink RX0 73 "MotionFloor$Assembly" "reason" "I") (List.mem_of_getElem? (i := 3) rfl)) (fun _ h9 => h9) rfl dX0_enact_23 ?_
  refine lv_ineg hx hb dX0_enact_26 ?_
  refine wTop (v1 := .int (-11)) (congrArg Value.int (by decide)) ?_
  have hP9 : va_P G vwCl [(h0, .inr (0, [.ref h2, .ref h3, .ref h1, .ref h4, .ref h5, .ref h6, .ref h7, .int 0, .int 0, .int 11, .null])), (h1, .inr (5, [.int 0, .ref h8]))] _ := hP
  have hD9 : va_D A [(h0, .inr (0, [.ref h2, .ref h3, .ref h1, .ref h4, .ref h5, .ref h6, .ref h7, .int 0, .int 0, .int 11, .null])), (h1, .inr (5, [.int 0, .ref h8]))] := hD
  exact W.iret (v := (-11)) hx hb hr (fun t ht hW => ⟨⟨(-11), _, rfl, ⟨rfl, rfl⟩, by rw [ht]; exact hP9, hD9⟩, hS.F ht⟩) hS.2.2 dX0_enact_27
def e_X10_span_0 : List Cond := [.fieldLink RX10 10 "MotionFloor" "now" "LMotionFloor$Assembly;", .methodLink RX10 32 yX0_enact, .instanceMethod yX0_enact, .selects RX0 yX0_enact yX0_enact, .initialized RX0]
def v_X10_span_0 : List Cond := .code yX10_span cX10_span 3 (some .int) :: (e_X10_span_0 ++ (wsX100 ++ (v_X0_enact_10 ++ [])))
theorem te_X10_span_0 : GoodIn lw_tbl e_X10_span_0 := wGc z115 (wGc z209 (wGc z208 (wGc z207 (wGc z118 (wG0)))))
theorem t_X10_span_0 : GoodIn lw_tbl v_X10_span_0 := wGc z319 (wGa te_X10_span_0 (wGa zcX10 (wGa t_X0_enact_10 (wG0))))
set_option maxHeartbeats 4000000 in
set_option maxRecDepth 100000 in
theorem m_X10_span_0 (l : Launch) (G : va_G) (K : Nat → ClassId) (h0 h1 h2 h3 h4 h5 h6 h7 h8 h9 h10 h11 : Nat) (p0 p1 : Int32) (sz : Nat) : Met l yX10_span v_X10_span_0 ({ frames := 5, cells := 0, slots := 0, locals := 120 }) (va_Pc [.ref h0, .int p0, .int p1] (wS G K sz [(h0, .inr (7, [.ref h1, .ref h3, .null, .null, .ref h4])), (h1, .inr (0, [.ref h5, .ref h6, .ref h2, .ref h7, .ref h8, .ref h9, .ref h10, .int 0, .int 0, .int 0, .null])), (h2, .inr (5, [.int 0, .ref h11]))])) (va_Qi (fun (r : Int32) (u : va_W) => (r = (-11) ∧ u = [(h0, .inr (7, [.ref h1, .ref h3, .null, .null, .ref h4])), (h1, .inr (0, [.ref h5, .ref h6, .ref h2, .ref h7, .ref h8, .ref h9, .ref h10, .int 0, .int 0, .int 11, .null])), (h2, .inr (5, [.int 0, .ref h11]))])) (wB G (va_A [(h0, .inr (7, [.ref h1, .ref h3, .null, .null, .ref h4])), (h1, .inr (0, [.ref h5, .ref h6, .ref h2, .ref h7, .ref h8, .ref h9, .ref h10, .int 0, .int 0, .int 0, .null])), (h2, .inr (5, [.int 0, .ref h11]))] sz)) (va_A [(h0, .inr (7, [.ref h1, .ref h3, .null, .null, .ref h4])), (h1, .inr (0, [.ref h5, .ref h6, .ref h2, .ref h7, .ref h8, .ref h9, .ref h10, .int 0, .int 0, .int 0, .null])), (h2, .inr (5, [.int 0, .ref h11]))] sz)) 0 0 (va_A [(h0, .inr (7, [.ref h1, .ref h3, .null, .null, .ref h4])), (h1, .inr (0, [.ref h5, .ref h6, .ref h2, .ref h7, .ref h8, .ref h9, .ref h10, .int 0, .int 0, .int 0, .null])), (h2, .inr (5, [.int 0, .ref h11]))] sz) := by
  refine Met.ofW (cc := cX10_span) (maxL := 3) (ret := (some .int)) (by decide) rfl ?_
  intro p e s m args below meth c s₁ B hml hv
  obtain ⟨rfl, hsz, hP, hK, hD0, hE⟩ := hv
  have hx := B.exec
  have hb := B.bytes
  have hr := B.returns
  have hts := atoms_spec (ws := v_X10_span_0) B.pre
  have t_ := t_X10_span_0
  have mw : ∀ w ∈ e_X10_span_0, w ∈ v_X10_span_0 := fun w h => List.mem_cons_of_mem _ (List.mem_append_left _ h)
  have hw := fun w (h : w ∈ e_X10_span_0) => hts w (mw w h)
  have iX10 : ∀ w ∈ wsX100, w ∈ v_X10_span_0 := fun w h => List.mem_cons_of_mem _ (List.mem_append_right _ (List.mem_append_left _ h))
  have j_X0_enact_10 : ∀ w ∈ v_X0_enact_10, w ∈ v_X10_span_0 := fun w h => List.mem_cons_of_mem _ (List.mem_append_right _ (List.mem_append_right _ (List.mem_append_left _ h)))
  have hown : s.vm.findClass RX10 = some m.cls := findClass_of_methodNamed B.named
  have hlocks := B.notSynchronized
  subst hsz
  have hD := hD0.self (sz := s.heap.size)
  generalize hAe : va_A [(h0, .inr (7, [.ref h1, .ref h3, .null, .null, .ref h4])), (h1, .inr (0, [.ref h5, .ref h6, .ref h2, .ref h7, .ref h8, .ref h9, .ref h10, .int 0, .int 0, .int 0, .null])), (h2, .inr (5, [.int 0, .ref h11]))] s.heap.size = A at hD ⊢
  have hA : ∀ q : Nat, s.heap.size ≤ q → A q := fun q h => by rw [← hAe]; exact Or.inr h
  have hS : va_S A s.heap s.heap [] := va_S.rf
  have hP : va_P G vwCl [(h0, .inr (7, [.ref h1, .ref h3, .null, .null, .ref h4])), (h1, .inr (0, [.ref h5, .ref h6, .ref h2, .ref h7, .ref h8, .ref h9, .ref h10, .int 0, .int 0, .int 0, .null])), (h2, .inr (5, [.int 0, .ref h11]))] s.heap := hP
  have hl := lv_entry ([.ref h0, .int p0, .int p1]) (n := 3) (Nat.le_of_ble_eq_true rfl)
  rw [lg_entry_eq]
  generalize (lg_sl ([.ref h0, .int p0, .int p1]) ++ List.replicate (3 - (lg_sl ([.ref h0, .int p0, .int p1])).length) Slot.unset).toArray = ls at hl ⊢
  have hl : lv_has ls 3 [(0, .ref h0), (1, .int p0), (2, .int p1)] := hl
  refine lv_aload_n hx hb dX10_span_0 rfl (lv_at hl 0 rfl) ?_
  refine va_get (D := G) (ci := 7) (v := .ref h1) (C := RX10) (T := TX10) (N := 5) hx hb hts iX10 hown hK hP 0 rfl rfl 0 (by decide) (hw (.fieldLink RX10 10 "MotionFloor" "now" "LMotionFloor$Assembly;") (List.mem_of_getElem? (i := 0) rfl)) (fun _ h9 => h9) rfl dX10_span_1 ?_
  refine lv_bipush (v := 11) hx hb dX10_span_4 (by decide) ?_
  refine lv_iload_n hx hb dX10_span_6 rfl (lv_at hl 1 rfl) ?_
  refine lv_iload_n hx hb dX10_span_7 rfl (lv_at hl 2 rfl) ?_
  refine lv_iconst (v := 0) hx hb dX10_span_8 (by decide) ?_
  refine lv_iconst (v := 0) hx hb dX10_span_9 (by decide) ?_
  have hPc := hP.sub (ws' := [(h1, .inr (0, [.ref h5, .ref h6, .ref h2, .ref h7, .ref h8, .ref h9, .ref h10, .int 0, .int 0, .int 0, .null])), (h2, .inr (5, [.int 0, .ref h11]))]) [1, 2] rfl
  have hDc := hD.sub (ws' := [(h1, .inr (0, [.ref h5, .ref h6, .ref h2, .ref h7, .ref h8, .ref h9, .ref h10, .int 0, .int 0, .int 0, .null])), (h2, .inr (5, [.int 0, .ref h11]))]) [1, 2] (by decide) rfl
  refine wGoi (wc := [(h1, .inr (0, [.ref h5, .ref h6, .ref h2, .ref h7, .ref h8, .ref h9, .ref h10, .int 0, .int 0, .int 0, .null])), (h2, .inr (5, [.int 0, .ref h11]))]) (wr := [(h0, .inr (7, [.ref h1, .ref h3, .null, .null, .ref h4]))]) (va_runV (As := [.int 11, .int p0, .int p1, .int 0, .int 0]) (rest := []) ⟨hx, hb, hml, hown, hts⟩ (m_X0_enact_10 l G K h1 h2 h5 h6 h7 h8 h9 h10 h11 p0 p1 _) (cwV 5 hts (wGV t_ (mw (.methodLink RX10 32 yX0_enact) (List.mem_of_getElem? (i := 1) rfl)) (mw (.instanceMethod yX0_enact) (List.mem_of_getElem? (i := 2) rfl)) (mw (.selects RX0 yX0_enact yX0_enact) (List.mem_of_getElem? (i := 3) rfl)) (mw (.initialized RX0) (List.mem_of_getElem? (i := 4) rfl)) j_X0_enact_10) rfl rfl rfl (by decide +kernel) ⟨Nat.le_of_ble_eq_true rfl, Nat.le_of_ble_eq_true rfl⟩) (wPV hK hE hPc hDc 0 0 rfl rfl) rfl rfl hl.1 rfl (lv_room (Nat.le_of_ble_eq_true rfl)) dX10_span_10 ⟨Nat.le_of_ble_eq_true rfl, Nat.le_of_ble_eq_true rfl⟩) hP hD hS hA [1, 2] [0] rfl rfl rfl (by decide) (fun r u H locs hw hP hD hS => ?_)
  rcases hw with ⟨rfl, rfl⟩
  have hP : va_P G vwCl [(h0, .inr (7, [.ref h1, .ref h3, .null, .null, .ref h4])), (h1, .inr (0, [.ref h5, .ref h6, .ref h2, .ref h7, .ref h8, .ref h9, .ref h10, .int 0, .int 0, .int 11, .null])), (h2, .inr (5, [.int 0, .ref h11]))] _ := hP
  have hD : va_D A [(h0, .inr (7, [.ref h1, .ref h3, .null, .null, .ref h4])), (h1, .inr (0, [.ref h5, .ref h6, .ref h2, .ref h7, .ref h8, .ref h9, .ref h10, .int 0, .int 0, .int 11, .null])), (h2, .inr (5, [.int 0, .ref h11]))] := hD
  have hP9 : va_P G vwCl [(h0, .inr (7, [.ref h1, .ref h3, .null, .null, .ref h4])), (h1, .inr (0, [.ref h5, .ref h6, .ref h2, .ref h7, .ref h8, .ref h9, .ref h10, .int 0, .int 0, .int 11, .null])), (h2, .inr (5, [.int 0, .ref h11]))] _ := hP
  have hD9 : va_D A [(h0, .inr (7, [.ref h1, .ref h3, .null, .null, .ref h4])), (h1, .inr (0, [.ref h5, .ref h6, .ref h2, .ref h7, .ref h8, .ref h9, .ref h10, .int 0, .int 0, .int 11, .null])), (h2, .inr (5, [.int 0, .ref h11]))] := hD
  exact W.iret (v := (-11)) hx hb hr (fun t ht hW => ⟨⟨(-11), _, rfl, ⟨rfl, rfl⟩, by rw [ht]; exact hP9, hD9⟩, hS.F ht⟩) hS.2.2 dX10_span_13
def e_X8_againstWord_0 : List Cond := [.fieldLink RX8 141 "MotionFloor$Assembly" "draft" "LMotionFloor$Place;", .methodLink RX8 145 yX6_motion, .instanceMethod yX6_motion, .selects RX6 yX6_motion yX6_motion, .initialized RX6]
def v_X8_againstWord_0 : List Cond := .code yX8_againstWord cX8_againstWord 7 (some .int) :: (e_X8_againstWord_0 ++ (wsX00 ++ (v_X6_motion_0 ++ [])))
theorem te_X8_againstWord_0 : GoodIn lw_tbl e_X8_againstWord_0 := wGc z315 (wGc z314 (wGc z313 (wGc z312 (wGc z95 (wG0)))))
theorem t_X8_againstWord_0 : GoodIn lw_tbl v_X8_againstWord_0 := wGc z320 (wGa te_X8_againstWord_0 (wGa zcX0 (wGa t_X6_motion_0 (wG0))))
set_option maxHeartbeats 4000000 in
set_option maxRecDepth 100000 in
theorem m_X8_againstWord_0 (l : Launch) (G : va_G) (K : Nat → ClassId) (h0 h1 h2 h3 h4 h5 h6 h7 h8 : Nat) (p0 p1 p2 p3 : Int32) (sz : Nat) : Met l yX8_againstWord v_X8_againstWord_0 ({ frames := 1, cells := 0, slots := 0, locals := 20 }) (va_Pc [.ref h0, .int p0, .int p1, .int p2, .int p3] (wS G K sz [(h0, .inr (0, [.ref h2, .ref h3, .ref h1, .ref h4, .ref h5, .ref h6, .ref h7, .int 0, .int 0, .int 0, .null])), (h1, .inr (5, [.int 0, .ref h8]))])) (va_Qi (fun (r : Int32) (u : va_W) => (r = 11 ∧ u = [(h0, .inr (0, [.ref h2, .ref h3, .ref h1, .ref h4, .ref h5, .ref h6, .ref h7, .int 0, .int 0, .int 0, .null])), (h1, .inr (5, [.int 0, .ref h8]))])) (wB G (va_A [(h0, .inr (0, [.ref h2, .ref h3, .ref h1, .ref h4, .ref h5, .ref h6, .ref h7, .int 0, .int 0, .int 0, .null])), (h1, .inr (5, [.int 0, .ref h8]))] sz)) (va_A [(h0, .inr (0, [.ref h2, .ref h3, .ref h1, .ref h4, .ref h5, .ref h6, .ref h7, .int 0, .int 0, .int 0, .null])), (h1, .inr (5, [.int 0, .ref h8]))] sz)) 0 0 (va_A [(h0, .inr (0, [.ref h2, .ref h3, .ref h1, .ref h4, .ref h5, .ref h6, .ref h7, .int 0, .int 0, .int 0, .null])), (h1, .inr (5, [.int 0, .ref h8]))] sz) := by
  refine Met.ofW (cc := cX8_againstWord) (maxL := 7) (ret := (some .int)) (by decide) rfl ?_
  intro p e s m args below meth c s₁ B hml hv
  obtain ⟨rfl, hsz, hP, hK, hD0, hE⟩ := hv
  have hx := B.exec
  have hb := B.bytes
  have hr := B.returns
  have hts := atoms_spec (ws := v_X8_againstWord_0) B.pre
  have t_ := t_X8_againstWord_0
  have mw : ∀ w ∈ e_X8_againstWord_0, w ∈ v_X8_againstWord_0 := fun w h => List.mem_cons_of_mem _ (List.mem_append_left _ h)
  have hw := fun w (h : w ∈ e_X8_againstWord_0) => hts w (mw w h)
  have iX0 : ∀ w ∈ wsX00, w ∈ v_X8_againstWord_0 := fun w h => List.mem_cons_of_mem _ (List.mem_append_right _ (List.mem_append_left _ h))
  have j_X6_motion_0 : ∀ w ∈ v_X6_motion_0, w ∈ v_X8_againstWord_0 := fun w h => List.mem_cons_of_mem _ (List.mem_append_right _ (List.mem_append_right _ (List.mem_append_left _ h)))
  have hown : s.vm.findClass RX8 = some m.cls := findClass_of_methodNamed B.named
  have hlocks := B.notSynchronized
  subst hsz
  have hD := hD0.self (sz := s.heap.size)
  generalize hAe : va_A [(h0, .inr (0, [.ref h2, .ref h3, .ref h1, .ref h4, .ref h5, .ref h6, .ref h7, .int 0, .int 0, .int 0, .null])), (h1, .inr (5, [.int 0, .ref h8]))] s.heap.size = A at hD ⊢
  have hA : ∀ q : Nat, s.heap.size ≤ q → A q := fun q h => by rw [← hAe]; exact Or.inr h
  have hS : va_S A s.heap s.heap [] := va_S.rf
  have hP : va_P G vwCl [(h0, .inr (0, [.ref h2, .ref h3, .ref h1, .ref h4, .ref h5, .ref h6, .ref h7, .int 0, .int 0, .int 0, .null])), (h1, .inr (5, [.int 0, .ref h8]))] s.heap := hP
  have hl := lv_entry ([.ref h0, .int p0, .int p1, .int p2, .int p3]) (n := 7) (Nat.le_of_ble_eq_true rfl)
  rw [lg_entry_eq]
  generalize (lg_sl ([.ref h0, .int p0, .int p1, .int p2, .int p3]) ++ List.replicate (7 - (lg_sl ([.ref h0, .int p0, .int p1, .int p2, .int p3])).length) Slot.unset).toArray = ls at hl ⊢
  have hl : lv_has ls 7 [(0, .ref h0), (1, .int p0), (2, .int p1), (3, .int p2), (4, .int p3)] := hl
  refine lv_aload_n hx hb dX8_againstWord_0 rfl (lv_at hl 0 rfl) ?_
  refine va_get (D := G) (ci := 0) (v := .ref h1) (C := RX0) (T := TX0) (N := 11) hx hb hts iX0 hown hK hP 0 rfl rfl 2 (by decide) (hw (.fieldLink RX8 141 "MotionFloor$Assembly" "draft" "LMotionFloor$Place;") (List.mem_of_getElem? (i := 0) rfl)) (fun _ h9 => h9) rfl dX8_againstWord_1 ?_
  have hPc := hP.sub (ws' := [(h1, .inr (5, [.int 0, .ref h8]))]) [1] rfl
  have hDc := hD.sub (ws' := [(h1, .inr (5, [.int 0, .ref h8]))]) [1] (by decide) rfl
  refine wGoq (wc := [(h1, .inr (5, [.int 0, .ref h8]))]) (wr := [(h0, .inr (0, [.ref h2, .ref h3, .ref h1, .ref h4, .ref h5, .ref h6, .ref h7, .int 0, .int 0, .int 0, .null]))]) (va_runV (As := []) (rest := []) ⟨hx, hb, hml, hown, hts⟩ (m_X6_motion_0 l G K h1 h8 _) (cwV 0 hts (wGV t_ (mw (.methodLink RX8 145 yX6_motion) (List.mem_of_getElem? (i := 1) rfl)) (mw (.instanceMethod yX6_motion) (List.mem_of_getElem? (i := 2) rfl)) (mw (.selects RX6 yX6_motion yX6_motion) (List.mem_of_getElem? (i := 3) rfl)) (mw (.initialized RX6) (List.mem_of_getElem? (i := 4) rfl)) j_X6_motion_0) rfl rfl rfl (by decide +kernel) ⟨Nat.le_of_ble_eq_true rfl, Nat.le_of_ble_eq_true rfl⟩) (wPV hK hE hPc hDc 5 0 rfl rfl) rfl rfl hl.1 rfl (lv_room (Nat.le_of_ble_eq_true rfl)) dX8_againstWord_4 ⟨Nat.le_of_ble_eq_true rfl, Nat.le_of_ble_eq_true rfl⟩) hP hD hS hA [1] [0] rfl rfl rfl (by decide) (fun r u H locs hw hP hD hS => ?_)
  rcases hw with ⟨rfl, rfl⟩
  have hP : va_P G vwCl [(h0, .inr (0, [.ref h2, .ref h3, .ref h1, .ref h4, .ref h5, .ref h6, .ref h7, .int 0, .int 0, .int 0, .null])), (h1, .inr (5, [.int 0, .ref h8]))] _ := hP
  have hD : va_D A [(h0, .inr (0, [.ref h2, .ref h3, .ref h1, .ref h4, .ref h5, .ref h6, .ref h7, .int 0, .int 0, .int 0, .null])), (h1, .inr (5, [.int 0, .ref h8]))] := hD
  refine wTop (v1 := .null) rfl ?_
  refine lv_astoreN (lv' := [(5, .null), (0, .ref h0), (1, .int p0), (2, .int p1), (3, .int p2), (4, .int p3)]) hx hb dX8_againstWord_7 hl (by decide) rfl (fun ls hl => ?_)
  refine lv_aloadN hx hb dX8_againstWord_9 (lv_at hl 0 rfl) ?_
  refine lv_ifnullN (tgt := 31) hx hb dX8_againstWord_11 (by decide) ?_
  refine lv_bipush (v := 11) hx hb dX8_againstWord_31 (by decide) ?_
  have hP9 : va_P G vwCl [(h0, .inr (0, [.ref h2, .ref h3, .ref h1, .ref h4, .ref h5, .ref h6, .ref h7, .int 0, .int 0, .int 0, .null])), (h1, .inr (5, [.int 0, .ref h8]))] _ := hP
  have hD9 : va_D A [(h0, .inr (0, [.ref h2, .ref h3, .ref h1, .ref h4, .ref h5, .ref h6, .ref h7, .int 0, .int 0, .int 0, .null])), (h1, .inr (5, [.int 0, .ref h8]))] := hD
  exact W.iret (v := 11) hx hb hr (fun t ht hW => ⟨⟨11, _, rfl, ⟨rfl, rfl⟩, by rw [ht]; exact hP9, hD9⟩, hS.F ht⟩) hS.2.2 dX8_againstWord_33
def e_X8_againstOnPaper_2 : List Cond := [.methodLink RX8 66 yX8_againstWord, .static yX8_againstWord, .initialized RX8]
def v_X8_againstOnPaper_2 : List Cond := .code yX8_againstOnPaper cX8_againstOnPaper 6 (some .int) :: (e_X8_againstOnPaper_2 ++ (v_X8_againstWord_0 ++ []))
theorem te_X8_againstOnPaper_2 : GoodIn lw_tbl e_X8_againstOnPaper_2 := wGc z322 (wGc z321 (wGc z157 (wG0)))
theorem t_X8_againstOnPaper_2 : GoodIn lw_tbl v_X8_againstOnPaper_2 := wGc z241 (wGa te_X8_againstOnPaper_2 (wGa t_X8_againstWord_0 (wG0)))
set_option maxHeartbeats 4000000 in
set_option maxRecDepth 100000 in
theorem m_X8_againstOnPaper_2 (l : Launch) (G : va_G) (K : Nat → ClassId) (h0 h1 h2 h3 h4 h5 h6 h7 h8 : Nat) (p0 p1 p2 p3 : Int32) (sz : Nat) : Met l yX8_againstOnPaper v_X8_againstOnPaper_2 ({ frames := 2, cells := 0, slots := 0, locals := 46 }) (va_Pc [.ref h0, .int 12, .int p0, .int p1, .int p2, .int p3] (wS G K sz [(h0, .inr (0, [.ref h2, .ref h3, .ref h1, .ref h4, .ref h5, .ref h6, .ref h7, .int 0, .int 0, .int 0, .null])), (h1, .inr (5, [.int 0, .ref h8]))])) (va_Qi (fun (r : Int32) (u : va_W) => (r = 11 ∧ u = [(h0, .inr (0, [.ref h2, .ref h3, .ref h1, .ref h4, .ref h5, .ref h6, .ref h7, .int 0, .int 0, .int 0, .null])), (h1, .inr (5, [.int 0, .ref h8]))])) (wB G (va_A [(h0, .inr (0, [.ref h2, .ref h3, .ref h1, .ref h4, .ref h5, .ref h6, .ref h7, .int 0, .int 0, .int 0, .null])), (h1, .inr (5, [.int 0, .ref h8]))] sz)) (va_A [(h0, .inr (0, [.ref h2, .ref h3, .ref h1, .ref h4, .ref h5, .ref h6, .ref h7, .int 0, .int 0, .int 0, .null])), (h1, .inr (5, [.int 0, .ref h8]))] sz)) 0 0 (va_A [(h0, .inr (0, [.ref h2, .ref h3, .ref h1, .ref h4, .ref h5, .ref h6, .ref h7, .int 0, .int 0, .int 0, .null])), (h1, .inr (5, [.int 0, .ref h8]))] sz) := by
  refine Met.ofW (cc := cX8_againstOnPaper) (maxL := 6) (ret := (some .int)) (by decide) rfl ?_
  intro p e s m args below meth c s₁ B hml hv
  obtain ⟨rfl, hsz, hP, hK, hD0, hE⟩ := hv
  have hx := B.exec
  have hb := B.bytes
  have hr := B.returns
  have hts := atoms_spec (ws := v_X8_againstOnPaper_2) B.pre
  have t_ := t_X8_againstOnPaper_2
  have mw : ∀ w ∈ e_X8_againstOnPaper_2, w ∈ v_X8_againstOnPaper_2 := fun w h => List.mem_cons_of_mem _ (List.mem_append_left _ h)
  have hw := fun w (h : w ∈ e_X8_againstOnPaper_2) => hts w (mw w h)
  have j_X8_againstWord_0 : ∀ w ∈ v_X8_againstWord_0, w ∈ v_X8_againstOnPaper_2 := fun w h => List.mem_cons_of_mem _ (List.mem_append_right _ (List.mem_append_left _ h))
  have hown : s.vm.findClass RX8 = some m.cls := findClass_of_methodNamed B.named
  have hlocks := B.notSynchronized
  subst hsz
  have hD := hD0.self (sz := s.heap.size)
  generalize hAe : va_A [(h0, .inr (0, [.ref h2, .ref h3, .ref h1, .ref h4, .ref h5, .ref h6, .ref h7, .int 0, .int 0, .int 0, .null])), (h1, .inr (5, [.int 0, .ref h8]))] s.heap.size = A at hD ⊢
  have hA : ∀ q : Nat, s.heap.size ≤ q → A q := fun q h => by rw [← hAe]; exact Or.inr h
  have hS : va_S A s.heap s.heap [] := va_S.rf
  have hP : va_P G vwCl [(h0, .inr (0, [.ref h2, .ref h3, .ref h1, .ref h4, .ref h5, .ref h6, .ref h7, .int 0, .int 0, .int 0, .null])), (h1, .inr (5, [.int 0, .ref h8]))] s.heap := hP
  have hl := lv_entry ([.ref h0, .int 12, .int p0, .int p1, .int p2, .int p3]) (n := 6) (Nat.le_of_ble_eq_true rfl)
  rw [lg_entry_eq]
  generalize (lg_sl ([.ref h0, .int 12, .int p0, .int p1, .int p2, .int p3]) ++ List.replicate (6 - (lg_sl ([.ref h0, .int 12, .int p0, .int p1, .int p2, .int p3])).length) Slot.unset).toArray = ls at hl ⊢
  have hl : lv_has ls 6 [(0, .ref h0), (1, .int 12), (2, .int p0), (3, .int p1), (4, .int p2), (5, .int p3)] := hl
  refine lv_iload_n hx hb dX8_againstOnPaper_0 rfl (lv_at hl 1 rfl) ?_
  refine lv_tableIn (tgt := 61) hx hb dX8_againstOnPaper_1 (by decide) (by decide) (by decide) (by decide) ?_
  refine lv_aload_n hx hb dX8_againstOnPaper_61 rfl (lv_at hl 0 rfl) ?_
  refine lv_iload_n hx hb dX8_againstOnPaper_62 rfl (lv_at hl 2 rfl) ?_
  refine lv_iload_n hx hb dX8_againstOnPaper_63 rfl (lv_at hl 3 rfl) ?_
  refine lv_iload hx hb dX8_againstOnPaper_64 (lv_at hl 4 rfl) ?_
  refine lv_iload hx hb dX8_againstOnPaper_66 (lv_at hl 5 rfl) ?_
  have hPc := hP.sub (ws' := [(h0, .inr (0, [.ref h2, .ref h3, .ref h1, .ref h4, .ref h5, .ref h6, .ref h7, .int 0, .int 0, .int 0, .null])), (h1, .inr (5, [.int 0, .ref h8]))]) [0, 1] rfl
  have hDc := hD.sub (ws' := [(h0, .inr (0, [.ref h2, .ref h3, .ref h1, .ref h4, .ref h5, .ref h6, .ref h7, .int 0, .int 0, .int 0, .null])), (h1, .inr (5, [.int 0, .ref h8]))]) [0, 1] (by decide) rfl
  refine wGoi (wc := [(h0, .inr (0, [.ref h2, .ref h3, .ref h1, .ref h4, .ref h5, .ref h6, .ref h7, .int 0, .int 0, .int 0, .null])), (h1, .inr (5, [.int 0, .ref h8]))]) (wr := []) (va_runS (As := [.ref h0, .int p0, .int p1, .int p2, .int p3]) (rest := []) ⟨hx, hb, hml, hown, hts⟩ (m_X8_againstWord_0 l G K h0 h1 h2 h3 h4 h5 h6 h7 h8 p0 p1 p2 p3 _) (va_cwS 5 hts (wGS t_ (mw (.methodLink RX8 66 yX8_againstWord) (List.mem_of_getElem? (i := 0) rfl)) (mw (.static yX8_againstWord) (List.mem_of_getElem? (i := 1) rfl)) (mw (.initialized RX8) (List.mem_of_getElem? (i := 2) rfl)) j_X8_againstWord_0) rfl rfl rfl (by decide +kernel) ⟨Nat.le_of_ble_eq_true rfl, Nat.le_of_ble_eq_true rfl⟩) (wPS hK hE hPc hDc) rfl rfl hl.1 rfl (lv_room (Nat.le_of_ble_eq_true rfl)) dX8_againstOnPaper_68 ⟨Nat.le_of_ble_eq_true rfl, Nat.le_of_ble_eq_true rfl⟩) hP hD hS hA [0, 1] [] rfl rfl rfl (by decide) (fun r u H locs hw hP hD hS => ?_)
  rcases hw with ⟨rfl, rfl⟩
  have hP : va_P G vwCl [(h0, .inr (0, [.ref h2, .ref h3, .ref h1, .ref h4, .ref h5, .ref h6, .ref h7, .int 0, .int 0, .int 0, .null])), (h1, .inr (5, [.int 0, .ref h8]))] _ := hP
  have hD : va_D A [(h0, .inr (0, [.ref h2, .ref h3, .ref h1, .ref h4, .ref h5, .ref h6, .ref h7, .int 0, .int 0, .int 0, .null])), (h1, .inr (5, [.int 0, .ref h8]))] := hD
  have hP9 : va_P G vwCl [(h0, .inr (0, [.ref h2, .ref h3, .ref h1, .ref h4, .ref h5, .ref h6, .ref h7, .int 0, .int 0, .int 0, .null])), (h1, .inr (5, [.int 0, .ref h8]))] _ := hP
  have hD9 : va_D A [(h0, .inr (0, [.ref h2, .ref h3, .ref h1, .ref h4, .ref h5, .ref h6, .ref h7, .int 0, .int 0, .int 0, .null])), (h1, .inr (5, [.int 0, .ref h8]))] := hD
  exact W.iret (v := 11) hx hb hr (fun t ht hW => ⟨⟨11, _, rfl, ⟨rfl, rfl⟩, by rw [ht]; exact hP9, hD9⟩, hS.F ht⟩) hS.2.2 dX8_againstOnPaper_71
def e_X8_against_11 : List Cond := [.methodLink RX8 15 yX8_againstOnPaper, .static yX8_againstOnPaper, .initialized RX8]
def v_X8_against_11 : List Cond := .code yX8_against cX8_against 7 (some .int) :: (e_X8_against_11 ++ (v_X8_againstOnPaper_2 ++ []))
theorem te_X8_against_11 : GoodIn lw_tbl e_X8_against_11 := wGc z243 (wGc z242 (wGc z157 (wG0)))
theorem t_X8_against_11 : GoodIn lw_tbl v_X8_against_11 := wGc z170 (wGa te_X8_against_11 (wGa t_X8_againstOnPaper_2 (wG0)))
set_option maxHeartbeats 4000000 in
set_option maxRecDepth 100000 in
theorem m_X8_against_11 (l : Launch) (G : va_G) (K : Nat → ClassId) (h0 h1 h2 h3 h4 h5 h6 h7 h8 : Nat) (p0 p1 p2 p3 : Int32) (sz : Nat) : Met l yX8_against v_X8_against_11 ({ frames := 3, cells := 0, slots := 0, locals := 71 }) (va_Pc [.ref h0, .int 12, .int p0, .int p1, .int p2, .int p3] (wS G K sz [(h0, .inr (0, [.ref h2, .ref h3, .ref h1, .ref h4, .ref h5, .ref h6, .ref h7, .int 0, .int 0, .int 0, .null])), (h1, .inr (5, [.int 0, .ref h8]))])) (va_Qi (fun (r : Int32) (u : va_W) => (r = 11 ∧ u = [(h0, .inr (0, [.ref h2, .ref h3, .ref h1, .ref h4, .ref h5, .ref h6, .ref h7, .int 0, .int 0, .int 0, .null])), (h1, .inr (5, [.int 0, .ref h8]))])) (wB G (va_A [(h0, .inr (0, [.ref h2, .ref h3, .ref h1, .ref h4, .ref h5, .ref h6, .ref h7, .int 0, .int 0, .int 0, .null])), (h1, .inr (5, [.int 0, .ref h8]))] sz)) (va_A [(h0, .inr (0, [.ref h2, .ref h3, .ref h1, .ref h4, .ref h5, .ref h6, .ref h7, .int 0, .int 0, .int 0, .null])), (h1, .inr (5, [.int 0, .ref h8]))] sz)) 0 0 (va_A [(h0, .inr (0, [.ref h2, .ref h3, .ref h1, .ref h4, .ref h5, .ref h6, .ref h7, .int 0, .int 0, .int 0, .null])), (h1, .inr (5, [.int 0, .ref h8]))] sz) := by
  refine Met.ofW (cc := cX8_against) (maxL := 7) (ret := (some .int)) (by decide) rfl ?_
  intro p e s m args below meth c s₁ B hml hv
  obtain ⟨rfl, hsz, hP, hK, hD0, hE⟩ := hv
  have hx := B.exec
  have hb := B.bytes
  have hr := B.returns
  have hts := atoms_spec (ws := v_X8_against_11) B.pre
  have t_ := t_X8_against_11
  have mw : ∀ w ∈ e_X8_against_11, w ∈ v_X8_against_11 := fun w h => List.mem_cons_of_mem _ (List.mem_append_left _ h)
  have hw := fun w (h : w ∈ e_X8_against_11) => hts w (mw w h)
  have j_X8_againstOnPaper_2 : ∀ w ∈ v_X8_againstOnPaper_2, w ∈ v_X8_against_11 := fun w h => List.mem_cons_of_mem _ (List.mem_append_right _ (List.mem_append_left _ h))
  have hown : s.vm.findClass RX8 = some m.cls := findClass_of_methodNamed B.named
  have hlocks := B.notSynchronized
  subst hsz
  have hD := hD0.self (sz := s.heap.size)
  generalize hAe : va_A [(h0, .inr (0, [.ref h2, .ref h3, .ref h1, .ref h4, .ref h5, .ref h6, .ref h7, .int 0, .int 0, .int 0, .null])), (h1, .inr (5, [.int 0, .ref h8]))] s.heap.size = A at hD ⊢
  have hA : ∀ q : Nat, s.heap.size ≤ q → A q := fun q h => by rw [← hAe]; exact Or.inr h
  have hS : va_S A s.heap s.heap [] := va_S.rf
  have hP : va_P G vwCl [(h0, .inr (0, [.ref h2, .ref h3, .ref h1, .ref h4, .ref h5, .ref h6, .ref h7, .int 0, .int 0, .int 0, .null])), (h1, .inr (5, [.int 0, .ref h8]))] s.heap := hP
  have hl := lv_entry ([.ref h0, .int 12, .int p0, .int p1, .int p2, .int p3]) (n := 7) (Nat.le_of_ble_eq_true rfl)
  rw [lg_entry_eq]
  generalize (lg_sl ([.ref h0, .int 12, .int p0, .int p1, .int p2, .int p3]) ++ List.replicate (7 - (lg_sl ([.ref h0, .int 12, .int p0, .int p1, .int p2, .int p3])).length) Slot.unset).toArray = ls at hl ⊢
  have hl : lv_has ls 7 [(0, .ref h0), (1, .int 12), (2, .int p0), (3, .int p1), (4, .int p2), (5, .int p3)] := hl
  refine lv_iload_n hx hb dX8_against_0 rfl (lv_at hl 1 rfl) ?_
  refine lv_bipush (v := 9) hx hb dX8_against_1 (by decide) ?_
  refine lv_icmp_gt (tgt := 18) hx hb dX8_against_3 (by decide) (fun _ => ?_) (fun c_ => absurd c_ (by decide))
  refine lv_iload_n hx hb dX8_against_18 rfl (lv_at hl 1 rfl) ?_
  refine lv_bipush (v := 14) hx hb dX8_against_19 (by decide) ?_
  refine lv_icmp_gt (tgt := 40) hx hb dX8_against_21 (by decide) (fun c_ => absurd c_ (by decide)) (fun _ => ?_)
  refine lv_aload_n hx hb dX8_against_24 rfl (lv_at hl 0 rfl) ?_
  refine lv_iload_n hx hb dX8_against_25 rfl (lv_at hl 1 rfl) ?_
  refine lv_iload_n hx hb dX8_against_26 rfl (lv_at hl 2 rfl) ?_
  refine lv_iload_n hx hb dX8_against_27 rfl (lv_at hl 3 rfl) ?_
  refine lv_iload hx hb dX8_against_28 (lv_at hl 4 rfl) ?_
  refine lv_iload hx hb dX8_against_30 (lv_at hl 5 rfl) ?_
  have hPc := hP.sub (ws' := [(h0, .inr (0, [.ref h2, .ref h3, .ref h1, .ref h4, .ref h5, .ref h6, .ref h7, .int 0, .int 0, .int 0, .null])), (h1, .inr (5, [.int 0, .ref h8]))]) [0, 1] rfl
  have hDc := hD.sub (ws' := [(h0, .inr (0, [.ref h2, .ref h3, .ref h1, .ref h4, .ref h5, .ref h6, .ref h7, .int 0, .int 0, .int 0, .null])), (h1, .inr (5, [.int 0, .ref h8]))]) [0, 1] (by decide) rfl
  refine wGoi (wc := [(h0, .inr (0, [.ref h2, .ref h3, .ref h1, .ref h4, .ref h5, .ref h6, .ref h7, .int 0, .int 0, .int 0, .null])), (h1, .inr (5, [.int 0, .ref h8]))]) (wr := []) (va_runS (As := [.ref h0, .int 12, .int p0, .int p1, .int p2, .int p3]) (rest := []) ⟨hx, hb, hml, hown, hts⟩ (m_X8_againstOnPaper_2 l G K h0 h1 h2 h3 h4 h5 h6 h7 h8 p0 p1 p2 p3 _) (va_cwS 6 hts (wGS t_ (mw (.methodLink RX8 15 yX8_againstOnPaper) (List.mem_of_getElem? (i := 0) rfl)) (mw (.static yX8_againstOnPaper) (List.mem_of_getElem? (i := 1) rfl)) (mw (.initialized RX8) (List.mem_of_getElem? (i := 2) rfl)) j_X8_againstOnPaper_2) rfl rfl rfl (by decide +kernel) ⟨Nat.le_of_ble_eq_true rfl, Nat.le_of_ble_eq_true rfl⟩) (wPS hK hE hPc hDc) rfl rfl hl.1 rfl (lv_room (Nat.le_of_ble_eq_true rfl)) dX8_against_32 ⟨Nat.le_of_ble_eq_true rfl, Nat.le_of_ble_eq_true rfl⟩) hP hD hS hA [0, 1] [] rfl rfl rfl (by decide) (fun r u H locs hw hP hD hS => ?_)
  rcases hw with ⟨rfl, rfl⟩
  have hP : va_P G vwCl [(h0, .inr (0, [.ref h2, .ref h3, .ref h1, .ref h4, .ref h5, .ref h6, .ref h7, .int 0, .int 0, .int 0, .null])), (h1, .inr (5, [.int 0, .ref h8]))] _ := hP
  have hD : va_D A [(h0, .inr (0, [.ref h2, .ref h3, .ref h1, .ref h4, .ref h5, .ref h6, .ref h7, .int 0, .int 0, .int 0, .null])), (h1, .inr (5, [.int 0, .ref h8]))] := hD
  refine lv_istore (lv' := [(6, .int 11), (0, .ref h0), (1, .int 12), (2, .int p0), (3, .int p1), (4, .int p2), (5, .int p3)]) hx hb dX8_against_35 hl (by decide) rfl (fun ls hl => ?_)
  refine lv_goto (tgt := 49) hx hb dX8_against_37 (by decide) ?_
  refine lv_iload hx hb dX8_against_49 (lv_at hl 0 rfl) ?_
  refine lv_if_ne (tgt := 69) hx hb dX8_against_51 (by decide) (fun _ => ?_) (fun c_ => absurd c_ (by decide))
  refine lv_iload hx hb dX8_against_69 (lv_at hl 0 rfl) ?_
  have hP9 : va_P G vwCl [(h0, .inr (0, [.ref h2, .ref h3, .ref h1, .ref h4, .ref h5, .ref h6, .ref h7, .int 0, .int 0, .int 0, .null])), (h1, .inr (5, [.int 0, .ref h8]))] _ := hP
  have hD9 : va_D A [(h0, .inr (0, [.ref h2, .ref h3, .ref h1, .ref h4, .ref h5, .ref h6, .ref h7, .int 0, .int 0, .int 0, .null])), (h1, .inr (5, [.int 0, .ref h8]))] := hD
  exact W.iret (v := 11) hx hb hr (fun t ht hW => ⟨⟨11, _, rfl, ⟨rfl, rfl⟩, by rw [ht]; exact hP9, hD9⟩, hS.F ht⟩) hS.2.2 dX8_against_71
def e_X0_enact_11 : List Cond := [.methodLink RX0 155 yX8_against, .static yX8_against, .initialized RX8, .fieldLink RX0 73 "MotionFloor$Assembly" "reason" "I"]
def v_X0_enact_11 : List Cond := .code yX0_enact cX0_enact 7 (some .int) :: (e_X0_enact_11 ++ (wsX00 ++ (v_X8_against_11 ++ [])))
theorem te_X0_enact_11 : GoodIn lw_tbl e_X0_enact_11 := wGc z205 (wGc z204 (wGc z157 (wGc z135 (wG0))))
theorem t_X0_enact_11 : GoodIn lw_tbl v_X0_enact_11 := wGc z206 (wGa te_X0_enact_11 (wGa zcX0 (wGa t_X8_against_11 (wG0))))
set_option maxHeartbeats 4000000 in
set_option maxRecDepth 100000 in
theorem m_X0_enact_11 (l : Launch) (G : va_G) (K : Nat → ClassId) (h0 h1 h2 h3 h4 h5 h6 h7 h8 : Nat) (p0 p1 p2 p3 : Int32) (sz : Nat) : Met l yX0_enact v_X0_enact_11 ({ frames := 4, cells := 0, slots := 0, locals := 97 }) (va_Pc [.ref h0, .int 12, .int p0, .int p1, .int p2, .int p3] (wS G K sz [(h0, .inr (0, [.ref h2, .ref h3, .ref h1, .ref h4, .ref h5, .ref h6, .ref h7, .int 0, .int 0, .int 0, .null])), (h1, .inr (5, [.int 0, .ref h8]))])) (va_Qi (fun (r : Int32) (u : va_W) => (r = (-11) ∧ u = [(h0, .inr (0, [.ref h2, .ref h3, .ref h1, .ref h4, .ref h5, .ref h6, .ref h7, .int 0, .int 0, .int 11, .null])), (h1, .inr (5, [.int 0, .ref h8]))])) (wB G (va_A [(h0, .inr (0, [.ref h2, .ref h3, .ref h1, .ref h4, .ref h5, .ref h6, .ref h7, .int 0, .int 0, .int 0, .null])), (h1, .inr (5, [.int 0, .ref h8]))] sz)) (va_A [(h0, .inr (0, [.ref h2, .ref h3, .ref h1, .ref h4, .ref h5, .ref h6, .ref h7, .int 0, .int 0, .int 0, .null])), (h1, .inr (5, [.int 0, .ref h8]))] sz)) 0 0 (va_A [(h0, .inr (0, [.ref h2, .ref h3, .ref h1, .ref h4, .ref h5, .ref h6, .ref h7, .int 0, .int 0, .int 0, .null])), (h1, .inr (5, [.int 0, .ref h8]))] sz) := by
  refine Met.ofW (cc := cX0_enact) (maxL := 7) (ret := (some .int)) (by decide) rfl ?_
  intro p e s m args below meth c s₁ B hml hv
  obtain ⟨rfl, hsz, hP, hK, hD0, hE⟩ := hv
  have hx := B.exec
  have hb := B.bytes
  have hr := B.returns
  have hts := atoms_spec (ws := v_X0_enact_11) B.pre
  have t_ := t_X0_enact_11
  have mw : ∀ w ∈ e_X0_enact_11, w ∈ v_X0_enact_11 := fun w h => List.mem_cons_of_mem _ (List.mem_append_left _ h)
  have hw := fun w (h : w ∈ e_X0_enact_11) => hts w (mw w h)
  have iX0 : ∀ w ∈ wsX00, w ∈ v_X0_enact_11 := fun w h => List.mem_cons_of_mem _ (List.mem_append_right _ (List.mem_append_left _ h))
  have j_X8_against_11 : ∀ w ∈ v_X8_against_11, w ∈ v_X0_enact_11 := fun w h => List.mem_cons_of_mem _ (List.mem_append_right _ (List.mem_append_right _ (List.mem_append_left _ h)))
  have hown : s.vm.findClass RX0 = some m.cls := findClass_of_methodNamed B.named
  have hlocks := B.notSynchronized
  subst hsz
  have hD := hD0.self (sz := s.heap.size)
  generalize hAe : va_A [(h0, .inr (0, [.ref h2, .ref h3, .ref h1, .ref h4, .ref h5, .ref h6, .ref h7, .int 0, .int 0, .int 0, .null])), (h1, .inr (5, [.int 0, .ref h8]))] s.heap.size = A at hD ⊢
  have hA : ∀ q : Nat, s.heap.size ≤ q → A q := fun q h => by rw [← hAe]; exact Or.inr h
  have hS : va_S A s.heap s.heap [] := va_S.rf
  have hP : va_P G vwCl [(h0, .inr (0, [.ref h2, .ref h3, .ref h1, .ref h4, .ref h5, .ref h6, .ref h7, .int 0, .int 0, .int 0, .null])), (h1, .inr (5, [.int 0, .ref h8]))] s.heap := hP
  have hl := lv_entry ([.ref h0, .int 12, .int p0, .int p1, .int p2, .int p3]) (n := 7) (Nat.le_of_ble_eq_true rfl)
  rw [lg_entry_eq]
  generalize (lg_sl ([.ref h0, .int 12, .int p0, .int p1, .int p2, .int p3]) ++ List.replicate (7 - (lg_sl ([.ref h0, .int 12, .int p0, .int p1, .int p2, .int p3])).length) Slot.unset).toArray = ls at hl ⊢
  have hl : lv_has ls 7 [(0, .ref h0), (1, .int 12), (2, .int p0), (3, .int p1), (4, .int p2), (5, .int p3)] := hl
  refine lv_aload_n hx hb dX0_enact_0 rfl (lv_at hl 0 rfl) ?_
  refine lv_aload_n hx hb dX0_enact_1 rfl (lv_at hl 0 rfl) ?_
  refine lv_iload_n hx hb dX0_enact_2 rfl (lv_at hl 1 rfl) ?_
  refine lv_iload_n hx hb dX0_enact_3 rfl (lv_at hl 2 rfl) ?_
  refine lv_iload_n hx hb dX0_enact_4 rfl (lv_at hl 3 rfl) ?_
  refine lv_iload hx hb dX0_enact_5 (lv_at hl 4 rfl) ?_
  refine lv_iload hx hb dX0_enact_7 (lv_at hl 5 rfl) ?_
  have hPc := hP.sub (ws' := [(h0, .inr (0, [.ref h2, .ref h3, .ref h1, .ref h4, .ref h5, .ref h6, .ref h7, .int 0, .int 0, .int 0, .null])), (h1, .inr (5, [.int 0, .ref h8]))]) [0, 1] rfl
  have hDc := hD.sub (ws' := [(h0, .inr (0, [.ref h2, .ref h3, .ref h1, .ref h4, .ref h5, .ref h6, .ref h7, .int 0, .int 0, .int 0, .null])), (h1, .inr (5, [.int 0, .ref h8]))]) [0, 1] (by decide) rfl
  refine wGoi (wc := [(h0, .inr (0, [.ref h2, .ref h3, .ref h1, .ref h4, .ref h5, .ref h6, .ref h7, .int 0, .int 0, .int 0, .null])), (h1, .inr (5, [.int 0, .ref h8]))]) (wr := []) (va_runS (As := [.ref h0, .int 12, .int p0, .int p1, .int p2, .int p3]) (rest := [.ref h0]) ⟨hx, hb, hml, hown, hts⟩ (m_X8_against_11 l G K h0 h1 h2 h3 h4 h5 h6 h7 h8 p0 p1 p2 p3 _) (va_cwS 6 hts (wGS t_ (mw (.methodLink RX0 155 yX8_against) (List.mem_of_getElem? (i := 0) rfl)) (mw (.static yX8_against) (List.mem_of_getElem? (i := 1) rfl)) (mw (.initialized RX8) (List.mem_of_getElem? (i := 2) rfl)) j_X8_against_11) rfl rfl rfl (by decide +kernel) ⟨Nat.le_of_ble_eq_true rfl, Nat.le_of_ble_eq_true rfl⟩) (wPS hK hE hPc hDc) rfl rfl hl.1 rfl (lv_room (Nat.le_of_ble_eq_true rfl)) dX0_enact_9 ⟨Nat.le_of_ble_eq_true rfl, Nat.le_of_ble_eq_true rfl⟩) hP hD hS hA [0, 1] [] rfl rfl rfl (by decide) (fun r u H locs hw hP hD hS => ?_)
  rcases hw with ⟨rfl, rfl⟩
  have hP : va_P G vwCl [(h0, .inr (0, [.ref h2, .ref h3, .ref h1, .ref h4, .ref h5, .ref h6, .ref h7, .int 0, .int 0, .int 0, .null])), (h1, .inr (5, [.int 0, .ref h8]))] _ := hP
  have hD : va_D A [(h0, .inr (0, [.ref h2, .ref h3, .ref h1, .ref h4, .ref h5, .ref h6, .ref h7, .int 0, .int 0, .int 0, .null])), (h1, .inr (5, [.int 0, .ref h8]))] := hD
  refine va_put (D := G) (ci := 0) (v := .int 11) (ty := .int) (C := RX0) (T := TX0) (N := 11) hx hb hts iX0 tyX0 tyX0_ok nmX0 hown hK hP hD hS 0 rfl rfl 9 (by decide) (hw (.fieldLink RX0 73 "MotionFloor$Assembly" "reason" "I") (List.mem_of_getElem? (i := 3) rfl)) (fun _ h9 => h9) rfl (by decide +kernel) rfl rfl (Nat.le_of_ble_eq_true rfl) dX0_enact_12 (fun H locs hP hD hS => ?_)
  have hP : va_P G vwCl [(h0, .inr (0, [.ref h2, .ref h3, .ref h1, .ref h4, .ref h5, .ref h6, .ref h7, .int 0, .int 0, .int 11, .null])), (h1, .inr (5, [.int 0, .ref h8]))] _ := hP
  have hD : va_D A [(h0, .inr (0, [.ref h2, .ref h3, .ref h1, .ref h4, .ref h5, .ref h6, .ref h7, .int 0, .int 0, .int 11, .null])), (h1, .inr (5, [.int 0, .ref h8]))] := hD
  refine lv_aload_n hx hb dX0_enact_15 rfl (lv_at hl 0 rfl) ?_
  refine va_get (D := G) (ci := 0) (v := .int 11) (C := RX0) (T := TX0) (N := 11) hx hb hts iX0 hown hK hP 0 rfl rfl 9 (by decide) (hw (.fieldLink RX0 73 "MotionFloor$Assembly" "reason" "I") (List.mem_of_getElem? (i := 3) rfl)) (fun _ h9 => h9) rfl dX0_enact_16 ?_
  refine lv_if_eq (tgt := 28) hx hb dX0_enact_19 (by decide) (fun c_ => absurd c_ (by decide)) (fun _ => ?_)
  refine lv_aload_n hx hb dX0_enact_22 rfl (lv_at hl 0 rfl) ?_
  refine va_get (D := G) (ci := 0) (v := .int 11) (C := RX0) (T := TX0) (N := 11) hx hb hts iX0 hown hK hP 0 rfl rfl 9 (by decide) (hw (.fieldLink RX0 73 "MotionFloor$Assembly" "reason" "I") (List.mem_of_getElem? (i := 3) rfl)) (fun _ h9 => h9) rfl dX0_enact_23 ?_
  refine lv_ineg hx hb dX0_enact_26 ?_
  refine wTop (v1 := .int (-11)) (congrArg Value.int (by decide)) ?_
  have hP9 : va_P G vwCl [(h0, .inr (0, [.ref h2, .ref h3, .ref h1, .ref h4, .ref h5, .ref h6, .ref h7, .int 0, .int 0, .int 11, .null])), (h1, .inr (5, [.int 0, .ref h8]))] _ := hP
  have hD9 : va_D A [(h0, .inr (0, [.ref h2, .ref h3, .ref h1, .ref h4, .ref h5, .ref h6, .ref h7, .int 0, .int 0, .int 11, .null])), (h1, .inr (5, [.int 0, .ref h8]))] := hD
  exact W.iret (v := (-11)) hx hb hr (fun t ht hW => ⟨⟨(-11), _, rfl, ⟨rfl, rfl⟩, by rw [ht]; exact hP9, hD9⟩, hS.F ht⟩) hS.2.2 dX0_enact_27
def e_X10_word_0 : List Cond := [.fieldLink RX10 10 "MotionFloor" "now" "LMotionFloor$Assembly;", .methodLink RX10 32 yX0_enact, .instanceMethod yX0_enact, .selects RX0 yX0_enact yX0_enact, .initialized RX0]
def v_X10_word_0 : List Cond := .code yX10_word cX10_word 5 (some .int) :: (e_X10_word_0 ++ (wsX100 ++ (v_X0_enact_11 ++ [])))
theorem te_X10_word_0 : GoodIn lw_tbl e_X10_word_0 := wGc z115 (wGc z209 (wGc z208 (wGc z207 (wGc z118 (wG0)))))
theorem t_X10_word_0 : GoodIn lw_tbl v_X10_word_0 := wGc z323 (wGa te_X10_word_0 (wGa zcX10 (wGa t_X0_enact_11 (wG0))))
set_option maxHeartbeats 4000000 in
set_option maxRecDepth 100000 in
theorem m_X10_word_0 (l : Launch) (G : va_G) (K : Nat → ClassId) (h0 h1 h2 h3 h4 h5 h6 h7 h8 h9 h10 h11 : Nat) (p0 p1 p2 p3 : Int32) (sz : Nat) : Met l yX10_word v_X10_word_0 ({ frames := 5, cells := 0, slots := 0, locals := 123 }) (va_Pc [.ref h0, .int p0, .int p1, .int p2, .int p3] (wS G K sz [(h0, .inr (7, [.ref h1, .ref h3, .null, .null, .ref h4])), (h1, .inr (0, [.ref h5, .ref h6, .ref h2, .ref h7, .ref h8, .ref h9, .ref h10, .int 0, .int 0, .int 0, .null])), (h2, .inr (5, [.int 0, .ref h11]))])) (va_Qi (fun (r : Int32) (u : va_W) => (r = (-11) ∧ u = [(h0, .inr (7, [.ref h1, .ref h3, .null, .null, .ref h4])), (h1, .inr (0, [.ref h5, .ref h6, .ref h2, .ref h7, .ref h8, .ref h9, .ref h10, .int 0, .int 0, .int 11, .null])), (h2, .inr (5, [.int 0, .ref h11]))])) (wB G (va_A [(h0, .inr (7, [.ref h1, .ref h3, .null, .null, .ref h4])), (h1, .inr (0, [.ref h5, .ref h6, .ref h2, .ref h7, .ref h8, .ref h9, .ref h10, .int 0, .int 0, .int 0, .null])), (h2, .inr (5, [.int 0, .ref h11]))] sz)) (va_A [(h0, .inr (7, [.ref h1, .ref h3, .null, .null, .ref h4])), (h1, .inr (0, [.ref h5, .ref h6, .ref h2, .ref h7, .ref h8, .ref h9, .ref h10, .int 0, .int 0, .int 0, .null])), (h2, .inr (5, [.int 0, .ref h11]))] sz)) 0 0 (va_A [(h0, .inr (7, [.ref h1, .ref h3, .null, .null, .ref h4])), (h1, .inr (0, [.ref h5, .ref h6, .ref h2, .ref h7, .ref h8, .ref h9, .ref h10, .int 0, .int 0, .int 0, .null])), (h2, .inr (5, [.int 0, .ref h11]))] sz) := by
  refine Met.ofW (cc := cX10_word) (maxL := 5) (ret := (some .int)) (by decide) rfl ?_
  intro p e s m args below meth c s₁ B hml hv
  obtain ⟨rfl, hsz, hP, hK, hD0, hE⟩ := hv
  have hx := B.exec
  have hb := B.bytes
  have hr := B.returns
  have hts := atoms_spec (ws := v_X10_word_0) B.pre
  have t_ := t_X10_word_0
  have mw : ∀ w ∈ e_X10_word_0, w ∈ v_X10_word_0 := fun w h => List.mem_cons_of_mem _ (List.mem_append_left _ h)
  have hw := fun w (h : w ∈ e_X10_word_0) => hts w (mw w h)
  have iX10 : ∀ w ∈ wsX100, w ∈ v_X10_word_0 := fun w h => List.mem_cons_of_mem _ (List.mem_append_right _ (List.mem_append_left _ h))
  have j_X0_enact_11 : ∀ w ∈ v_X0_enact_11, w ∈ v_X10_word_0 := fun w h => List.mem_cons_of_mem _ (List.mem_append_right _ (List.mem_append_right _ (List.mem_append_left _ h)))
  have hown : s.vm.findClass RX10 = some m.cls := findClass_of_methodNamed B.named
  have hlocks := B.notSynchronized
  subst hsz
  have hD := hD0.self (sz := s.heap.size)
  generalize hAe : va_A [(h0, .inr (7, [.ref h1, .ref h3, .null, .null, .ref h4])), (h1, .inr (0, [.ref h5, .ref h6, .ref h2, .ref h7, .ref h8, .ref h9, .ref h10, .int 0, .int 0, .int 0, .null])), (h2, .inr (5, [.int 0, .ref h11]))] s.heap.size = A at hD ⊢
  have hA : ∀ q : Nat, s.heap.size ≤ q → A q := fun q h => by rw [← hAe]; exact Or.inr h
  have hS : va_S A s.heap s.heap [] := va_S.rf
  have hP : va_P G vwCl [(h0, .inr (7, [.ref h1, .ref h3, .null, .null, .ref h4])), (h1, .inr (0, [.ref h5, .ref h6, .ref h2, .ref h7, .ref h8, .ref h9, .ref h10, .int 0, .int 0, .int 0, .null])), (h2, .inr (5, [.int 0, .ref h11]))] s.heap := hP
  have hl := lv_entry ([.ref h0, .int p0, .int p1, .int p2, .int p3]) (n := 5) (Nat.le_of_ble_eq_true rfl)
  rw [lg_entry_eq]
  generalize (lg_sl ([.ref h0, .int p0, .int p1, .int p2, .int p3]) ++ List.replicate (5 - (lg_sl ([.ref h0, .int p0, .int p1, .int p2, .int p3])).length) Slot.unset).toArray = ls at hl ⊢
  have hl : lv_has ls 5 [(0, .ref h0), (1, .int p0), (2, .int p1), (3, .int p2), (4, .int p3)] := hl
  refine lv_aload_n hx hb dX10_word_0 rfl (lv_at hl 0 rfl) ?_
  refine va_get (D := G) (ci := 7) (v := .ref h1) (C := RX10) (T := TX10) (N := 5) hx hb hts iX10 hown hK hP 0 rfl rfl 0 (by decide) (hw (.fieldLink RX10 10 "MotionFloor" "now" "LMotionFloor$Assembly;") (List.mem_of_getElem? (i := 0) rfl)) (fun _ h9 => h9) rfl dX10_word_1 ?_
  refine lv_bipush (v := 12) hx hb dX10_word_4 (by decide) ?_
  refine lv_iload_n hx hb dX10_word_6 rfl (lv_at hl 1 rfl) ?_
  refine lv_iload_n hx hb dX10_word_7 rfl (lv_at hl 2 rfl) ?_
  refine lv_iload_n hx hb dX10_word_8 rfl (lv_at hl 3 rfl) ?_
  refine lv_iload hx hb dX10_word_9 (lv_at hl 4 rfl) ?_
  have hPc := hP.sub (ws' := [(h1, .inr (0, [.ref h5, .ref h6, .ref h2, .ref h7, .ref h8, .ref h9, .ref h10, .int 0, .int 0, .int 0, .null])), (h2, .inr (5, [.int 0, .ref h11]))]) [1, 2] rfl
  have hDc := hD.sub (ws' := [(h1, .inr (0, [.ref h5, .ref h6, .ref h2, .ref h7, .ref h8, .ref h9, .ref h10, .int 0, .int 0, .int 0, .null])), (h2, .inr (5, [.int 0, .ref h11]))]) [1, 2] (by decide) rfl
  refine wGoi (wc := [(h1, .inr (0, [.ref h5, .ref h6, .ref h2, .ref h7, .ref h8, .ref h9, .ref h10, .int 0, .int 0, .int 0, .null])), (h2, .inr (5, [.int 0, .ref h11]))]) (wr := [(h0, .inr (7, [.ref h1, .ref h3, .null, .null, .ref h4]))]) (va_runV (As := [.int 12, .int p0, .int p1, .int p2, .int p3]) (rest := []) ⟨hx, hb, hml, hown, hts⟩ (m_X0_enact_11 l G K h1 h2 h5 h6 h7 h8 h9 h10 h11 p0 p1 p2 p3 _) (cwV 5 hts (wGV t_ (mw (.methodLink RX10 32 yX0_enact) (List.mem_of_getElem? (i := 1) rfl)) (mw (.instanceMethod yX0_enact) (List.mem_of_getElem? (i := 2) rfl)) (mw (.selects RX0 yX0_enact yX0_enact) (List.mem_of_getElem? (i := 3) rfl)) (mw (.initialized RX0) (List.mem_of_getElem? (i := 4) rfl)) j_X0_enact_11) rfl rfl rfl (by decide +kernel) ⟨Nat.le_of_ble_eq_true rfl, Nat.le_of_ble_eq_true rfl⟩) (wPV hK hE hPc hDc 0 0 rfl rfl) rfl rfl hl.1 rfl (lv_room (Nat.le_of_ble_eq_true rfl)) dX10_word_11 ⟨Nat.le_of_ble_eq_true rfl, Nat.le_of_ble_eq_true rfl⟩) hP hD hS hA [1, 2] [0] rfl rfl rfl (by decide) (fun r u H locs hw hP hD hS => ?_)
  rcases hw with ⟨rfl, rfl⟩
  have hP : va_P G vwCl [(h0, .inr (7, [.ref h1, .ref h3, .null, .null, .ref h4])), (h1, .inr (0, [.ref h5, .ref h6, .ref h2, .ref h7, .ref h8, .ref h9, .ref h10, .int 0, .int 0, .int 11, .null])), (h2, .inr (5, [.int 0, .ref h11]))] _ := hP
  have hD : va_D A [(h0, .inr (7, [.ref h1, .ref h3, .null, .null, .ref h4])), (h1, .inr (0, [.ref h5, .ref h6, .ref h2, .ref h7, .ref h8, .ref h9, .ref h10, .int 0, .int 0, .int 11, .null])), (h2, .inr (5, [.int 0, .ref h11]))] := hD
  have hP9 : va_P G vwCl [(h0, .inr (7, [.ref h1, .ref h3, .null, .null, .ref h4])), (h1, .inr (0, [.ref h5, .ref h6, .ref h2, .ref h7, .ref h8, .ref h9, .ref h10, .int 0, .int 0, .int 11, .null])), (h2, .inr (5, [.int 0, .ref h11]))] _ := hP
  have hD9 : va_D A [(h0, .inr (7, [.ref h1, .ref h3, .null, .null, .ref h4])), (h1, .inr (0, [.ref h5, .ref h6, .ref h2, .ref h7, .ref h8, .ref h9, .ref h10, .int 0, .int 0, .int 11, .null])), (h2, .inr (5, [.int 0, .ref h11]))] := hD
  exact W.iret (v := (-11)) hx hb hr (fun t ht hW => ⟨⟨(-11), _, rfl, ⟨rfl, rfl⟩, by rw [ht]; exact hP9, hD9⟩, hS.F ht⟩) hS.2.2 dX10_word_14
def e_X0_placeAt_0 : List Cond := [.fieldLink RX0 32 "MotionFloor$Assembly" "desk" "[LMotionFloor$Place;"]
def v_X0_placeAt_0 : List Cond := .code yX0_placeAt cX0_placeAt 2 (some (.object "MotionFloor$Place")) :: (e_X0_placeAt_0 ++ (wsX00 ++ []))
theorem te_X0_placeAt_0 : GoodIn lw_tbl e_X0_placeAt_0 := wGc z92 (wG0)
theorem t_X0_placeAt_0 : GoodIn lw_tbl v_X0_placeAt_0 := wGc z324 (wGa te_X0_placeAt_0 (wGa zcX0 (wG0)))
set_option maxHeartbeats 4000000 in
set_option maxRecDepth 100000 in
theorem m_X0_placeAt_0 (l : Launch) (G : va_G) (K : Nat → ClassId) (h0 h1 h2 h3 h4 h5 h6 h7 h8 h9 h10 h11 h12 h13 h14 h15 : Nat) (p0 : Int32) (sz : Nat) : Met l yX0_placeAt v_X0_placeAt_0 ({ frames := 0, cells := 0, slots := 0, locals := 0 }) (va_Pc [.ref h0, .int p0] (wS G K sz [(h0, .inr (0, [.ref h2, .ref h3, .ref h4, .ref h1, .ref h5, .ref h6, .ref h7, .int 0, .int 0, .int 0, .null])), (h1, .inl (K 4, 8, .inr (.inr (.inr (.inr (va_up (va_up (va_up (va_up (va_up (va_up (va_up (va_up (fun _ => none) 0 (some h8)) 1 (some h9)) 2 (some h10)) 3 (some h11)) 4 (some h12)) 5 (some h13)) 6 (some h14)) 7 (some h15)))))))])) (va_Qq (fun (r : Option Nat) (u : va_W) => ((p0.toInt < 0 ∨ (p0.toInt ≥ 0 ∧ p0.toInt ≥ 8)) ∧ r = none ∧ u = [(h0, .inr (0, [.ref h2, .ref h3, .ref h4, .ref h1, .ref h5, .ref h6, .ref h7, .int 0, .int 0, .int 0, .null])), (h1, .inl (K 4, 8, .inr (.inr (.inr (.inr (va_up (va_up (va_up (va_up (va_up (va_up (va_up (va_up (fun _ => none) 0 (some h8)) 1 (some h9)) 2 (some h10)) 3 (some h11)) 4 (some h12)) 5 (some h13)) 6 (some h14)) 7 (some h15)))))))]) ∨ (((p0.toInt ≥ 0 ∧ p0.toInt < 8 ∧ p0.toInt = 0)) ∧ r = some h8 ∧ u = [(h0, .inr (0, [.ref h2, .ref h3, .ref h4, .ref h1, .ref h5, .ref h6, .ref h7, .int 0, .int 0, .int 0, .null])), (h1, .inl (K 4, 8, .inr (.inr (.inr (.inr (va_up (va_up (va_up (va_up (va_up (va_up (va_up (va_up (fun _ => none) 0 (some h8)) 1 (some h9)) 2 (some h10)) 3 (some h11)) 4 (some h12)) 5 (some h13)) 6 (some h14)) 7 (some h15)))))))]) ∨ (((p0.toInt ≥ 0 ∧ p0.toInt < 8 ∧ p0.toInt = 1)) ∧ r = some h9 ∧ u = [(h0, .inr (0, [.ref h2, .ref h3, .ref h4, .ref h1, .ref h5, .ref h6, .ref h7, .int 0, .int 0, .int 0, .null])), (h1, .inl (K 4, 8, .inr (.inr (.inr (.inr (va_up (va_up (va_up (va_up (va_up (va_up (va_up (va_up (fun _ => none) 0 (some h8)) 1 (some h9)) 2 (some h10)) 3 (some h11)) 4 (some h12)) 5 (some h13)) 6 (some h14)) 7 (some h15)))))))]) ∨ (((p0.toInt ≥ 0 ∧ p0.toInt < 8 ∧ p0.toInt = 2)) ∧ r = some h10 ∧ u = [(h0, .inr (0, [.ref h2, .ref h3, .ref h4, .ref h1, .ref h5, .ref h6, .ref h7, .int 0, .int 0, .int 0, .null])), (h1, .inl (K 4, 8, .inr (.inr (.inr (.inr (va_up (va_up (va_up (va_up (va_up (va_up (va_up (va_up (fun _ => none) 0 (some h8)) 1 (some h9)) 2 (some h10)) 3 (some h11)) 4 (some h12)) 5 (some h13)) 6 (some h14)) 7 (some h15)))))))]) ∨ (((p0.toInt ≥ 0 ∧ p0.toInt < 8 ∧ p0.toInt = 3)) ∧ r = some h11 ∧ u = [(h0, .inr (0, [.ref h2, .ref h3, .ref h4, .ref h1, .ref h5, .ref h6, .ref h7, .int 0, .int 0, .int 0, .null])), (h1, .inl (K 4, 8, .inr (.inr (.inr (.inr (va_up (va_up (va_up (va_up (va_up (va_up (va_up (va_up (fun _ => none) 0 (some h8)) 1 (some h9)) 2 (some h10)) 3 (some h11)) 4 (some h12)) 5 (some h13)) 6 (some h14)) 7 (some h15)))))))]) ∨ (((p0.toInt ≥ 0 ∧ p0.toInt < 8 ∧ p0.toInt = 4)) ∧ r = some h12 ∧ u = [(h0, .inr (0, [.ref h2, .ref h3, .ref h4, .ref h1, .ref h5, .ref h6, .ref h7, .int 0, .int 0, .int 0, .null])), (h1, .inl (K 4, 8, .inr (.inr (.inr (.inr (va_up (va_up (va_up (va_up (va_up (va_up (va_up (va_up (fun _ => none) 0 (some h8)) 1 (some h9)) 2 (some h10)) 3 (some h11)) 4 (some h12)) 5 (some h13)) 6 (some h14)) 7 (some h15)))))))]) ∨ (((p0.toInt ≥ 0 ∧ p0.toInt < 8 ∧ p0.toInt = 5)) ∧ r = some h13 ∧ u = [(h0, .inr (0, [.ref h2, .ref h3, .ref h4, .ref h1, .ref h5, .ref h6, .ref h7, .int 0, .int 0, .int 0, .null])), (h1, .inl (K 4, 8, .inr (.inr (.inr (.inr (va_up (va_up (va_up (va_up (va_up (va_up (va_up (va_up (fun _ => none) 0 (some h8)) 1 (some h9)) 2 (some h10)) 3 (some h11)) 4 (some h12)) 5 (some h13)) 6 (some h14)) 7 (some h15)))))))]) ∨ (((p0.toInt ≥ 0 ∧ p0.toInt < 8 ∧ p0.toInt = 6)) ∧ r = some h14 ∧ u = [(h0, .inr (0, [.ref h2, .ref h3, .ref h4, .ref h1, .ref h5, .ref h6, .ref h7, .int 0, .int 0, .int 0, .null])), (h1, .inl (K 4, 8, .inr (.inr (.inr (.inr (va_up (va_up (va_up (va_up (va_up (va_up (va_up (va_up (fun _ => none) 0 (some h8)) 1 (some h9)) 2 (some h10)) 3 (some h11)) 4 (some h12)) 5 (some h13)) 6 (some h14)) 7 (some h15)))))))]) ∨ (((p0.toInt ≥ 0 ∧ p0.toInt < 8 ∧ p0.toInt = 7)) ∧ r = some h15 ∧ u = [(h0, .inr (0, [.ref h2, .ref h3, .ref h4, .ref h1, .ref h5, .ref h6, .ref h7, .int 0, .int 0, .int 0, .null])), (h1, .inl (K 4, 8, .inr (.inr (.inr (.inr (va_up (va_up (va_up (va_up (va_up (va_up (va_up (va_up (fun _ => none) 0 (some h8)) 1 (some h9)) 2 (some h10)) 3 (some h11)) 4 (some h12)) 5 (some h13)) 6 (some h14)) 7 (some h15)))))))])) (wB G (va_A [(h0, .inr (0, [.ref h2, .ref h3, .ref h4, .ref h1, .ref h5, .ref h6, .ref h7, .int 0, .int 0, .int 0, .null])), (h1, .inl (K 4, 8, .inr (.inr (.inr (.inr (va_up (va_up (va_up (va_up (va_up (va_up (va_up (va_up (fun _ => none) 0 (some h8)) 1 (some h9)) 2 (some h10)) 3 (some h11)) 4 (some h12)) 5 (some h13)) 6 (some h14)) 7 (some h15)))))))] sz)) (va_A [(h0, .inr (0, [.ref h2, .ref h3, .ref h4, .ref h1, .ref h5, .ref h6, .ref h7, .int 0, .int 0, .int 0, .null])), (h1, .inl (K 4, 8, .inr (.inr (.inr (.inr (va_up (va_up (va_up (va_up (va_up (va_up (va_up (va_up (fun _ => none) 0 (some h8)) 1 (some h9)) 2 (some h10)) 3 (some h11)) 4 (some h12)) 5 (some h13)) 6 (some h14)) 7 (some h15)))))))] sz)) 0 0 (va_A [(h0, .inr (0, [.ref h2, .ref h3, .ref h4, .ref h1, .ref h5, .ref h6, .ref h7, .int 0, .int 0, .int 0, .null])), (h1, .inl (K 4, 8, .inr (.inr (.inr (.inr (va_up (va_up (va_up (va_up (va_up (va_up (va_up (va_up (fun _ => none) 0 (some h8)) 1 (some h9)) 2 (some h10)) 3 (some h11)) 4 (some h12)) 5 (some h13)) 6 (some h14)) 7 (some h15)))))))] sz) := by
  refine Met.ofW (cc := cX0_placeAt) (maxL := 2) (ret := (some (.object "MotionFloor$Place"))) (by decide) rfl ?_
  intro p e s m args below meth c s₁ B hml hv
  obtain ⟨rfl, hsz, hP, hK, hD0, hE⟩ := hv
  have hx := B.exec
  have hb := B.bytes
  have hr := B.returns
  have hts := atoms_spec (ws := v_X0_placeAt_0) B.pre
  have t_ := t_X0_placeAt_0
  have mw : ∀ w ∈ e_X0_placeAt_0, w ∈ v_X0_placeAt_0 := fun w h => List.mem_cons_of_mem _ (List.mem_append_left _ h)
  have hw := fun w (h : w ∈ e_X0_placeAt_0) => hts w (mw w h)
  have iX0 : ∀ w ∈ wsX00, w ∈ v_X0_placeAt_0 := fun w h => List.mem_cons_of_mem _ (List.mem_append_right _ (List.mem_append_left _ h))
  have hown : s.vm.findClass RX0 = some m.cls := findClass_of_methodNamed B.named
  have hlocks := B.notSynchronized
  subst hsz
  have hD := hD0.self (sz := s.heap.size)
  generalize hAe : va_A [(h0, .inr (0, [.ref h2, .ref h3, .ref h4, .ref h1, .ref h5, .ref h6, .ref h7, .int 0, .int 0, .int 0, .null])), (h1, .inl (K 4, 8, .inr (.inr (.inr (.inr (va_up (va_up (va_up (va_up (va_up (va_up (va_up (va_up (fun _ => none) 0 (some h8)) 1 (some h9)) 2 (some h10)) 3 (some h11)) 4 (some h12)) 5 (some h13)) 6 (some h14)) 7 (some h15)))))))] s.heap.size = A at hD ⊢
  have hA : ∀ q : Nat, s.heap.size ≤ q → A q := fun q h => by rw [← hAe]; exact Or.inr h
  have hS : va_S A s.heap s.heap [] := va_S.rf
  have hP : va_P G vwCl [(h0, .inr (0, [.ref h2, .ref h3, .ref h4, .ref h1, .ref h5, .ref h6, .ref h7, .int 0, .int 0, .int 0, .null])), (h1, .inl (K 4, 8, .inr (.inr (.inr (.inr (va_up (va_up (va_up (va_up (va_up (va_up (va_up (va_up (fun _ => none) 0 (some h8)) 1 (some h9)) 2 (some h10)) 3 (some h11)) 4 (some h12)) 5 (some h13)) 6 (some h14)) 7 (some h15)))))))] s.heap := hP
  have hl := lv_entry ([.ref h0, .int p0]) (n := 2) (Nat.le_of_ble_eq_true rfl)
  rw [lg_entry_eq]
  generalize (lg_sl ([.ref h0, .int p0]) ++ List.replicate (2 - (lg_sl ([.ref h0, .int p0])).length) Slot.unset).toArray = ls at hl ⊢
  have hl : lv_has ls 2 [(0, .ref h0), (1, .int p0)] := hl
  refine lv_iload_n hx hb dX0_placeAt_0 rfl (lv_at hl 1 rfl) ?_
  refine lv_if_lt (tgt := 10) hx hb dX0_placeAt_1 (by decide) (fun c1 => ?_) (fun c1 => ?_)
  · have c1 : p0.toInt < 0 := wLt rfl (by decide) c1
    refine lv_null hx hb dX0_placeAt_10 ?_
    refine lv_goto (tgt := 20) hx hb dX0_placeAt_11 (by decide) ?_
    have hP9 : va_P G vwCl [(h0, .inr (0, [.ref h2, .ref h3, .ref h4, .ref h1, .ref h5, .ref h6, .ref h7, .int 0, .int 0, .int 0, .null])), (h1, .inl (K 4, 8, .inr (.inr (.inr (.inr (va_up (va_up (va_up (va_up (va_up (va_up (va_up (va_up (fun _ => none) 0 (some h8)) 1 (some h9)) 2 (some h10)) 3 (some h11)) 4 (some h12)) 5 (some h13)) 6 (some h14)) 7 (some h15)))))))] _ := hP
    have hD9 : va_D A [(h0, .inr (0, [.ref h2, .ref h3, .ref h4, .ref h1, .ref h5, .ref h6, .ref h7, .int 0, .int 0, .int 0, .null])), (h1, .inl (K 4, 8, .inr (.inr (.inr (.inr (va_up (va_up (va_up (va_up (va_up (va_up (va_up (va_up (fun _ => none) 0 (some h8)) 1 (some h9)) 2 (some h10)) 3 (some h11)) 4 (some h12)) 5 (some h13)) 6 (some h14)) 7 (some h15)))))))] := hD
    exact W.aret (v := .null) hx hb hr (Or.inl ⟨_, rfl⟩) (Or.inl rfl) (fun t ht hW => ⟨⟨none, _, rfl, Or.inl ⟨(by first | omega | decide | simp), rfl, rfl⟩, by rw [ht]; exact hP9, hD9⟩, hS.F ht⟩) hS.2.2 dX0_placeAt_20
  · have c1 : p0.toInt ≥ 0 := wNlt rfl (by decide) c1
    refine lv_iload_n hx hb dX0_placeAt_4 rfl (lv_at hl 1 rfl) ?_
    refine lv_bipush (v := 8) hx hb dX0_placeAt_5 (by decide) ?_
    refine lv_icmp_lt (tgt := 14) hx hb dX0_placeAt_7 (by decide) (fun c2 => ?_) (fun c2 => ?_)
    · have c2 : p0.toInt < 8 := wLt rfl (by decide) c2
      refine lv_aload_n hx hb dX0_placeAt_14 rfl (lv_at hl 0 rfl) ?_
      refine va_get (D := G) (ci := 0) (v := .ref h1) (C := RX0) (T := TX0) (N := 11) hx hb hts iX0 hown hK hP 0 rfl rfl 3 (by decide) (hw (.fieldLink RX0 32 "MotionFloor$Assembly" "desk" "[LMotionFloor$Place;") (List.mem_of_getElem? (i := 0) rfl)) (fun _ h9 => h9) rfl dX0_placeAt_15 ?_
      refine lv_iload_n hx hb dX0_placeAt_18 rfl (lv_at hl 1 rfl) ?_
      rcases (show p0.toInt = 0 ∨ p0.toInt = 1 ∨ p0.toInt = 2 ∨ p0.toInt = 3 ∨ p0.toInt = 4 ∨ p0.toInt = 5 ∨ p0.toInt = 6 ∨ p0.toInt = 7 from by omega) with c3 | c3 | c3 | c3 | c3 | c3 | c3 | c3
      · obtain rfl : p0 = 0 := wIs (b := 0) (by decide) c3
        have z_0 : (0 : Int32).toInt = 0 := by decide
        refine va_aldq hx hb hK hP 1 4 rfl rfl (vp_in_iff.mpr (by decide)) dX0_placeAt_19 ?_
        refine wTop (v1 := .ref h8) rfl ?_
        have hP9 : va_P G vwCl [(h0, .inr (0, [.ref h2, .ref h3, .ref h4, .ref h1, .ref h5, .ref h6, .ref h7, .int 0, .int 0, .int 0, .null])), (h1, .inl (K 4, 8, .inr (.inr (.inr (.inr (va_up (va_up (va_up (va_up (va_up (va_up (va_up (va_up (fun _ => none) 0 (some h8)) 1 (some h9)) 2 (some h10)) 3 (some h11)) 4 (some h12)) 5 (some h13)) 6 (some h14)) 7 (some h15)))))))] _ := hP
        have hD9 : va_D A [(h0, .inr (0, [.ref h2, .ref h3, .ref h4, .ref h1, .ref h5, .ref h6, .ref h7, .int 0, .int 0, .int 0, .null])), (h1, .inl (K 4, 8, .inr (.inr (.inr (.inr (va_up (va_up (va_up (va_up (va_up (va_up (va_up (va_up (fun _ => none) 0 (some h8)) 1 (some h9)) 2 (some h10)) 3 (some h11)) 4 (some h12)) 5 (some h13)) 6 (some h14)) 7 (some h15)))))))] := hD
        exact W.aret (v := .ref h8) hx hb hr (Or.inl ⟨_, rfl⟩) (Or.inr ⟨_, rfl⟩) (fun t ht hW => ⟨⟨some h8, _, rfl, Or.inr (Or.inl ⟨(by first | omega | decide | simp), rfl, rfl⟩), by rw [ht]; exact hP9, hD9⟩, hS.F ht⟩) hS.2.2 dX0_placeAt_20
      · obtain rfl : p0 = 1 := wIs (b := 1) (by decide) c3
        have z_1 : (1 : Int32).toInt = 1 := by decide
        refine va_aldq hx hb hK hP 1 4 rfl rfl (vp_in_iff.mpr (by decide)) dX0_placeAt_19 ?_
        refine wTop (v1 := .ref h9) rfl ?_
        have hP9 : va_P G vwCl [(h0, .inr (0, [.ref h2, .ref h3, .ref h4, .ref h1, .ref h5, .ref h6, .ref h7, .int 0, .int 0, .int 0, .null])), (h1, .inl (K 4, 8, .inr (.inr (.inr (.inr (va_up (va_up (va_up (va_up (va_up (va_up (va_up (va_up (fun _ => none) 0 (some h8)) 1 (some h9)) 2 (some h10)) 3 (some h11)) 4 (some h12)) 5 (some h13)) 6 (some h14)) 7 (some h15)))))))] _ := hP
        have hD9 : va_D A [(h0, .inr (0, [.ref h2, .ref h3, .ref h4, .ref h1, .ref h5, .ref h6, .ref h7, .int 0, .int 0, .int 0, .null])), (h1, .inl (K 4, 8, .inr (.inr (.inr (.inr (va_up (va_up (va_up (va_up (va_up (va_up (va_up (va_up (fun _ => none) 0 (some h8)) 1 (some h9)) 2 (some h10)) 3 (some h11)) 4 (some h12)) 5 (some h13)) 6 (some h14)) 7 (some h15)))))))] := hD
        exact W.aret (v := .ref h9) hx hb hr (Or.inl ⟨_, rfl⟩) (Or.inr ⟨_, rfl⟩) (fun t ht hW => ⟨⟨some h9, _, rfl, Or.inr (Or.inr (Or.inl ⟨(by first | omega | decide | simp), rfl, rfl⟩)), by rw [ht]; exact hP9, hD9⟩, hS.F ht⟩) hS.2.2 dX0_placeAt_20
      · obtain rfl : p0 = 2 := wIs (b := 2) (by decide) c3
        have z_2 : (2 : Int32).toInt = 2 := by decide
        refine va_aldq hx hb hK hP 1 4 rfl rfl (vp_in_iff.mpr (by decide)) dX0_placeAt_19 ?_
        refine wTop (v1 := .ref h10) rfl ?_
        have hP9 : va_P G vwCl [(h0, .inr (0, [.ref h2, .ref h3, .ref h4, .ref h1, .ref h5, .ref h6, .ref h7, .int 0, .int 0, .int 0, .null])), (h1, .inl (K 4, 8, .inr (.inr (.inr (.inr (va_up (va_up (va_up (va_up (va_up (va_up (va_up (va_up (fun _ => none) 0 (some h8)) 1 (some h9)) 2 (some h10)) 3 (some h11)) 4 (some h12)) 5 (some h13)) 6 (some h14)) 7 (some h15)))))))] _ := hP
        have hD9 : va_D A [(h0, .inr (0, [.ref h2, .ref h3, .ref h4, .ref h1, .ref h5, .ref h6, .ref h7, .int 0, .int 0, .int 0, .null])), (h1, .inl (K 4, 8, .inr (.inr (.inr (.inr (va_up (va_up (va_up (va_up (va_up (va_up (va_up (va_up (fun _ => none) 0 (some h8)) 1 (some h9)) 2 (some h10)) 3 (some h11)) 4 (some h12)) 5 (some h13)) 6 (some h14)) 7 (some h15)))))))] := hD
        exact W.aret (v := .ref h10) hx hb hr (Or.inl ⟨_, rfl⟩) (Or.inr ⟨_, rfl⟩) (fun t ht hW => ⟨⟨some h10, _, rfl, Or.inr (Or.inr (Or.inr (Or.inl ⟨(by first | omega | decide | simp), rfl, rfl⟩))), by rw [ht]; exact hP9, hD9⟩, hS.F ht⟩) hS.2.2 dX0_placeAt_20
      · obtain rfl : p0 = 3 := wIs (b := 3) (by decide) c3
        have z_3 : (3 : Int32).toInt = 3 := by decide
        refine va_aldq hx hb hK hP 1 4 rfl rfl (vp_in_iff.mpr (by decide)) dX0_placeAt_19 ?_
        refine wTop (v1 := .ref h11) rfl ?_
        have hP9 : va_P G vwCl [(h0, .inr (0, [.ref h2, .ref h3, .ref h4, .ref h1, .ref h5, .ref h6, .ref h7, .int 0, .int 0, .int 0, .null])), (h1, .inl (K 4, 8, .inr (.inr (.inr (.inr (va_up (va_up (va_up (va_up (va_up (va_up (va_up (va_up (fun _ => none) 0 (some h8)) 1 (some h9)) 2 (some h10)) 3 (some h11)) 4 (some h12)) 5 (some h13)) 6 (some h14)) 7 (some h15)))))))] _ := hP
        have hD9 : va_D A [(h0, .inr (0, [.ref h2, .ref h3, .ref h4, .ref h1, .ref h5, .ref h6, .ref h7, .int 0, .int 0, .int 0, .null])), (h1, .inl (K 4, 8, .inr (.inr (.inr (.inr (va_up (va_up (va_up (va_up (va_up (va_up (va_up (va_up (fun _ => none) 0 (some h8)) 1 (some h9)) 2 (some h10)) 3 (some h11)) 4 (some h12)) 5 (some h13)) 6 (some h14)) 7 (some h15)))))))] := hD
        exact W.aret (v := .ref h11) hx hb hr (Or.inl ⟨_, rfl⟩) (Or.inr ⟨_, rfl⟩) (fun t ht hW => ⟨⟨some h11, _, rfl, Or.inr (Or.inr (Or.inr (Or.inr (Or.inl ⟨(by first | omega | decide | simp), rfl, rfl⟩)))), by rw [ht]; exact hP9, hD9⟩, hS.F ht⟩) hS.2.2 dX0_placeAt_20
      · obtain rfl : p0 = 4 := wIs (b := 4) (by decide) c3
        have z_4 : (4 : Int32).toInt = 4 := by decide
        refine va_aldq hx hb hK hP 1 4 rfl rfl (vp_in_iff.mpr (by decide)) dX0_placeAt_19 ?_
        refine wTop (v1 := .ref h12) rfl ?_
        have hP9 : va_P G vwCl [(h0, .inr (0, [.ref h2, .ref h3, .ref h4, .ref h1, .ref h5, .ref h6, .ref h7, .int 0, .int 0, .int 0, .null])), (h1, .inl (K 4, 8, .inr (.inr (.inr (.inr (va_up (va_up (va_up (va_up (va_up (va_up (va_up (va_up (fun _ => none) 0 (some h8)) 1 (some h9)) 2 (some h10)) 3 (some h11)) 4 (some h12)) 5 (some h13)) 6 (some h14)) 7 (some h15)))))))] _ := hP
        have hD9 : va_D A [(h0, .inr (0, [.ref h2, .ref h3, .ref h4, .ref h1, .ref h5, .ref h6, .ref h7, .int 0, .int 0, .int 0, .null])), (h1, .inl (K 4, 8, .inr (.inr (.inr (.inr (va_up (va_up (va_up (va_up (va_up (va_up (va_up (va_up (fun _ => none) 0 (some h8)) 1 (some h9)) 2 (some h10)) 3 (some h11)) 4 (some h12)) 5 (some h13)) 6 (some h14)) 7 (some h15)))))))] := hD
        exact W.aret (v := .ref h12) hx hb hr (Or.inl ⟨_, rfl⟩) (Or.inr ⟨_, rfl⟩) (fun t ht hW => ⟨⟨some h12, _, rfl, Or.inr (Or.inr (Or.inr (Or.inr (Or.inr (Or.inl ⟨(by first | omega | decide | simp), rfl, rfl⟩))))), by rw [ht]; exact hP9, hD9⟩, hS.F ht⟩) hS.2.2 dX0_placeAt_20
      · obtain rfl : p0 = 5 := wIs (b := 5) (by decide) c3
        have z_5 : (5 : Int32).toInt = 5 := by decide
        refine va_aldq hx hb hK hP 1 4 rfl rfl (vp_in_iff.mpr (by decide)) dX0_placeAt_19 ?_
        refine wTop (v1 := .ref h13) rfl ?_
        have hP9 : va_P G vwCl [(h0, .inr (0, [.ref h2, .ref h3, .ref h4, .ref h1, .ref h5, .ref h6, .ref h7, .int 0, .int 0, .int 0, .null])), (h1, .inl (K 4, 8, .inr (.inr (.inr (.inr (va_up (va_up (va_up (va_up (va_up (va_up (va_up (va_up (fun _ => none) 0 (some h8)) 1 (some h9)) 2 (some h10)) 3 (some h11)) 4 (some h12)) 5 (some h13)) 6 (some h14)) 7 (some h15)))))))] _ := hP
        have hD9 : va_D A [(h0, .inr (0, [.ref h2, .ref h3, .ref h4, .ref h1, .ref h5, .ref h6, .ref h7, .int 0, .int 0, .int 0, .null])), (h1, .inl (K 4, 8, .inr (.inr (.inr (.inr (va_up (va_up (va_up (va_up (va_up (va_up (va_up (va_up (fun _ => none) 0 (some h8)) 1 (some h9)) 2 (some h10)) 3 (some h11)) 4 (some h12)) 5 (some h13)) 6 (some h14)) 7 (some h15)))))))] := hD
        exact W.aret (v := .ref h13) hx hb hr (Or.inl ⟨_, rfl⟩) (Or.inr ⟨_, rfl⟩) (fun t ht hW => ⟨⟨some h13, _, rfl, Or.inr (Or.inr (Or.inr (Or.inr (Or.inr (Or.inr (Or.inl ⟨(by first | omega | decide | simp), rfl, rfl⟩)))))), by rw [ht]; exact hP9, hD9⟩, hS.F ht⟩) hS.2.2 dX0_placeAt_20
      · obtain rfl : p0 = 6 := wIs (b := 6) (by decide) c3
        have z_6 : (6 : Int32).toInt = 6 := by decide
        refine va_aldq hx hb hK hP 1 4 rfl rfl (vp_in_iff.mpr (by decide)) dX0_placeAt_19 ?_
        refine wTop (v1 := .ref h14) rfl ?_
        have hP9 : va_P G vwCl [(h0, .inr (0, [.ref h2, .ref h3, .ref h4, .ref h1, .ref h5, .ref h6, .ref h7, .int 0, .int 0, .int 0, .null])), (h1, .inl (K 4, 8, .inr (.inr (.inr (.inr (va_up (va_up (va_up (va_up (va_up (va_up (va_up (va_up (fun _ => none) 0 (some h8)) 1 (some h9)) 2 (some h10)) 3 (some h11)) 4 (some h12)) 5 (some h13)) 6 (some h14)) 7 (some h15)))))))] _ := hP
        have hD9 : va_D A [(h0, .inr (0, [.ref h2, .ref h3, .ref h4, .ref h1, .ref h5, .ref h6, .ref h7, .int 0, .int 0, .int 0, .null])), (h1, .inl (K 4, 8, .inr (.inr (.inr (.inr (va_up (va_up (va_up (va_up (va_up (va_up (va_up (va_up (fun _ => none) 0 (some h8)) 1 (some h9)) 2 (some h10)) 3 (some h11)) 4 (some h12)) 5 (some h13)) 6 (some h14)) 7 (some h15)))))))] := hD
        exact W.aret (v := .ref h14) hx hb hr (Or.inl ⟨_, rfl⟩) (Or.inr ⟨_, rfl⟩) (fun t ht hW => ⟨⟨some h14, _, rfl, Or.inr (Or.inr (Or.inr (Or.inr (Or.inr (Or.inr (Or.inr (Or.inl ⟨(by first | omega | decide | simp), rfl, rfl⟩))))))), by rw [ht]; exact hP9, hD9⟩, hS.F ht⟩) hS.2.2 dX0_placeAt_20
      · obtain rfl : p0 = 7 := wIs (b := 7) (by decide) c3
        have z_7 : (7 : Int32).toInt = 7 := by decide
        refine va_aldq hx hb hK hP 1 4 rfl rfl (vp_in_iff.mpr (by decide)) dX0_placeAt_19 ?_
        refine wTop (v1 := .ref h15) rfl ?_
        have hP9 : va_P G vwCl [(h0, .inr (0, [.ref h2, .ref h3, .ref h4, .ref h1, .ref h5, .ref h6, .ref h7, .int 0, .int 0, .int 0, .null])), (h1, .inl (K 4, 8, .inr (.inr (.inr (.inr (va_up (va_up (va_up (va_up (va_up (va_up (va_up (va_up (fun _ => none) 0 (some h8)) 1 (some h9)) 2 (some h10)) 3 (some h11)) 4 (some h12)) 5 (some h13)) 6 (some h14)) 7 (some h15)))))))] _ := hP
        have hD9 : va_D A [(h0, .inr (0, [.ref h2, .ref h3, .ref h4, .ref h1, .ref h5, .ref h6, .ref h7, .int 0, .int 0, .int 0, .null])), (h1, .inl (K 4, 8, .inr (.inr (.inr (.inr (va_up (va_up (va_up (va_up (va_up (va_up (va_up (va_up (fun _ => none) 0 (some h8)) 1 (some h9)) 2 (some h10)) 3 (some h11)) 4 (some h12)) 5 (some h13)) 6 (some h14)) 7 (some h15)))))))] := hD
        exact W.aret (v := .ref h15) hx hb hr (Or.inl ⟨_, rfl⟩) (Or.inr ⟨_, rfl⟩) (fun t ht hW => ⟨⟨some h15, _, rfl, Or.inr (Or.inr (Or.inr (Or.inr (Or.inr (Or.inr (Or.inr (Or.inr (⟨(by first | omega | decide | simp), rfl, rfl⟩)))))))), by rw [ht]; exact hP9, hD9⟩, hS.F ht⟩) hS.2.2 dX0_placeAt_20
    · have c2 : p0.toInt ≥ 8 := wNlt rfl (by decide) c2
      refine lv_null hx hb dX0_placeAt_10 ?_
      refine lv_goto (tgt := 20) hx hb dX0_placeAt_11 (by decide) ?_
      have hP9 : va_P G vwCl [(h0, .inr (0, [.ref h2, .ref h3, .ref h4, .ref h1, .ref h5, .ref h6, .ref h7, .int 0, .int 0, .int 0, .null])), (h1, .inl (K 4, 8, .inr (.inr (.inr (.inr (va_up (va_up (va_up (va_up (va_up (va_up (va_up (va_up (fun _ => none) 0 (some h8)) 1 (some h9)) 2 (some h10)) 3 (some h11)) 4 (some h12)) 5 (some h13)) 6 (some h14)) 7 (some h15)))))))] _ := hP
      have hD9 : va_D A [(h0, .inr (0, [.ref h2, .ref h3, .ref h4, .ref h1, .ref h5, .ref h6, .ref h7, .int 0, .int 0, .int 0, .null])), (h1, .inl (K 4, 8, .inr (.inr (.inr (.inr (va_up (va_up (va_up (va_up (va_up (va_up (va_up (va_up (fun _ => none) 0 (some h8)) 1 (some h9)) 2 (some h10)) 3 (some h11)) 4 (some h12)) 5 (some h13)) 6 (some h14)) 7 (some h15)))))))] := hD
      exact W.aret (v := .null) hx hb hr (Or.inl ⟨_, rfl⟩) (Or.inl rfl) (fun t ht hW => ⟨⟨none, _, rfl, Or.inl ⟨(by first | omega | decide | simp), rfl, rfl⟩, by rw [ht]; exact hP9, hD9⟩, hS.F ht⟩) hS.2.2 dX0_placeAt_20
def e_X6_isEmpty_0 : List Cond := [.fieldLink RX6 9 "MotionFloor$Place" "sort" "I"]
def v_X6_isEmpty_0 : List Cond := .code yX6_isEmpty cX6_isEmpty 1 (some .boolean) :: (e_X6_isEmpty_0 ++ (wsX60 ++ []))
theorem te_X6_isEmpty_0 : GoodIn lw_tbl e_X6_isEmpty_0 := wGc z29 (wG0)
theorem t_X6_isEmpty_0 : GoodIn lw_tbl v_X6_isEmpty_0 := wGc z325 (wGa te_X6_isEmpty_0 (wGa zcX6 (wG0)))
set_option maxHeartbeats 4000000 in
set_option maxRecDepth 100000 in
theorem m_X6_isEmpty_0 (l : Launch) (G : va_G) (K : Nat → ClassId) (h0 h1 : Nat) (sz : Nat) : Met l yX6_isEmpty v_X6_isEmpty_0 ({ frames := 0, cells := 0, slots := 0, locals := 0 }) (va_Pc [.ref h0] (wS G K sz [(h0, .inr (5, [.int 0, .ref h1]))])) (va_Qi (fun (r : Int32) (u : va_W) => (r = 1 ∧ u = [(h0, .inr (5, [.int 0, .ref h1]))])) (wB G (va_A [(h0, .inr (5, [.int 0, .ref h1]))] sz)) (va_A [(h0, .inr (5, [.int 0, .ref h1]))] sz)) 0 0 (va_A [(h0, .inr (5, [.int 0, .ref h1]))] sz) := by
  refine Met.ofW (cc := cX6_isEmpty) (maxL := 1) (ret := (some .boolean)) (by decide) rfl ?_
  intro p e s m args below meth c s₁ B hml hv
  obtain ⟨rfl, hsz, hP, hK, hD0, hE⟩ := hv
  have hx := B.exec
  have hb := B.bytes
  have hr := B.returns
  have hts := atoms_spec (ws := v_X6_isEmpty_0) B.pre
  have t_ := t_X6_isEmpty_0
  have mw : ∀ w ∈ e_X6_isEmpty_0, w ∈ v_X6_isEmpty_0 := fun w h => List.mem_cons_of_mem _ (List.mem_append_left _ h)
  have hw := fun w (h : w ∈ e_X6_isEmpty_0) => hts w (mw w h)
  have iX6 : ∀ w ∈ wsX60, w ∈ v_X6_isEmpty_0 := fun w h => List.mem_cons_of_mem _ (List.mem_append_right _ (List.mem_append_left _ h))
  have hown : s.vm.findClass RX6 = some m.cls := findClass_of_methodNamed B.named
  have hlocks := B.notSynchronized
  subst hsz
  have hD := hD0.self (sz := s.heap.size)
  generalize hAe : va_A [(h0, .inr (5, [.int 0, .ref h1]))] s.heap.size = A at hD ⊢
  have hA : ∀ q : Nat, s.heap.size ≤ q → A q := fun q h => by rw [← hAe]; exact Or.inr h
  have hS : va_S A s.heap s.heap [] := va_S.rf
  have hP : va_P G vwCl [(h0, .inr (5, [.int 0, .ref h1]))] s.heap := hP
  have hl := lv_entry ([.ref h0]) (n := 1) (Nat.le_of_ble_eq_true rfl)
  rw [lg_entry_eq]
  generalize (lg_sl ([.ref h0]) ++ List.replicate (1 - (lg_sl ([.ref h0])).length) Slot.unset).toArray = ls at hl ⊢
  have hl : lv_has ls 1 [(0, .ref h0)] := hl
  refine lv_aload_n hx hb dX6_isEmpty_0 rfl (lv_at hl 0 rfl) ?_
  refine va_get (D := G) (ci := 5) (v := .int 0) (C := RX6) (T := TX6) (N := 2) hx hb hts iX6 hown hK hP 0 rfl rfl 0 (by decide) (hw (.fieldLink RX6 9 "MotionFloor$Place" "sort" "I") (List.mem_of_getElem? (i := 0) rfl)) (fun _ h9 => h9) rfl dX6_isEmpty_1 ?_
  refine lv_if_ne (tgt := 11) hx hb dX6_isEmpty_4 (by decide) (fun c_ => absurd c_ (by decide)) (fun _ => ?_)
  refine lv_iconst (v := 1) hx hb dX6_isEmpty_7 (by decide) ?_
  refine lv_goto (tgt := 12) hx hb dX6_isEmpty_8 (by decide) ?_
  have hP9 : va_P G vwCl [(h0, .inr (5, [.int 0, .ref h1]))] _ := hP
  have hD9 : va_D A [(h0, .inr (5, [.int 0, .ref h1]))] := hD
  exact W.zret (v := 1) (ty := .boolean) hx hb hr rfl (fun t ht hW => ⟨⟨1, _, rfl, ⟨rfl, rfl⟩, by rw [ht]; exact hP9, hD9⟩, hS.F ht⟩) hS.2.2 dX6_isEmpty_12
def e_X8_againstLay_0 : List Cond := [.methodLink RX8 166 yX0_placeAt, .instanceMethod yX0_placeAt, .selects RX0 yX0_placeAt yX0_placeAt, .initialized RX0, .fieldLink RX8 141 "MotionFloor$Assembly" "draft" "LMotionFloor$Place;", .methodLink RX8 170 yX6_isEmpty, .instanceMethod yX6_isEmpty, .selects RX6 yX6_isEmpty yX6_isEmpty, .initialized RX6]
def v_X8_againstLay_0 : List Cond := .code yX8_againstLay cX8_againstLay 5 (some .int) :: (e_X8_againstLay_0 ++ (wsX00 ++ (v_X0_placeAt_0 ++ (v_X6_isEmpty_0 ++ []))))
theorem te_X8_againstLay_0 : GoodIn lw_tbl e_X8_againstLay_0 := wGc z331 (wGc z330 (wGc z329 (wGc z118 (wGc z315 (wGc z328 (wGc z327 (wGc z326 (wGc z95 (wG0)))))))))
theorem t_X8_againstLay_0 : GoodIn lw_tbl v_X8_againstLay_0 := wGc z332 (wGa te_X8_againstLay_0 (wGa zcX0 (wGa t_X0_placeAt_0 (wGa t_X6_isEmpty_0 (wG0)))))
set_option maxHeartbeats 4000000 in
set_option maxRecDepth 100000 in
theorem m_X8_againstLay_0 (l : Launch) (G : va_G) (K : Nat → ClassId) (h0 h1 h2 h3 h4 h5 h6 h7 h8 h9 h10 h11 h12 h13 h14 h15 h16 : Nat) (p0 : Int32) (sz : Nat) : Met l yX8_againstLay v_X8_againstLay_0 ({ frames := 1, cells := 0, slots := 0, locals := 21 }) (va_Pc [.ref h0, .int p0] (wS G K sz [(h0, .inr (0, [.ref h3, .ref h4, .ref h1, .ref h2, .ref h5, .ref h6, .ref h7, .int 0, .int 0, .int 0, .null])), (h1, .inr (5, [.int 0, .ref h8])), (h2, .inl (K 4, 8, .inr (.inr (.inr (.inr (va_up (va_up (va_up (va_up (va_up (va_up (va_up (va_up (fun _ => none) 0 (some h9)) 1 (some h10)) 2 (some h11)) 3 (some h12)) 4 (some h13)) 5 (some h14)) 6 (some h15)) 7 (some h16)))))))])) (va_Qi (fun (r : Int32) (u : va_W) => (((p0.toInt < 0 ∨ (p0.toInt ≥ 0 ∧ p0.toInt ≥ 8))) ∧ r = 9 ∧ u = [(h0, .inr (0, [.ref h3, .ref h4, .ref h1, .ref h2, .ref h5, .ref h6, .ref h7, .int 0, .int 0, .int 0, .null])), (h1, .inr (5, [.int 0, .ref h8])), (h2, .inl (K 4, 8, .inr (.inr (.inr (.inr (va_up (va_up (va_up (va_up (va_up (va_up (va_up (va_up (fun _ => none) 0 (some h9)) 1 (some h10)) 2 (some h11)) 3 (some h12)) 4 (some h13)) 5 (some h14)) 6 (some h15)) 7 (some h16)))))))]) ∨ ((((p0.toInt ≥ 0 ∧ p0.toInt < 8 ∧ p0.toInt = 0)) ∨ ((p0.toInt ≥ 0 ∧ p0.toInt < 8 ∧ p0.toInt = 1)) ∨ ((p0.toInt ≥ 0 ∧ p0.toInt < 8 ∧ p0.toInt = 2)) ∨ ((p0.toInt ≥ 0 ∧ p0.toInt < 8 ∧ p0.toInt = 3)) ∨ ((p0.toInt ≥ 0 ∧ p0.toInt < 8 ∧ p0.toInt = 4)) ∨ ((p0.toInt ≥ 0 ∧ p0.toInt < 8 ∧ p0.toInt = 5)) ∨ ((p0.toInt ≥ 0 ∧ p0.toInt < 8 ∧ p0.toInt = 6)) ∨ ((p0.toInt ≥ 0 ∧ p0.toInt < 8 ∧ p0.toInt = 7))) ∧ r = 11 ∧ u = [(h0, .inr (0, [.ref h3, .ref h4, .ref h1, .ref h2, .ref h5, .ref h6, .ref h7, .int 0, .int 0, .int 0, .null])), (h1, .inr (5, [.int 0, .ref h8])), (h2, .inl (K 4, 8, .inr (.inr (.inr (.inr (va_up (va_up (va_up (va_up (va_up (va_up (va_up (va_up (fun _ => none) 0 (some h9)) 1 (some h10)) 2 (some h11)) 3 (some h12)) 4 (some h13)) 5 (some h14)) 6 (some h15)) 7 (some h16)))))))])) (wB G (va_A [(h0, .inr (0, [.ref h3, .ref h4, .ref h1, .ref h2, .ref h5, .ref h6, .ref h7, .int 0, .int 0, .int 0, .null])), (h1, .inr (5, [.int 0, .ref h8])), (h2, .inl (K 4, 8, .inr (.inr (.inr (.inr (va_up (va_up (va_up (va_up (va_up (va_up (va_up (va_up (fun _ => none) 0 (some h9)) 1 (some h10)) 2 (some h11)) 3 (some h12)) 4 (some h13)) 5 (some h14)) 6 (some h15)) 7 (some h16)))))))] sz)) (va_A [(h0, .inr (0, [.ref h3, .ref h4, .ref h1, .ref h2, .ref h5, .ref h6, .ref h7, .int 0, .int 0, .int 0, .null])), (h1, .inr (5, [.int 0, .ref h8])), (h2, .inl (K 4, 8, .inr (.inr (.inr (.inr (va_up (va_up (va_up (va_up (va_up (va_up (va_up (va_up (fun _ => none) 0 (some h9)) 1 (some h10)) 2 (some h11)) 3 (some h12)) 4 (some h13)) 5 (some h14)) 6 (some h15)) 7 (some h16)))))))] sz)) 0 0 (va_A [(h0, .inr (0, [.ref h3, .ref h4, .ref h1, .ref h2, .ref h5, .ref h6, .ref h7, .int 0, .int 0, .int 0, .null])), (h1, .inr (5, [.int 0, .ref h8])), (h2, .inl (K 4, 8, .inr (.inr (.inr (.inr (va_up (va_up (va_up (va_up (va_up (va_up (va_up (va_up (fun _ => none) 0 (some h9)) 1 (some h10)) 2 (some h11)) 3 (some h12)) 4 (some h13)) 5 (some h14)) 6 (some h15)) 7 (some h16)))))))] sz) := by
  refine Met.ofW (cc := cX8_againstLay) (maxL := 5) (ret := (some .int)) (by decide) rfl ?_
  intro p e s m args below meth c s₁ B hml hv
  obtain ⟨rfl, hsz, hP, hK, hD0, hE⟩ := hv
  have hx := B.exec
  have hb := B.bytes
  have hr := B.returns
  have hts := atoms_spec (ws := v_X8_againstLay_0) B.pre
  have t_ := t_X8_againstLay_0
  have mw : ∀ w ∈ e_X8_againstLay_0, w ∈ v_X8_againstLay_0 := fun w h => List.mem_cons_of_mem _ (List.mem_append_left _ h)
  have hw := fun w (h : w ∈ e_X8_againstLay_0) => hts w (mw w h)
  have iX0 : ∀ w ∈ wsX00, w ∈ v_X8_againstLay_0 := fun w h => List.mem_cons_of_mem _ (List.mem_append_right _ (List.mem_append_left _ h))
  have j_X0_placeAt_0 : ∀ w ∈ v_X0_placeAt_0, w ∈ v_X8_againstLay_0 := fun w h => List.mem_cons_of_mem _ (List.mem_append_right _ (List.mem_append_right _ (List.mem_append_left _ h)))
  have j_X6_isEmpty_0 : ∀ w ∈ v_X6_isEmpty_0, w ∈ v_X8_againstLay_0 := fun w h => List.mem_cons_of_mem _ (List.mem_append_right _ (List.mem_append_right _ (List.mem_append_right _ (List.mem_append_left _ h))))
  have hown : s.vm.findClass RX8 = some m.cls := findClass_of_methodNamed B.named
  have hlocks := B.notSynchronized
  subst hsz
  have hD := hD0.self (sz := s.heap.size)
  generalize hAe : va_A [(h0, .inr (0, [.ref h3, .ref h4, .ref h1, .ref h2, .ref h5, .ref h6, .ref h7, .int 0, .int 0, .int 0, .null])), (h1, .inr (5, [.int 0, .ref h8])), (h2, .inl (K 4, 8, .inr (.inr (.inr (.inr (va_up (va_up (va_up (va_up (va_up (va_up (va_up (va_up (fun _ => none) 0 (some h9)) 1 (some h10)) 2 (some h11)) 3 (some h12)) 4 (some h13)) 5 (some h14)) 6 (some h15)) 7 (some h16)))))))] s.heap.size = A at hD ⊢
  have hA : ∀ q : Nat, s.heap.size ≤ q → A q := fun q h => by rw [← hAe]; exact Or.inr h
  have hS : va_S A s.heap s.heap [] := va_S.rf
  have hP : va_P G vwCl [(h0, .inr (0, [.ref h3, .ref h4, .ref h1, .ref h2, .ref h5, .ref h6, .ref h7, .int 0, .int 0, .int 0, .null])), (h1, .inr (5, [.int 0, .ref h8])), (h2, .inl (K 4, 8, .inr (.inr (.inr (.inr (va_up (va_up (va_up (va_up (va_up (va_up (va_up (va_up (fun _ => none) 0 (some h9)) 1 (some h10)) 2 (some h11)) 3 (some h12)) 4 (some h13)) 5 (some h14)) 6 (some h15)) 7 (some h16)))))))] s.heap := hP
  have hl := lv_entry ([.ref h0, .int p0]) (n := 5) (Nat.le_of_ble_eq_true rfl)
  rw [lg_entry_eq]
  generalize (lg_sl ([.ref h0, .int p0]) ++ List.replicate (5 - (lg_sl ([.ref h0, .int p0])).length) Slot.unset).toArray = ls at hl ⊢
  have hl : lv_has ls 5 [(0, .ref h0), (1, .int p0)] := hl
  refine lv_aload_n hx hb dX8_againstLay_0 rfl (lv_at hl 0 rfl) ?_
  refine lv_iload_n hx hb dX8_againstLay_1 rfl (lv_at hl 1 rfl) ?_
  have hPc := hP.sub (ws' := [(h0, .inr (0, [.ref h3, .ref h4, .ref h1, .ref h2, .ref h5, .ref h6, .ref h7, .int 0, .int 0, .int 0, .null])), (h2, .inl (K 4, 8, .inr (.inr (.inr (.inr (va_up (va_up (va_up (va_up (va_up (va_up (va_up (va_up (fun _ => none) 0 (some h9)) 1 (some h10)) 2 (some h11)) 3 (some h12)) 4 (some h13)) 5 (some h14)) 6 (some h15)) 7 (some h16)))))))]) [0, 2] rfl
  have hDc := hD.sub (ws' := [(h0, .inr (0, [.ref h3, .ref h4, .ref h1, .ref h2, .ref h5, .ref h6, .ref h7, .int 0, .int 0, .int 0, .null])), (h2, .inl (K 4, 8, .inr (.inr (.inr (.inr (va_up (va_up (va_up (va_up (va_up (va_up (va_up (va_up (fun _ => none) 0 (some h9)) 1 (some h10)) 2 (some h11)) 3 (some h12)) 4 (some h13)) 5 (some h14)) 6 (some h15)) 7 (some h16)))))))]) [0, 2] (by decide) rfl
  refine wGoq (wc := [(h0, .inr (0, [.ref h3, .ref h4, .ref h1, .ref h2, .ref h5, .ref h6, .ref h7, .int 0, .int 0, .int 0, .null])), (h2, .inl (K 4, 8, .inr (.inr (.inr (.inr (va_up (va_up (va_up (va_up (va_up (va_up (va_up (va_up (fun _ => none) 0 (some h9)) 1 (some h10)) 2 (some h11)) 3 (some h12)) 4 (some h13)) 5 (some h14)) 6 (some h15)) 7 (some h16)))))))]) (wr := [(h1, .inr (5, [.int 0, .ref h8]))]) (va_runV (As := [.int p0]) (rest := []) ⟨hx, hb, hml, hown, hts⟩ (m_X0_placeAt_0 l G K h0 h2 h3 h4 h1 h5 h6 h7 h9 h10 h11 h12 h13 h14 h15 h16 p0 _) (cwV 1 hts (wGV t_ (mw (.methodLink RX8 166 yX0_placeAt) (List.mem_of_getElem? (i := 0) rfl)) (mw (.instanceMethod yX0_placeAt) (List.mem_of_getElem? (i := 1) rfl)) (mw (.selects RX0 yX0_placeAt yX0_placeAt) (List.mem_of_getElem? (i := 2) rfl)) (mw (.initialized RX0) (List.mem_of_getElem? (i := 3) rfl)) j_X0_placeAt_0) rfl rfl rfl (by decide +kernel) ⟨Nat.le_of_ble_eq_true rfl, Nat.le_of_ble_eq_true rfl⟩) (wPV hK hE hPc hDc 0 0 rfl rfl) rfl rfl hl.1 rfl (lv_room (Nat.le_of_ble_eq_true rfl)) dX8_againstLay_2 ⟨Nat.le_of_ble_eq_true rfl, Nat.le_of_ble_eq_true rfl⟩) hP hD hS hA [0, 2] [1] rfl rfl rfl (by decide) (fun r u H locs hw hP hD hS => ?_)
  rcases hw with ⟨c_w, rfl, rfl⟩ | ⟨c_w, rfl, rfl⟩ | ⟨c_w, rfl, rfl⟩ | ⟨c_w, rfl, rfl⟩ | ⟨c_w, rfl, rfl⟩ | ⟨c_w, rfl, rfl⟩ | ⟨c_w, rfl, rfl⟩ | ⟨c_w, rfl, rfl⟩ | ⟨c_w, rfl, rfl⟩
  · have c1 := c_w
    have hP : va_P G vwCl [(h1, .inr (5, [.int 0, .ref h8])), (h0, .inr (0, [.ref h3, .ref h4, .ref h1, .ref h2, .ref h5, .ref h6, .ref h7, .int 0, .int 0, .int 0, .null])), (h2, .inl (K 4, 8, .inr (.inr (.inr (.inr (va_up (va_up (va_up (va_up (va_up (va_up (va_up (va_up (fun _ => none) 0 (some h9)) 1 (some h10)) 2 (some h11)) 3 (some h12)) 4 (some h13)) 5 (some h14)) 6 (some h15)) 7 (some h16)))))))] _ := hP
    have hD : va_D A [(h1, .inr (5, [.int 0, .ref h8])), (h0, .inr (0, [.ref h3, .ref h4, .ref h1, .ref h2, .ref h5, .ref h6, .ref h7, .int 0, .int 0, .int 0, .null])), (h2, .inl (K 4, 8, .inr (.inr (.inr (.inr (va_up (va_up (va_up (va_up (va_up (va_up (va_up (va_up (fun _ => none) 0 (some h9)) 1 (some h10)) 2 (some h11)) 3 (some h12)) 4 (some h13)) 5 (some h14)) 6 (some h15)) 7 (some h16)))))))] := hD
    refine wTop (v1 := .null) rfl ?_
    refine lv_astore_nN (lv' := [(2, .null), (0, .ref h0), (1, .int p0)]) hx hb dX8_againstLay_5 rfl hl (by decide) rfl (fun ls hl => ?_)
    refine lv_aload_nN hx hb dX8_againstLay_6 rfl (lv_at hl 0 rfl) ?_
    refine lv_ifnonnullN hx hb dX8_againstLay_7 ?_
    refine lv_bipush (v := 9) hx hb dX8_againstLay_10 (by decide) ?_
    have hP9 := hP.sub (ws' := [(h0, .inr (0, [.ref h3, .ref h4, .ref h1, .ref h2, .ref h5, .ref h6, .ref h7, .int 0, .int 0, .int 0, .null])), (h1, .inr (5, [.int 0, .ref h8])), (h2, .inl (K 4, 8, .inr (.inr (.inr (.inr (va_up (va_up (va_up (va_up (va_up (va_up (va_up (va_up (fun _ => none) 0 (some h9)) 1 (some h10)) 2 (some h11)) 3 (some h12)) 4 (some h13)) 5 (some h14)) 6 (some h15)) 7 (some h16)))))))]) [1, 0, 2] rfl
    have hD9 := hD.sub (ws' := [(h0, .inr (0, [.ref h3, .ref h4, .ref h1, .ref h2, .ref h5, .ref h6, .ref h7, .int 0, .int 0, .int 0, .null])), (h1, .inr (5, [.int 0, .ref h8])), (h2, .inl (K 4, 8, .inr (.inr (.inr (.inr (va_up (va_up (va_up (va_up (va_up (va_up (va_up (va_up (fun _ => none) 0 (some h9)) 1 (some h10)) 2 (some h11)) 3 (some h12)) 4 (some h13)) 5 (some h14)) 6 (some h15)) 7 (some h16)))))))]) [1, 0, 2] (by decide) rfl
    exact W.iret (v := 9) hx hb hr (fun t ht hW => ⟨⟨9, _, rfl, Or.inl ⟨(by first | omega | decide | simp), rfl, rfl⟩, by rw [ht]; exact hP9, hD9⟩, hS.F ht⟩) hS.2.2 dX8_againstLay_12
  · have c2 := c_w
    have hP : va_P G vwCl [(h1, .inr (5, [.int 0, .ref h8])), (h0, .inr (0, [.ref h3, .ref h4, .ref h1, .ref h2, .ref h5, .ref h6, .ref h7, .int 0, .int 0, .int 0, .null])), (h2, .inl (K 4, 8, .inr (.inr (.inr (.inr (va_up (va_up (va_up (va_up (va_up (va_up (va_up (va_up (fun _ => none) 0 (some h9)) 1 (some h10)) 2 (some h11)) 3 (some h12)) 4 (some h13)) 5 (some h14)) 6 (some h15)) 7 (some h16)))))))] _ := hP
    have hD : va_D A [(h1, .inr (5, [.int 0, .ref h8])), (h0, .inr (0, [.ref h3, .ref h4, .ref h1, .ref h2, .ref h5, .ref h6, .ref h7, .int 0, .int 0, .int 0, .null])), (h2, .inl (K 4, 8, .inr (.inr (.inr (.inr (va_up (va_up (va_up (va_up (va_up (va_up (va_up (va_up (fun _ => none) 0 (some h9)) 1 (some h10)) 2 (some h11)) 3 (some h12)) 4 (some h13)) 5 (some h14)) 6 (some h15)) 7 (some h16)))))))] := hD
    refine wTop (v1 := .ref h9) rfl ?_
    obtain rfl : p0 = 0 := wIs (b := 0) (by decide) (by omega)
    have z_0 : (0 : Int32).toInt = 0 := by decide
    refine lv_astore_n (lv' := [(2, .ref h9), (0, .ref h0), (1, .int 0)]) hx hb dX8_againstLay_5 rfl hl (by decide) rfl (fun ls hl => ?_)
    refine lv_aload_n hx hb dX8_againstLay_6 rfl (lv_at hl 0 rfl) ?_
    refine lv_ifnonnull (tgt := 13) hx hb dX8_againstLay_7 (by decide) ?_
    refine lv_aload_n hx hb dX8_againstLay_13 rfl (lv_at hl 1 rfl) ?_
    refine va_get (D := G) (ci := 0) (v := .ref h1) (C := RX0) (T := TX0) (N := 11) hx hb hts iX0 hown hK hP 1 rfl rfl 2 (by decide) (hw (.fieldLink RX8 141 "MotionFloor$Assembly" "draft" "LMotionFloor$Place;") (List.mem_of_getElem? (i := 4) rfl)) (fun _ h9 => h9) rfl dX8_againstLay_14 ?_
    have hPc := hP.sub (ws' := [(h1, .inr (5, [.int 0, .ref h8]))]) [0] rfl
    have hDc := hD.sub (ws' := [(h1, .inr (5, [.int 0, .ref h8]))]) [0] (by decide) rfl
    refine wGoi (wc := [(h1, .inr (5, [.int 0, .ref h8]))]) (wr := [(h0, .inr (0, [.ref h3, .ref h4, .ref h1, .ref h2, .ref h5, .ref h6, .ref h7, .int 0, .int 0, .int 0, .null])), (h2, .inl (K 4, 8, .inr (.inr (.inr (.inr (va_up (va_up (va_up (va_up (va_up (va_up (va_up (va_up (fun _ => none) 0 (some h9)) 1 (some h10)) 2 (some h11)) 3 (some h12)) 4 (some h13)) 5 (some h14)) 6 (some h15)) 7 (some h16)))))))]) (va_runV (As := []) (rest := []) ⟨hx, hb, hml, hown, hts⟩ (m_X6_isEmpty_0 l G K h1 h8 _) (cwV 0 hts (wGV t_ (mw (.methodLink RX8 170 yX6_isEmpty) (List.mem_of_getElem? (i := 5) rfl)) (mw (.instanceMethod yX6_isEmpty) (List.mem_of_getElem? (i := 6) rfl)) (mw (.selects RX6 yX6_isEmpty yX6_isEmpty) (List.mem_of_getElem? (i := 7) rfl)) (mw (.initialized RX6) (List.mem_of_getElem? (i := 8) rfl)) j_X6_isEmpty_0) rfl rfl rfl (by decide +kernel) ⟨Nat.le_of_ble_eq_true rfl, Nat.le_of_ble_eq_true rfl⟩) (wPV hK hE hPc hDc 5 0 rfl rfl) rfl rfl hl.1 rfl (lv_room (Nat.le_of_ble_eq_true rfl)) dX8_againstLay_17 ⟨Nat.le_of_ble_eq_true rfl, Nat.le_of_ble_eq_true rfl⟩) hP hD hS hA [0] [1, 2] rfl rfl rfl (by decide) (fun r u H locs hw hP hD hS => ?_)
    rcases hw with ⟨rfl, rfl⟩
    have hP : va_P G vwCl [(h0, .inr (0, [.ref h3, .ref h4, .ref h1, .ref h2, .ref h5, .ref h6, .ref h7, .int 0, .int 0, .int 0, .null])), (h2, .inl (K 4, 8, .inr (.inr (.inr (.inr (va_up (va_up (va_up (va_up (va_up (va_up (va_up (va_up (fun _ => none) 0 (some h9)) 1 (some h10)) 2 (some h11)) 3 (some h12)) 4 (some h13)) 5 (some h14)) 6 (some h15)) 7 (some h16))))))), (h1, .inr (5, [.int 0, .ref h8]))] _ := hP
    have hD : va_D A [(h0, .inr (0, [.ref h3, .ref h4, .ref h1, .ref h2, .ref h5, .ref h6, .ref h7, .int 0, .int 0, .int 0, .null])), (h2, .inl (K 4, 8, .inr (.inr (.inr (.inr (va_up (va_up (va_up (va_up (va_up (va_up (va_up (va_up (fun _ => none) 0 (some h9)) 1 (some h10)) 2 (some h11)) 3 (some h12)) 4 (some h13)) 5 (some h14)) 6 (some h15)) 7 (some h16))))))), (h1, .inr (5, [.int 0, .ref h8]))] := hD
    refine lv_if_ne (tgt := 30) hx hb dX8_againstLay_20 (by decide) (fun _ => ?_) (fun c_ => absurd c_ (by decide))
    refine lv_bipush (v := 11) hx hb dX8_againstLay_30 (by decide) ?_
    have hP9 := hP.sub (ws' := [(h0, .inr (0, [.ref h3, .ref h4, .ref h1, .ref h2, .ref h5, .ref h6, .ref h7, .int 0, .int 0, .int 0, .null])), (h1, .inr (5, [.int 0, .ref h8])), (h2, .inl (K 4, 8, .inr (.inr (.inr (.inr (va_up (va_up (va_up (va_up (va_up (va_up (va_up (va_up (fun _ => none) 0 (some h9)) 1 (some h10)) 2 (some h11)) 3 (some h12)) 4 (some h13)) 5 (some h14)) 6 (some h15)) 7 (some h16)))))))]) [0, 2, 1] rfl
    have hD9 := hD.sub (ws' := [(h0, .inr (0, [.ref h3, .ref h4, .ref h1, .ref h2, .ref h5, .ref h6, .ref h7, .int 0, .int 0, .int 0, .null])), (h1, .inr (5, [.int 0, .ref h8])), (h2, .inl (K 4, 8, .inr (.inr (.inr (.inr (va_up (va_up (va_up (va_up (va_up (va_up (va_up (va_up (fun _ => none) 0 (some h9)) 1 (some h10)) 2 (some h11)) 3 (some h12)) 4 (some h13)) 5 (some h14)) 6 (some h15)) 7 (some h16)))))))]) [0, 2, 1] (by decide) rfl
    exact W.iret (v := 11) hx hb hr (fun t ht hW => ⟨⟨11, _, rfl, Or.inr (⟨(by first | omega | decide | simp), rfl, rfl⟩), by rw [ht]; exact hP9, hD9⟩, hS.F ht⟩) hS.2.2 dX8_againstLay_32
  · have c3 := c_w
    have hP : va_P G vwCl [(h1, .inr (5, [.int 0, .ref h8])), (h0, .inr (0, [.ref h3, .ref h4, .ref h1, .ref h2, .ref h5, .ref h6, .ref h7, .int 0, .int 0, .int 0, .null])), (h2, .inl (K 4, 8, .inr (.inr (.inr (.inr (va_up (va_up (va_up (va_up (va_up (va_up (va_up (va_up (fun _ => none) 0 (some h9)) 1 (some h10)) 2 (some h11)) 3 (some h12)) 4 (some h13)) 5 (some h14)) 6 (some h15)) 7 (some h16)))))))] _ := hP
    have hD : va_D A [(h1, .inr (5, [.int 0, .ref h8])), (h0, .inr (0, [.ref h3, .ref h4, .ref h1, .ref h2, .ref h5, .ref h6, .ref h7, .int 0, .int 0, .int 0, .null])), (h2, .inl (K 4, 8, .inr (.inr (.inr (.inr (va_up (va_up (va_up (va_up (va_up (va_up (va_up (va_up (fun _ => none) 0 (some h9)) 1 (some h10)) 2 (some h11)) 3 (some h12)) 4 (some h13)) 5 (some h14)) 6 (some h15)) 7 (some h16)))))))] := hD
    refine wTop (v1 := .ref h10) rfl ?_
    obtain rfl : p0 = 1 := wIs (b := 1) (by decide) (by omega)
    have z_1 : (1 : Int32).toInt = 1 := by decide
    refine lv_astore_n (lv' := [(2, .ref h10), (0, .ref h0), (1, .int 1)]) hx hb dX8_againstLay_5 rfl hl (by decide) rfl (fun ls hl => ?_)
    refine lv_aload_n hx hb dX8_againstLay_6 rfl (lv_at hl 0 rfl) ?_
    refine lv_ifnonnull (tgt := 13) hx hb dX8_againstLay_7 (by decide) ?_
    refine lv_aload_n hx hb dX8_againstLay_13 rfl (lv_at hl 1 rfl) ?_
    refine va_get (D := G) (ci := 0) (v := .ref h1) (C := RX0) (T := TX0) (N := 11) hx hb hts iX0 hown hK hP 1 rfl rfl 2 (by decide) (hw (.fieldLink RX8 141 "MotionFloor$Assembly" "draft" "LMotionFloor$Place;") (List.mem_of_getElem? (i := 4) rfl)) (fun _ h9 => h9) rfl dX8_againstLay_14 ?_
    have hPc := hP.sub (ws' := [(h1, .inr (5, [.int 0, .ref h8]))]) [0] rfl
    have hDc := hD.sub (ws' := [(h1, .inr (5, [.int 0, .ref h8]))]) [0] (by decide) rfl
    refine wGoi (wc := [(h1, .inr (5, [.int 0, .ref h8]))]) (wr := [(h0, .inr (0, [.ref h3, .ref h4, .ref h1, .ref h2, .ref h5, .ref h6, .ref h7, .int 0, .int 0, .int 0, .null])), (h2, .inl (K 4, 8, .inr (.inr (.inr (.inr (va_up (va_up (va_up (va_up (va_up (va_up (va_up (va_up (fun _ => none) 0 (some h9)) 1 (some h10)) 2 (some h11)) 3 (some h12)) 4 (some h13)) 5 (some h14)) 6 (some h15)) 7 (some h16)))))))]) (va_runV (As := []) (rest := []) ⟨hx, hb, hml, hown, hts⟩ (m_X6_isEmpty_0 l G K h1 h8 _) (cwV 0 hts (wGV t_ (mw (.methodLink RX8 170 yX6_isEmpty) (List.mem_of_getElem? (i := 5) rfl)) (mw (.instanceMethod yX6_isEmpty) (List.mem_of_getElem? (i := 6) rfl)) (mw (.selects RX6 yX6_isEmpty yX6_isEmpty) (List.mem_of_getElem? (i := 7) rfl)) (mw (.initialized RX6) (List.mem_of_getElem? (i := 8) rfl)) j_X6_isEmpty_0) rfl rfl rfl (by decide +kernel) ⟨Nat.le_of_ble_eq_true rfl, Nat.le_of_ble_eq_true rfl⟩) (wPV hK hE hPc hDc 5 0 rfl rfl) rfl rfl hl.1 rfl (lv_room (Nat.le_of_ble_eq_true rfl)) dX8_againstLay_17 ⟨Nat.le_of_ble_eq_true rfl, Nat.le_of_ble_eq_true rfl⟩) hP hD hS hA [0] [1, 2] rfl rfl rfl (by decide) (fun r u H locs hw hP hD hS => ?_)
    rcases hw with ⟨rfl, rfl⟩
    have hP : va_P G vwCl [(h0, .inr (0, [.ref h3, .ref h4, .ref h1, .ref h2, .ref h5, .ref h6, .ref h7, .int 0, .int 0, .int 0, .null])), (h2, .inl (K 4, 8, .inr (.inr (.inr (.inr (va_up (va_up (va_up (va_up (va_up (va_up (va_up (va_up (fun _ => none) 0 (some h9)) 1 (some h10)) 2 (some h11)) 3 (some h12)) 4 (some h13)) 5 (some h14)) 6 (some h15)) 7 (some h16))))))), (h1, .inr (5, [.int 0, .ref h8]))] _ := hP
    have hD : va_D A [(h0, .inr (0, [.ref h3, .ref h4, .ref h1, .ref h2, .ref h5, .ref h6, .ref h7, .int 0, .int 0, .int 0, .null])), (h2, .inl (K 4, 8, .inr (.inr (.inr (.inr (va_up (va_up (va_up (va_up (va_up (va_up (va_up (va_up (fun _ => none) 0 (some h9)) 1 (some h10)) 2 (some h11)) 3 (some h12)) 4 (some h13)) 5 (some h14)) 6 (some h15)) 7 (some h16))))))), (h1, .inr (5, [.int 0, .ref h8]))] := hD
    refine lv_if_ne (tgt := 30) hx hb dX8_againstLay_20 (by decide) (fun _ => ?_) (fun c_ => absurd c_ (by decide))
    refine lv_bipush (v := 11) hx hb dX8_againstLay_30 (by decide) ?_
    have hP9 := hP.sub (ws' := [(h0, .inr (0, [.ref h3, .ref h4, .ref h1, .ref h2, .ref h5, .ref h6, .ref h7, .int 0, .int 0, .int 0, .null])), (h1, .inr (5, [.int 0, .ref h8])), (h2, .inl (K 4, 8, .inr (.inr (.inr (.inr (va_up (va_up (va_up (va_up (va_up (va_up (va_up (va_up (fun _ => none) 0 (some h9)) 1 (some h10)) 2 (some h11)) 3 (some h12)) 4 (some h13)) 5 (some h14)) 6 (some h15)) 7 (some h16)))))))]) [0, 2, 1] rfl
    have hD9 := hD.sub (ws' := [(h0, .inr (0, [.ref h3, .ref h4, .ref h1, .ref h2, .ref h5, .ref h6, .ref h7, .int 0, .int 0, .int 0, .null])), (h1, .inr (5, [.int 0, .ref h8])), (h2, .inl (K 4, 8, .inr (.inr (.inr (.inr (va_up (va_up (va_up (va_up (va_up (va_up (va_up (va_up (fun _ => none) 0 (some h9)) 1 (some h10)) 2 (some h11)) 3 (some h12)) 4 (some h13)) 5 (some h14)) 6 (some h15)) 7 (some h16)))))))]) [0, 2, 1] (by decide) rfl
    exact W.iret (v := 11) hx hb hr (fun t ht hW => ⟨⟨11, _, rfl, Or.inr (⟨(by first | omega | decide | simp), rfl, rfl⟩), by rw [ht]; exact hP9, hD9⟩, hS.F ht⟩) hS.2.2 dX8_againstLay_32
  · have c4 := c_w
    have hP : va_P G vwCl [(h1, .inr (5, [.int 0, .ref h8])), (h0, .inr (0, [.ref h3, .ref h4, .ref h1, .ref h2, .ref h5, .ref h6, .ref h7, .int 0, .int 0, .int 0, .null])), (h2, .inl (K 4, 8, .inr (.inr (.inr (.inr (va_up (va_up (va_up (va_up (va_up (va_up (va_up (va_up (fun _ => none) 0 (some h9)) 1 (some h10)) 2 (some h11)) 3 (some h12)) 4 (some h13)) 5 (some h14)) 6 (some h15)) 7 (some h16)))))))] _ := hP
    have hD : va_D A [(h1, .inr (5, [.int 0, .ref h8])), (h0, .inr (0, [.ref h3, .ref h4, .ref h1, .ref h2, .ref h5, .ref h6, .ref h7, .int 0, .int 0, .int 0, .null])), (h2, .inl (K 4, 8, .inr (.inr (.inr (.inr (va_up (va_up (va_up (va_up (va_up (va_up (va_up (va_up (fun _ => none) 0 (some h9)) 1 (some h10)) 2 (some h11)) 3 (some h12)) 4 (some h13)) 5 (some h14)) 6 (some h15)) 7 (some h16)))))))] := hD
    refine wTop (v1 := .ref h11) rfl ?_
    obtain rfl : p0 = 2 := wIs (b := 2) (by decide) (by omega)
    have z_2 : (2 : Int32).toInt = 2 := by decide
    refine lv_astore_n (lv' := [(2, .ref h11), (0, .ref h0), (1, .int 2)]) hx hb dX8_againstLay_5 rfl hl (by decide) rfl (fun ls hl => ?_)
    refine lv_aload_n hx hb dX8_againstLay_6 rfl (lv_at hl 0 rfl) ?_
    refine lv_ifnonnull (tgt := 13) hx hb dX8_againstLay_7 (by decide) ?_
    refine lv_aload_n hx hb dX8_againstLay_13 rfl (lv_at hl 1 rfl) ?_
    refine va_get (D := G) (ci := 0) (v := .ref h1) (C := RX0) (T := TX0) (N := 11) hx hb hts iX0 hown hK hP 1 rfl rfl 2 (by decide) (hw (.fieldLink RX8 141 "MotionFloor$Assembly" "draft" "LMotionFloor$Place;") (List.mem_of_getElem? (i := 4) rfl)) (fun _ h9 => h9) rfl dX8_againstLay_14 ?_
    have hPc := hP.sub (ws' := [(h1, .inr (5, [.int 0, .ref h8]))]) [0] rfl
    have hDc := hD.sub (ws' := [(h1, .inr (5, [.int 0, .ref h8]))]) [0] (by decide) rfl
    refine wGoi (wc := [(h1, .inr (5, [.int 0, .ref h8]))]) (wr := [(h0, .inr (0, [.ref h3, .ref h4, .ref h1, .ref h2, .ref h5, .ref h6, .ref h7, .int 0, .int 0, .int 0, .null])), (h2, .inl (K 4, 8, .inr (.inr (.inr (.inr (va_up (va_up (va_up (va_up (va_up (va_up (va_up (va_up (fun _ => none) 0 (some h9)) 1 (some h10)) 2 (some h11)) 3 (some h12)) 4 (some h13)) 5 (some h14)) 6 (some h15)) 7 (some h16)))))))]) (va_runV (As := []) (rest := []) ⟨hx, hb, hml, hown, hts⟩ (m_X6_isEmpty_0 l G K h1 h8 _) (cwV 0 hts (wGV t_ (mw (.methodLink RX8 170 yX6_isEmpty) (List.mem_of_getElem? (i := 5) rfl)) (mw (.instanceMethod yX6_isEmpty) (List.mem_of_getElem? (i := 6) rfl)) (mw (.selects RX6 yX6_isEmpty yX6_isEmpty) (List.mem_of_getElem? (i := 7) rfl)) (mw (.initialized RX6) (List.mem_of_getElem? (i := 8) rfl)) j_X6_isEmpty_0) rfl rfl rfl (by decide +kernel) ⟨Nat.le_of_ble_eq_true rfl, Nat.le_of_ble_eq_true rfl⟩) (wPV hK hE hPc hDc 5 0 rfl rfl) rfl rfl hl.1 rfl (lv_room (Nat.le_of_ble_eq_true rfl)) dX8_againstLay_17 ⟨Nat.le_of_ble_eq_true rfl, Nat.le_of_ble_eq_true rfl⟩) hP hD hS hA [0] [1, 2] rfl rfl rfl (by decide) (fun r u H locs hw hP hD hS => ?_)
    rcases hw with ⟨rfl, rfl⟩
    have hP : va_P G vwCl [(h0, .inr (0, [.ref h3, .ref h4, .ref h1, .ref h2, .ref h5, .ref h6, .ref h7, .int 0, .int 0, .int 0, .null])), (h2, .inl (K 4, 8, .inr (.inr (.inr (.inr (va_up (va_up (va_up (va_up (va_up (va_up (va_up (va_up (fun _ => none) 0 (some h9)) 1 (some h10)) 2 (some h11)) 3 (some h12)) 4 (some h13)) 5 (some h14)) 6 (some h15)) 7 (some h16))))))), (h1, .inr (5, [.int 0, .ref h8]))] _ := hP
    have hD : va_D A [(h0, .inr (0, [.ref h3, .ref h4, .ref h1, .ref h2, .ref h5, .ref h6, .ref h7, .int 0, .int 0, .int 0, .null])), (h2, .inl (K 4, 8, .inr (.inr (.inr (.inr (va_up (va_up (va_up (va_up (va_up (va_up (va_up (va_up (fun _ => none) 0 (some h9)) 1 (some h10)) 2 (some h11)) 3 (some h12)) 4 (some h13)) 5 (some h14)) 6 (some h15)) 7 (some h16))))))), (h1, .inr (5, [.int 0, .ref h8]))] := hD
    refine lv_if_ne (tgt := 30) hx hb dX8_againstLay_20 (by decide) (fun _ => ?_) (fun c_ => absurd c_ (by decide))
    refine lv_bipush (v := 11) hx hb dX8_againstLay_30 (by decide) ?_
    have hP9 := hP.sub (ws' := [(h0, .inr (0, [.ref h3, .ref h4, .ref h1, .ref h2, .ref h5, .ref h6, .ref h7, .int 0, .int 0, .int 0, .null])), (h1, .inr (5, [.int 0, .ref h8])), (h2, .inl (K 4, 8, .inr (.inr (.inr (.inr (va_up (va_up (va_up (va_up (va_up (va_up (va_up (va_up (fun _ => none) 0 (some h9)) 1 (some h10)) 2 (some h11)) 3 (some h12)) 4 (some h13)) 5 (some h14)) 6 (some h15)) 7 (some h16)))))))]) [0, 2, 1] rfl
    have hD9 := hD.sub (ws' := [(h0, .inr (0, [.ref h3, .ref h4, .ref h1, .ref h2, .ref h5, .ref h6, .ref h7, .int 0, .int 0, .int 0, .null])), (h1, .inr (5, [.int 0, .ref h8])), (h2, .inl (K 4, 8, .inr (.inr (.inr (.inr (va_up (va_up (va_up (va_up (va_up (va_up (va_up (va_up (fun _ => none) 0 (some h9)) 1 (some h10)) 2 (some h11)) 3 (some h12)) 4 (some h13)) 5 (some h14)) 6 (some h15)) 7 (some h16)))))))]) [0, 2, 1] (by decide) rfl
    exact W.iret (v := 11) hx hb hr (fun t ht hW => ⟨⟨11, _, rfl, Or.inr (⟨(by first | omega | decide | simp), rfl, rfl⟩), by rw [ht]; exact hP9, hD9⟩, hS.F ht⟩) hS.2.2 dX8_againstLay_32
  · have c5 := c_w
    have hP : va_P G vwCl [(h1, .inr (5, [.int 0, .ref h8])), (h0, .inr (0, [.ref h3, .ref h4, .ref h1, .ref h2, .ref h5, .ref h6, .ref h7, .int 0, .int 0, .int 0, .null])), (h2, .inl (K 4, 8, .inr (.inr (.inr (.inr (va_up (va_up (va_up (va_up (va_up (va_up (va_up (va_up (fun _ => none) 0 (some h9)) 1 (some h10)) 2 (some h11)) 3 (some h12)) 4 (some h13)) 5 (some h14)) 6 (some h15)) 7 (some h16)))))))] _ := hP
    have hD : va_D A [(h1, .inr (5, [.int 0, .ref h8])), (h0, .inr (0, [.ref h3, .ref h4, .ref h1, .ref h2, .ref h5, .ref h6, .ref h7, .int 0, .int 0, .int 0, .null])), (h2, .inl (K 4, 8, .inr (.inr (.inr (.inr (va_up (va_up (va_up (va_up (va_up (va_up (va_up (va_up (fun _ => none) 0 (some h9)) 1 (some h10)) 2 (some h11)) 3 (some h12)) 4 (some h13)) 5 (some h14)) 6 (some h15)) 7 (some h16)))))))] := hD
    refine wTop (v1 := .ref h12) rfl ?_
    obtain rfl : p0 = 3 := wIs (b := 3) (by decide) (by omega)
    have z_3 : (3 : Int32).toInt = 3 := by decide
    refine lv_astore_n (lv' := [(2, .ref h12), (0, .ref h0), (1, .int 3)]) hx hb dX8_againstLay_5 rfl hl (by decide) rfl (fun ls hl => ?_)
    refine lv_aload_n hx hb dX8_againstLay_6 rfl (lv_at hl 0 rfl) ?_
    refine lv_ifnonnull (tgt := 13) hx hb dX8_againstLay_7 (by decide) ?_
    refine lv_aload_n hx hb dX8_againstLay_13 rfl (lv_at hl 1 rfl) ?_
    refine va_get (D := G) (ci := 0) (v := .ref h1) (C := RX0) (T := TX0) (N := 11) hx hb hts iX0 hown hK hP 1 rfl rfl 2 (by decide) (hw (.fieldLink RX8 141 "MotionFloor$Assembly" "draft" "LMotionFloor$Place;") (List.mem_of_getElem? (i := 4) rfl)) (fun _ h9 => h9) rfl dX8_againstLay_14 ?_
    have hPc := hP.sub (ws' := [(h1, .inr (5, [.int 0, .ref h8]))]) [0] rfl
    have hDc := hD.sub (ws' := [(h1, .inr (5, [.int 0, .ref h8]))]) [0] (by decide) rfl
    refine wGoi (wc := [(h1, .inr (5, [.int 0, .ref h8]))]) (wr := [(h0, .inr (0, [.ref h3, .ref h4, .ref h1, .ref h2, .ref h5, .ref h6, .ref h7, .int 0, .int 0, .int 0, .null])), (h2, .inl (K 4, 8, .inr (.inr (.inr (.inr (va_up (va_up (va_up (va_up (va_up (va_up (va_up (va_up (fun _ => none) 0 (some h9)) 1 (some h10)) 2 (some h11)) 3 (some h12)) 4 (some h13)) 5 (some h14)) 6 (some h15)) 7 (some h16)))))))]) (va_runV (As := []) (rest := []) ⟨hx, hb, hml, hown, hts⟩ (m_X6_isEmpty_0 l G K h1 h8 _) (cwV 0 hts (wGV t_ (mw (.methodLink RX8 170 yX6_isEmpty) (List.mem_of_getElem? (i := 5) rfl)) (mw (.instanceMethod yX6_isEmpty) (List.mem_of_getElem? (i := 6) rfl)) (mw (.selects RX6 yX6_isEmpty yX6_isEmpty) (List.mem_of_getElem? (i := 7) rfl)) (mw (.initialized RX6) (List.mem_of_getElem? (i := 8) rfl)) j_X6_isEmpty_0) rfl rfl rfl (by decide +kernel) ⟨Nat.le_of_ble_eq_true rfl, Nat.le_of_ble_eq_true rfl⟩) (wPV hK hE hPc hDc 5 0 rfl rfl) rfl rfl hl.1 rfl (lv_room (Nat.le_of_ble_eq_true rfl)) dX8_againstLay_17 ⟨Nat.le_of_ble_eq_true rfl, Nat.le_of_ble_eq_true rfl⟩) hP hD hS hA [0] [1, 2] rfl rfl rfl (by decide) (fun r u H locs hw hP hD hS => ?_)
    rcases hw with ⟨rfl, rfl⟩
    have hP : va_P G vwCl [(h0, .inr (0, [.ref h3, .ref h4, .ref h1, .ref h2, .ref h5, .ref h6, .ref h7, .int 0, .int 0, .int 0, .null])), (h2, .inl (K 4, 8, .inr (.inr (.inr (.inr (va_up (va_up (va_up (va_up (va_up (va_up (va_up (va_up (fun _ => none) 0 (some h9)) 1 (some h10)) 2 (some h11)) 3 (some h12)) 4 (some h13)) 5 (some h14)) 6 (some h15)) 7 (some h16))))))), (h1, .inr (5, [.int 0, .ref h8]))] _ := hP
    have hD : va_D A [(h0, .inr (0, [.ref h3, .ref h4, .ref h1, .ref h2, .ref h5, .ref h6, .ref h7, .int 0, .int 0, .int 0, .null])), (h2, .inl (K 4, 8, .inr (.inr (.inr (.inr (va_up (va_up (va_up (va_up (va_up (va_up (va_up (va_up (fun _ => none) 0 (some h9)) 1 (some h10)) 2 (some h11)) 3 (some h12)) 4 (some h13)) 5 (some h14)) 6 (some h15)) 7 (some h16))))))), (h1, .inr (5, [.int 0, .ref h8]))] := hD
    refine lv_if_ne (tgt := 30) hx hb dX8_againstLay_20 (by decide) (fun _ => ?_) (fun c_ => absurd c_ (by decide))
    refine lv_bipush (v := 11) hx hb dX8_againstLay_30 (by decide) ?_
    have hP9 := hP.sub (ws' := [(h0, .inr (0, [.ref h3, .ref h4, .ref h1, .ref h2, .ref h5, .ref h6, .ref h7, .int 0, .int 0, .int 0, .null])), (h1, .inr (5, [.int 0, .ref h8])), (h2, .inl (K 4, 8, .inr (.inr (.inr (.inr (va_up (va_up (va_up (va_up (va_up (va_up (va_up (va_up (fun _ => none) 0 (some h9)) 1 (some h10)) 2 (some h11)) 3 (some h12)) 4 (some h13)) 5 (some h14)) 6 (some h15)) 7 (some h16)))))))]) [0, 2, 1] rfl
    have hD9 := hD.sub (ws' := [(h0, .inr (0, [.ref h3, .ref h4, .ref h1, .ref h2, .ref h5, .ref h6, .ref h7, .int 0, .int 0, .int 0, .null])), (h1, .inr (5, [.int 0, .ref h8])), (h2, .inl (K 4, 8, .inr (.inr (.inr (.inr (va_up (va_up (va_up (va_up (va_up (va_up (va_up (va_up (fun _ => none) 0 (some h9)) 1 (some h10)) 2 (some h11)) 3 (some h12)) 4 (some h13)) 5 (some h14)) 6 (some h15)) 7 (some h16)))))))]) [0, 2, 1] (by decide) rfl
    exact W.iret (v := 11) hx hb hr (fun t ht hW => ⟨⟨11, _, rfl, Or.inr (⟨(by first | omega | decide | simp), rfl, rfl⟩), by rw [ht]; exact hP9, hD9⟩, hS.F ht⟩) hS.2.2 dX8_againstLay_32
  · have c6 := c_w
    have hP : va_P G vwCl [(h1, .inr (5, [.int 0, .ref h8])), (h0, .inr (0, [.ref h3, .ref h4, .ref h1, .ref h2, .ref h5, .ref h6, .ref h7, .int 0, .int 0, .int 0, .null])), (h2, .inl (K 4, 8, .inr (.inr (.inr (.inr (va_up (va_up (va_up (va_up (va_up (va_up (va_up (va_up (fun _ => none) 0 (some h9)) 1 (some h10)) 2 (some h11)) 3 (some h12)) 4 (some h13)) 5 (some h14)) 6 (some h15)) 7 (some h16)))))))] _ := hP
    have hD : va_D A [(h1, .inr (5, [.int 0, .ref h8])), (h0, .inr (0, [.ref h3, .ref h4, .ref h1, .ref h2, .ref h5, .ref h6, .ref h7, .int 0, .int 0, .int 0, .null])), (h2, .inl (K 4, 8, .inr (.inr (.inr (.inr (va_up (va_up (va_up (va_up (va_up (va_up (va_up (va_up (fun _ => none) 0 (some h9)) 1 (some h10)) 2 (some h11)) 3 (some h12)) 4 (some h13)) 5 (some h14)) 6 (some h15)) 7 (some h16)))))))] := hD
    refine wTop (v1 := .ref h13) rfl ?_
    obtain rfl : p0 = 4 := wIs (b := 4) (by decide) (by omega)
    have z_4 : (4 : Int32).toInt = 4 := by decide
    refine lv_astore_n (lv' := [(2, .ref h13), (0, .ref h0), (1, .int 4)]) hx hb dX8_againstLay_5 rfl hl (by decide) rfl (fun ls hl => ?_)
    refine lv_aload_n hx hb dX8_againstLay_6 rfl (lv_at hl 0 rfl) ?_
    refine lv_ifnonnull (tgt := 13) hx hb dX8_againstLay_7 (by decide) ?_
    refine lv_aload_n hx hb dX8_againstLay_13 rfl (lv_at hl 1 rfl) ?_
    refine va_get (D := G) (ci := 0) (v := .ref h1) (C := RX0) (T := TX0) (N := 11) hx hb hts iX0 hown hK hP 1 rfl rfl 2 (by decide) (hw (.fieldLink RX8 141 "MotionFloor$Assembly" "draft" "LMotionFloor$Place;") (List.mem_of_getElem? (i := 4) rfl)) (fun _ h9 => h9) rfl dX8_againstLay_14 ?_
    have hPc := hP.sub (ws' := [(h1, .inr (5, [.int 0, .ref h8]))]) [0] rfl
    have hDc := hD.sub (ws' := [(h1, .inr (5, [.int 0, .ref h8]))]) [0] (by decide) rfl
    refine wGoi (wc := [(h1, .inr (5, [.int 0, .ref h8]))]) (wr := [(h0, .inr (0, [.ref h3, .ref h4, .ref h1, .ref h2, .ref h5, .ref h6, .ref h7, .int 0, .int 0, .int 0, .null])), (h2, .inl (K 4, 8, .inr (.inr (.inr (.inr (va_up (va_up (va_up (va_up (va_up (va_up (va_up (va_up (fun _ => none) 0 (some h9)) 1 (some h10)) 2 (some h11)) 3 (some h12)) 4 (some h13)) 5 (some h14)) 6 (some h15)) 7 (some h16)))))))]) (va_runV (As := []) (rest := []) ⟨hx, hb, hml, hown, hts⟩ (m_X6_isEmpty_0 l G K h1 h8 _) (cwV 0 hts (wGV t_ (mw (.methodLink RX8 170 yX6_isEmpty) (List.mem_of_getElem? (i := 5) rfl)) (mw (.instanceMethod yX6_isEmpty) (List.mem_of_getElem? (i := 6) rfl)) (mw (.selects RX6 yX6_isEmpty yX6_isEmpty) (List.mem_of_getElem? (i := 7) rfl)) (mw (.initialized RX6) (List.mem_of_getElem? (i := 8) rfl)) j_X6_isEmpty_0) rfl rfl rfl (by decide +kernel) ⟨Nat.le_of_ble_eq_true rfl, Nat.le_of_ble_eq_true rfl⟩) (wPV hK hE hPc hDc 5 0 rfl rfl) rfl rfl hl.1 rfl (lv_room (Nat.le_of_ble_eq_true rfl)) dX8_againstLay_17 ⟨Nat.le_of_ble_eq_true rfl, Nat.le_of_ble_eq_true rfl⟩) hP hD hS hA [0] [1, 2] rfl rfl rfl (by decide) (fun r u H locs hw hP hD hS => ?_)
    rcases hw with ⟨rfl, rfl⟩
    have hP : va_P G vwCl [(h0, .inr (0, [.ref h3, .ref h4, .ref h1, .ref h2, .ref h5, .ref h6, .ref h7, .int 0, .int 0, .int 0, .null])), (h2, .inl (K 4, 8, .inr (.inr (.inr (.inr (va_up (va_up (va_up (va_up (va_up (va_up (va_up (va_up (fun _ => none) 0 (some h9)) 1 (some h10)) 2 (some h11)) 3 (some h12)) 4 (some h13)) 5 (some h14)) 6 (some h15)) 7 (some h16))))))), (h1, .inr (5, [.int 0, .ref h8]))] _ := hP
    have hD : va_D A [(h0, .inr (0, [.ref h3, .ref h4, .ref h1, .ref h2, .ref h5, .ref h6, .ref h7, .int 0, .int 0, .int 0, .null])), (h2, .inl (K 4, 8, .inr (.inr (.inr (.inr (va_up (va_up (va_up (va_up (va_up (va_up (va_up (va_up (fun _ => none) 0 (some h9)) 1 (some h10)) 2 (some h11)) 3 (some h12)) 4 (some h13)) 5 (some h14)) 6 (some h15)) 7 (some h16))))))), (h1, .inr (5, [.int 0, .ref h8]))] := hD
    refine lv_if_ne (tgt := 30) hx hb dX8_againstLay_20 (by decide) (fun _ => ?_) (fun c_ => absurd c_ (by decide))
    refine lv_bipush (v := 11) hx hb dX8_againstLay_30 (by decide) ?_
    have hP9 := hP.sub (ws' := [(h0, .inr (0, [.ref h3, .ref h4, .ref h1, .ref h2, .ref h5, .ref h6, .ref h7, .int 0, .int 0, .int 0, .null])), (h1, .inr (5, [.int 0, .ref h8])), (h2, .inl (K 4, 8, .inr (.inr (.inr (.inr (va_up (va_up (va_up (va_up (va_up (va_up (va_up (va_up (fun _ => none) 0 (some h9)) 1 (some h10)) 2 (some h11)) 3 (some h12)) 4 (some h13)) 5 (some h14)) 6 (some h15)) 7 (some h16)))))))]) [0, 2, 1] rfl
    have hD9 := hD.sub (ws' := [(h0, .inr (0, [.ref h3, .ref h4, .ref h1, .ref h2, .ref h5, .ref h6, .ref h7, .int 0, .int 0, .int 0, .null])), (h1, .inr (5, [.int 0, .ref h8])), (h2, .inl (K 4, 8, .inr (.inr (.inr (.inr (va_up (va_up (va_up (va_up (va_up (va_up (va_up (va_up (fun _ => none) 0 (some h9)) 1 (some h10)) 2 (some h11)) 3 (some h12)) 4 (some h13)) 5 (some h14)) 6 (some h15)) 7 (some h16)))))))]) [0, 2, 1] (by decide) rfl
    exact W.iret (v := 11) hx hb hr (fun t ht hW => ⟨⟨11, _, rfl, Or.inr (⟨(by first | omega | decide | simp), rfl, rfl⟩), by rw [ht]; exact hP9, hD9⟩, hS.F ht⟩) hS.2.2 dX8_againstLay_32
  · have c7 := c_w
    have hP : va_P G vwCl [(h1, .inr (5, [.int 0, .ref h8])), (h0, .inr (0, [.ref h3, .ref h4, .ref h1, .ref h2, .ref h5, .ref h6, .ref h7, .int 0, .int 0, .int 0, .null])), (h2, .inl (K 4, 8, .inr (.inr (.inr (.inr (va_up (va_up (va_up (va_up (va_up (va_up (va_up (va_up (fun _ => none) 0 (some h9)) 1 (some h10)) 2 (some h11)) 3 (some h12)) 4 (some h13)) 5 (some h14)) 6 (some h15)) 7 (some h16)))))))] _ := hP
    have hD : va_D A [(h1, .inr (5, [.int 0, .ref h8])), (h0, .inr (0, [.ref h3, .ref h4, .ref h1, .ref h2, .ref h5, .ref h6, .ref h7, .int 0, .int 0, .int 0, .null])), (h2, .inl (K 4, 8, .inr (.inr (.inr (.inr (va_up (va_up (va_up (va_up (va_up (va_up (va_up (va_up (fun _ => none) 0 (some h9)) 1 (some h10)) 2 (some h11)) 3 (some h12)) 4 (some h13)) 5 (some h14)) 6 (some h15)) 7 (some h16)))))))] := hD
    refine wTop (v1 := .ref h14) rfl ?_
    obtain rfl : p0 = 5 := wIs (b := 5) (by decide) (by omega)
    have z_5 : (5 : Int32).toInt = 5 := by decide
    refine lv_astore_n (lv' := [(2, .ref h14), (0, .ref h0), (1, .int 5)]) hx hb dX8_againstLay_5 rfl hl (by decide) rfl (fun ls hl => ?_)
    refine lv_aload_n hx hb dX8_againstLay_6 rfl (lv_at hl 0 rfl) ?_
    refine lv_ifnonnull (tgt := 13) hx hb dX8_againstLay_7 (by decide) ?_
    refine lv_aload_n hx hb dX8_againstLay_13 rfl (lv_at hl 1 rfl) ?_
    refine va_get (D := G) (ci := 0) (v := .ref h1) (C := RX0) (T := TX0) (N := 11) hx hb hts iX0 hown hK hP 1 rfl rfl 2 (by decide) (hw (.fieldLink RX8 141 "MotionFloor$Assembly" "draft" "LMotionFloor$Place;") (List.mem_of_getElem? (i := 4) rfl)) (fun _ h9 => h9) rfl dX8_againstLay_14 ?_
    have hPc := hP.sub (ws' := [(h1, .inr (5, [.int 0, .ref h8]))]) [0] rfl
    have hDc := hD.sub (ws' := [(h1, .inr (5, [.int 0, .ref h8]))]) [0] (by decide) rfl
    refine wGoi (wc := [(h1, .inr (5, [.int 0, .ref h8]))]) (wr := [(h0, .inr (0, [.ref h3, .ref h4, .ref h1, .ref h2, .ref h5, .ref h6, .ref h7, .int 0, .int 0, .int 0, .null])), (h2, .inl (K 4, 8, .inr (.inr (.inr (.inr (va_up (va_up (va_up (va_up (va_up (va_up (va_up (va_up (fun _ => none) 0 (some h9)) 1 (some h10)) 2 (some h11)) 3 (some h12)) 4 (some h13)) 5 (some h14)) 6 (some h15)) 7 (some h16)))))))]) (va_runV (As := []) (rest := []) ⟨hx, hb, hml, hown, hts⟩ (m_X6_isEmpty_0 l G K h1 h8 _) (cwV 0 hts (wGV t_ (mw (.methodLink RX8 170 yX6_isEmpty) (List.mem_of_getElem? (i := 5) rfl)) (mw (.instanceMethod yX6_isEmpty) (List.mem_of_getElem? (i := 6) rfl)) (mw (.selects RX6 yX6_isEmpty yX6_isEmpty) (List.mem_of_getElem? (i := 7) rfl)) (mw (.initialized RX6) (List.mem_of_getElem? (i := 8) rfl)) j_X6_isEmpty_0) rfl rfl rfl (by decide +kernel) ⟨Nat.le_of_ble_eq_true rfl, Nat.le_of_ble_eq_true rfl⟩) (wPV hK hE hPc hDc 5 0 rfl rfl) rfl rfl hl.1 rfl (lv_room (Nat.le_of_ble_eq_true rfl)) dX8_againstLay_17 ⟨Nat.le_of_ble_eq_true rfl, Nat.le_of_ble_eq_true rfl⟩) hP hD hS hA [0] [1, 2] rfl rfl rfl (by decide) (fun r u H locs hw hP hD hS => ?_)
    rcases hw with ⟨rfl, rfl⟩
    have hP : va_P G vwCl [(h0, .inr (0, [.ref h3, .ref h4, .ref h1, .ref h2, .ref h5, .ref h6, .ref h7, .int 0, .int 0, .int 0, .null])), (h2, .inl (K 4, 8, .inr (.inr (.inr (.inr (va_up (va_up (va_up (va_up (va_up (va_up (va_up (va_up (fun _ => none) 0 (some h9)) 1 (some h10)) 2 (some h11)) 3 (some h12)) 4 (some h13)) 5 (some h14)) 6 (some h15)) 7 (some h16))))))), (h1, .inr (5, [.int 0, .ref h8]))] _ := hP
    have hD : va_D A [(h0, .inr (0, [.ref h3, .ref h4, .ref h1, .ref h2, .ref h5, .ref h6, .ref h7, .int 0, .int 0, .int 0, .null])), (h2, .inl (K 4, 8, .inr (.inr (.inr (.inr (va_up (va_up (va_up (va_up (va_up (va_up (va_up (va_up (fun _ => none) 0 (some h9)) 1 (some h10)) 2 (some h11)) 3 (some h12)) 4 (some h13)) 5 (some h14)) 6 (some h15)) 7 (some h16))))))), (h1, .inr (5, [.int 0, .ref h8]))] := hD
    refine lv_if_ne (tgt := 30) hx hb dX8_againstLay_20 (by decide) (fun _ => ?_) (fun c_ => absurd c_ (by decide))
    refine lv_bipush (v := 11) hx hb dX8_againstLay_30 (by decide) ?_
    have hP9 := hP.sub (ws' := [(h0, .inr (0, [.ref h3, .ref h4, .ref h1, .ref h2, .ref h5, .ref h6, .ref h7, .int 0, .int 0, .int 0, .null])), (h1, .inr (5, [.int 0, .ref h8])), (h2, .inl (K 4, 8, .inr (.inr (.inr (.inr (va_up (va_up (va_up (va_up (va_up (va_up (va_up (va_up (fun _ => none) 0 (some h9)) 1 (some h10)) 2 (some h11)) 3 (some h12)) 4 (some h13)) 5 (some h14)) 6 (some h15)) 7 (some h16)))))))]) [0, 2, 1] rfl
    have hD9 := hD.sub (ws' := [(h0, .inr (0, [.ref h3, .ref h4, .ref h1, .ref h2, .ref h5, .ref h6, .ref h7, .int 0, .int 0, .int 0, .null])), (h1, .inr (5, [.int 0, .ref h8])), (h2, .inl (K 4, 8, .inr (.inr (.inr (.inr (va_up (va_up (va_up (va_up (va_up (va_up (va_up (va_up (fun _ => none) 0 (some h9)) 1 (some h10)) 2 (some h11)) 3 (some h12)) 4 (some h13)) 5 (some h14)) 6 (some h15)) 7 (some h16)))))))]) [0, 2, 1] (by decide) rfl
    exact W.iret (v := 11) hx hb hr (fun t ht hW => ⟨⟨11, _, rfl, Or.inr (⟨(by first | omega | decide | simp), rfl, rfl⟩), by rw [ht]; exact hP9, hD9⟩, hS.F ht⟩) hS.2.2 dX8_againstLay_32
  · have c8 := c_w
    have hP : va_P G vwCl [(h1, .inr (5, [.int 0, .ref h8])), (h0, .inr (0, [.ref h3, .ref h4, .ref h1, .ref h2, .ref h5, .ref h6, .ref h7, .int 0, .int 0, .int 0, .null])), (h2, .inl (K 4, 8, .inr (.inr (.inr (.inr (va_up (va_up (va_up (va_up (va_up (va_up (va_up (va_up (fun _ => none) 0 (some h9)) 1 (some h10)) 2 (some h11)) 3 (some h12)) 4 (some h13)) 5 (some h14)) 6 (some h15)) 7 (some h16)))))))] _ := hP
    have hD : va_D A [(h1, .inr (5, [.int 0, .ref h8])), (h0, .inr (0, [.ref h3, .ref h4, .ref h1, .ref h2, .ref h5, .ref h6, .ref h7, .int 0, .int 0, .int 0, .null])), (h2, .inl (K 4, 8, .inr (.inr (.inr (.inr (va_up (va_up (va_up (va_up (va_up (va_up (va_up (va_up (fun _ => none) 0 (some h9)) 1 (some h10)) 2 (some h11)) 3 (some h12)) 4 (some h13)) 5 (some h14)) 6 (some h15)) 7 (some h16)))))))] := hD
    refine wTop (v1 := .ref h15) rfl ?_
    obtain rfl : p0 = 6 := wIs (b := 6) (by decide) (by omega)
    have z_6 : (6 : Int32).toInt = 6 := by decide
    refine lv_astore_n (lv' := [(2, .ref h15), (0, .ref h0), (1, .int 6)]) hx hb dX8_againstLay_5 rfl hl (by decide) rfl (fun ls hl => ?_)
    refine lv_aload_n hx hb dX8_againstLay_6 rfl (lv_at hl 0 rfl) ?_
    refine lv_ifnonnull (tgt := 13) hx hb dX8_againstLay_7 (by decide) ?_
    refine lv_aload_n hx hb dX8_againstLay_13 rfl (lv_at hl 1 rfl) ?_
    refine va_get (D := G) (ci := 0) (v := .ref h1) (C := RX0) (T := TX0) (N := 11) hx hb hts iX0 hown hK hP 1 rfl rfl 2 (by decide) (hw (.fieldLink RX8 141 "MotionFloor$Assembly" "draft" "LMotionFloor$Place;") (List.mem_of_getElem? (i := 4) rfl)) (fun _ h9 => h9) rfl dX8_againstLay_14 ?_
    have hPc := hP.sub (ws' := [(h1, .inr (5, [.int 0, .ref h8]))]) [0] rfl
    have hDc := hD.sub (ws' := [(h1, .inr (5, [.int 0, .ref h8]))]) [0] (by decide) rfl
    refine wGoi (wc := [(h1, .inr (5, [.int 0, .ref h8]))]) (wr := [(h0, .inr (0, [.ref h3, .ref h4, .ref h1, .ref h2, .ref h5, .ref h6, .ref h7, .int 0, .int 0, .int 0, .null])), (h2, .inl (K 4, 8, .inr (.inr (.inr (.inr (va_up (va_up (va_up (va_up (va_up (va_up (va_up (va_up (fun _ => none) 0 (some h9)) 1 (some h10)) 2 (some h11)) 3 (some h12)) 4 (some h13)) 5 (some h14)) 6 (some h15)) 7 (some h16)))))))]) (va_runV (As := []) (rest := []) ⟨hx, hb, hml, hown, hts⟩ (m_X6_isEmpty_0 l G K h1 h8 _) (cwV 0 hts (wGV t_ (mw (.methodLink RX8 170 yX6_isEmpty) (List.mem_of_getElem? (i := 5) rfl)) (mw (.instanceMethod yX6_isEmpty) (List.mem_of_getElem? (i := 6) rfl)) (mw (.selects RX6 yX6_isEmpty yX6_isEmpty) (List.mem_of_getElem? (i := 7) rfl)) (mw (.initialized RX6) (List.mem_of_getElem? (i := 8) rfl)) j_X6_isEmpty_0) rfl rfl rfl (by decide +kernel) ⟨Nat.le_of_ble_eq_true rfl, Nat.le_of_ble_eq_true rfl⟩) (wPV hK hE hPc hDc 5 0 rfl rfl) rfl rfl hl.1 rfl (lv_room (Nat.le_of_ble_eq_true rfl)) dX8_againstLay_17 ⟨Nat.le_of_ble_eq_true rfl, Nat.le_of_ble_eq_true rfl⟩) hP hD hS hA [0] [1, 2] rfl rfl rfl (by decide) (fun r u H locs hw hP hD hS => ?_)
    rcases hw with ⟨rfl, rfl⟩
    have hP : va_P G vwCl [(h0, .inr (0, [.ref h3, .ref h4, .ref h1, .ref h2, .ref h5, .ref h6, .ref h7, .int 0, .int 0, .int 0, .null])), (h2, .inl (K 4, 8, .inr (.inr (.inr (.inr (va_up (va_up (va_up (va_up (va_up (va_up (va_up (va_up (fun _ => none) 0 (some h9)) 1 (some h10)) 2 (some h11)) 3 (some h12)) 4 (some h13)) 5 (some h14)) 6 (some h15)) 7 (some h16))))))), (h1, .inr (5, [.int 0, .ref h8]))] _ := hP
    have hD : va_D A [(h0, .inr (0, [.ref h3, .ref h4, .ref h1, .ref h2, .ref h5, .ref h6, .ref h7, .int 0, .int 0, .int 0, .null])), (h2, .inl (K 4, 8, .inr (.inr (.inr (.inr (va_up (va_up (va_up (va_up (va_up (va_up (va_up (va_up (fun _ => none) 0 (some h9)) 1 (some h10)) 2 (some h11)) 3 (some h12)) 4 (some h13)) 5 (some h14)) 6 (some h15)) 7 (some h16))))))), (h1, .inr (5, [.int 0, .ref h8]))] := hD
    refine lv_if_ne (tgt := 30) hx hb dX8_againstLay_20 (by decide) (fun _ => ?_) (fun c_ => absurd c_ (by decide))
    refine lv_bipush (v := 11) hx hb dX8_againstLay_30 (by decide) ?_
    have hP9 := hP.sub (ws' := [(h0, .inr (0, [.ref h3, .ref h4, .ref h1, .ref h2, .ref h5, .ref h6, .ref h7, .int 0, .int 0, .int 0, .null])), (h1, .inr (5, [.int 0, .ref h8])), (h2, .inl (K 4, 8, .inr (.inr (.inr (.inr (va_up (va_up (va_up (va_up (va_up (va_up (va_up (va_up (fun _ => none) 0 (some h9)) 1 (some h10)) 2 (some h11)) 3 (some h12)) 4 (some h13)) 5 (some h14)) 6 (some h15)) 7 (some h16)))))))]) [0, 2, 1] rfl
    have hD9 := hD.sub (ws' := [(h0, .inr (0, [.ref h3, .ref h4, .ref h1, .ref h2, .ref h5, .ref h6, .ref h7, .int 0, .int 0, .int 0, .null])), (h1, .inr (5, [.int 0, .ref h8])), (h2, .inl (K 4, 8, .inr (.inr (.inr (.inr (va_up (va_up (va_up (va_up (va_up (va_up (va_up (va_up (fun _ => none) 0 (some h9)) 1 (some h10)) 2 (some h11)) 3 (some h12)) 4 (some h13)) 5 (some h14)) 6 (some h15)) 7 (some h16)))))))]) [0, 2, 1] (by decide) rfl
    exact W.iret (v := 11) hx hb hr (fun t ht hW => ⟨⟨11, _, rfl, Or.inr (⟨(by first | omega | decide | simp), rfl, rfl⟩), by rw [ht]; exact hP9, hD9⟩, hS.F ht⟩) hS.2.2 dX8_againstLay_32
  · have c9 := c_w
    have hP : va_P G vwCl [(h1, .inr (5, [.int 0, .ref h8])), (h0, .inr (0, [.ref h3, .ref h4, .ref h1, .ref h2, .ref h5, .ref h6, .ref h7, .int 0, .int 0, .int 0, .null])), (h2, .inl (K 4, 8, .inr (.inr (.inr (.inr (va_up (va_up (va_up (va_up (va_up (va_up (va_up (va_up (fun _ => none) 0 (some h9)) 1 (some h10)) 2 (some h11)) 3 (some h12)) 4 (some h13)) 5 (some h14)) 6 (some h15)) 7 (some h16)))))))] _ := hP
    have hD : va_D A [(h1, .inr (5, [.int 0, .ref h8])), (h0, .inr (0, [.ref h3, .ref h4, .ref h1, .ref h2, .ref h5, .ref h6, .ref h7, .int 0, .int 0, .int 0, .null])), (h2, .inl (K 4, 8, .inr (.inr (.inr (.inr (va_up (va_up (va_up (va_up (va_up (va_up (va_up (va_up (fun _ => none) 0 (some h9)) 1 (some h10)) 2 (some h11)) 3 (some h12)) 4 (some h13)) 5 (some h14)) 6 (some h15)) 7 (some h16)))))))] := hD
    refine wTop (v1 := .ref h16) rfl ?_
    obtain rfl : p0 = 7 := wIs (b := 7) (by decide) (by omega)
    have z_7 : (7 : Int32).toInt = 7 := by decide
    refine lv_astore_n (lv' := [(2, .ref h16), (0, .ref h0), (1, .int 7)]) hx hb dX8_againstLay_5 rfl hl (by decide) rfl (fun ls hl => ?_)
    refine lv_aload_n hx hb dX8_againstLay_6 rfl (lv_at hl 0 rfl) ?_
    refine lv_ifnonnull (tgt := 13) hx hb dX8_againstLay_7 (by decide) ?_
    refine lv_aload_n hx hb dX8_againstLay_13 rfl (lv_at hl 1 rfl) ?_
    refine va_get (D := G) (ci := 0) (v := .ref h1) (C := RX0) (T := TX0) (N := 11) hx hb hts iX0 hown hK hP 1 rfl rfl 2 (by decide) (hw (.fieldLink RX8 141 "MotionFloor$Assembly" "draft" "LMotionFloor$Place;") (List.mem_of_getElem? (i := 4) rfl)) (fun _ h9 => h9) rfl dX8_againstLay_14 ?_
    have hPc := hP.sub (ws' := [(h1, .inr (5, [.int 0, .ref h8]))]) [0] rfl
    have hDc := hD.sub (ws' := [(h1, .inr (5, [.int 0, .ref h8]))]) [0] (by decide) rfl
    refine wGoi (wc := [(h1, .inr (5, [.int 0, .ref h8]))]) (wr := [(h0, .inr (0, [.ref h3, .ref h4, .ref h1, .ref h2, .ref h5, .ref h6, .ref h7, .int 0, .int 0, .int 0, .null])), (h2, .inl (K 4, 8, .inr (.inr (.inr (.inr (va_up (va_up (va_up (va_up (va_up (va_up (va_up (va_up (fun _ => none) 0 (some h9)) 1 (some h10)) 2 (some h11)) 3 (some h12)) 4 (some h13)) 5 (some h14)) 6 (some h15)) 7 (some h16)))))))]) (va_runV (As := []) (rest := []) ⟨hx, hb, hml, hown, hts⟩ (m_X6_isEmpty_0 l G K h1 h8 _) (cwV 0 hts (wGV t_ (mw (.methodLink RX8 170 yX6_isEmpty) (List.mem_of_getElem? (i := 5) rfl)) (mw (.instanceMethod yX6_isEmpty) (List.mem_of_getElem? (i := 6) rfl)) (mw (.selects RX6 yX6_isEmpty yX6_isEmpty) (List.mem_of_getElem? (i := 7) rfl)) (mw (.initialized RX6) (List.mem_of_getElem? (i := 8) rfl)) j_X6_isEmpty_0) rfl rfl rfl (by decide +kernel) ⟨Nat.le_of_ble_eq_true rfl, Nat.le_of_ble_eq_true rfl⟩) (wPV hK hE hPc hDc 5 0 rfl rfl) rfl rfl hl.1 rfl (lv_room (Nat.le_of_ble_eq_true rfl)) dX8_againstLay_17 ⟨Nat.le_of_ble_eq_true rfl, Nat.le_of_ble_eq_true rfl⟩) hP hD hS hA [0] [1, 2] rfl rfl rfl (by decide) (fun r u H locs hw hP hD hS => ?_)
    rcases hw with ⟨rfl, rfl⟩
    have hP : va_P G vwCl [(h0, .inr (0, [.ref h3, .ref h4, .ref h1, .ref h2, .ref h5, .ref h6, .ref h7, .int 0, .int 0, .int 0, .null])), (h2, .inl (K 4, 8, .inr (.inr (.inr (.inr (va_up (va_up (va_up (va_up (va_up (va_up (va_up (va_up (fun _ => none) 0 (some h9)) 1 (some h10)) 2 (some h11)) 3 (some h12)) 4 (some h13)) 5 (some h14)) 6 (some h15)) 7 (some h16))))))), (h1, .inr (5, [.int 0, .ref h8]))] _ := hP
    have hD : va_D A [(h0, .inr (0, [.ref h3, .ref h4, .ref h1, .ref h2, .ref h5, .ref h6, .ref h7, .int 0, .int 0, .int 0, .null])), (h2, .inl (K 4, 8, .inr (.inr (.inr (.inr (va_up (va_up (va_up (va_up (va_up (va_up (va_up (va_up (fun _ => none) 0 (some h9)) 1 (some h10)) 2 (some h11)) 3 (some h12)) 4 (some h13)) 5 (some h14)) 6 (some h15)) 7 (some h16))))))), (h1, .inr (5, [.int 0, .ref h8]))] := hD
    refine lv_if_ne (tgt := 30) hx hb dX8_againstLay_20 (by decide) (fun _ => ?_) (fun c_ => absurd c_ (by decide))
    refine lv_bipush (v := 11) hx hb dX8_againstLay_30 (by decide) ?_
    have hP9 := hP.sub (ws' := [(h0, .inr (0, [.ref h3, .ref h4, .ref h1, .ref h2, .ref h5, .ref h6, .ref h7, .int 0, .int 0, .int 0, .null])), (h1, .inr (5, [.int 0, .ref h8])), (h2, .inl (K 4, 8, .inr (.inr (.inr (.inr (va_up (va_up (va_up (va_up (va_up (va_up (va_up (va_up (fun _ => none) 0 (some h9)) 1 (some h10)) 2 (some h11)) 3 (some h12)) 4 (some h13)) 5 (some h14)) 6 (some h15)) 7 (some h16)))))))]) [0, 2, 1] rfl
    have hD9 := hD.sub (ws' := [(h0, .inr (0, [.ref h3, .ref h4, .ref h1, .ref h2, .ref h5, .ref h6, .ref h7, .int 0, .int 0, .int 0, .null])), (h1, .inr (5, [.int 0, .ref h8])), (h2, .inl (K 4, 8, .inr (.inr (.inr (.inr (va_up (va_up (va_up (va_up (va_up (va_up (va_up (va_up (fun _ => none) 0 (some h9)) 1 (some h10)) 2 (some h11)) 3 (some h12)) 4 (some h13)) 5 (some h14)) 6 (some h15)) 7 (some h16)))))))]) [0, 2, 1] (by decide) rfl
    exact W.iret (v := 11) hx hb hr (fun t ht hW => ⟨⟨11, _, rfl, Or.inr (⟨(by first | omega | decide | simp), rfl, rfl⟩), by rw [ht]; exact hP9, hD9⟩, hS.F ht⟩) hS.2.2 dX8_againstLay_32
def e_X8_againstOnPaper_3 : List Cond := [.methodLink RX8 70 yX8_againstLay, .static yX8_againstLay, .initialized RX8]
def v_X8_againstOnPaper_3 : List Cond := .code yX8_againstOnPaper cX8_againstOnPaper 6 (some .int) :: (e_X8_againstOnPaper_3 ++ (v_X8_againstLay_0 ++ []))
theorem te_X8_againstOnPaper_3 : GoodIn lw_tbl e_X8_againstOnPaper_3 := wGc z334 (wGc z333 (wGc z157 (wG0)))
theorem t_X8_againstOnPaper_3 : GoodIn lw_tbl v_X8_againstOnPaper_3 := wGc z241 (wGa te_X8_againstOnPaper_3 (wGa t_X8_againstLay_0 (wG0)))
set_option maxHeartbeats 4000000 in
set_option maxRecDepth 100000 in
theorem m_X8_againstOnPaper_3 (l : Launch) (G : va_G) (K : Nat → ClassId) (h0 h1 h2 h3 h4 h5 h6 h7 h8 h9 h10 h11 h12 h13 h14 h15 h16 : Nat) (p0 : Int32) (sz : Nat) : Met l yX8_againstOnPaper v_X8_againstOnPaper_3 ({ frames := 2, cells := 0, slots := 0, locals := 45 }) (va_Pc [.ref h0, .int 13, .int p0, .int 0, .int 0, .int 0] (wS G K sz [(h0, .inr (0, [.ref h3, .ref h4, .ref h1, .ref h2, .ref h5, .ref h6, .ref h7, .int 0, .int 0, .int 0, .null])), (h1, .inr (5, [.int 0, .ref h8])), (h2, .inl (K 4, 8, .inr (.inr (.inr (.inr (va_up (va_up (va_up (va_up (va_up (va_up (va_up (va_up (fun _ => none) 0 (some h9)) 1 (some h10)) 2 (some h11)) 3 (some h12)) 4 (some h13)) 5 (some h14)) 6 (some h15)) 7 (some h16)))))))])) (va_Qi (fun (r : Int32) (u : va_W) => ((((p0.toInt < 0 ∨ (p0.toInt ≥ 0 ∧ p0.toInt ≥ 8)))) ∧ r = 9 ∧ u = [(h0, .inr (0, [.ref h3, .ref h4, .ref h1, .ref h2, .ref h5, .ref h6, .ref h7, .int 0, .int 0, .int 0, .null])), (h1, .inr (5, [.int 0, .ref h8])), (h2, .inl (K 4, 8, .inr (.inr (.inr (.inr (va_up (va_up (va_up (va_up (va_up (va_up (va_up (va_up (fun _ => none) 0 (some h9)) 1 (some h10)) 2 (some h11)) 3 (some h12)) 4 (some h13)) 5 (some h14)) 6 (some h15)) 7 (some h16)))))))]) ∨ (((((p0.toInt ≥ 0 ∧ p0.toInt < 8 ∧ p0.toInt = 0)) ∨ ((p0.toInt ≥ 0 ∧ p0.toInt < 8 ∧ p0.toInt = 1)) ∨ ((p0.toInt ≥ 0 ∧ p0.toInt < 8 ∧ p0.toInt = 2)) ∨ ((p0.toInt ≥ 0 ∧ p0.toInt < 8 ∧ p0.toInt = 3)) ∨ ((p0.toInt ≥ 0 ∧ p0.toInt < 8 ∧ p0.toInt = 4)) ∨ ((p0.toInt ≥ 0 ∧ p0.toInt < 8 ∧ p0.toInt = 5)) ∨ ((p0.toInt ≥ 0 ∧ p0.toInt < 8 ∧ p0.toInt = 6)) ∨ ((p0.toInt ≥ 0 ∧ p0.toInt < 8 ∧ p0.toInt = 7)))) ∧ r = 11 ∧ u = [(h0, .inr (0, [.ref h3, .ref h4, .ref h1, .ref h2, .ref h5, .ref h6, .ref h7, .int 0, .int 0, .int 0, .null])), (h1, .inr (5, [.int 0, .ref h8])), (h2, .inl (K 4, 8, .inr (.inr (.inr (.inr (va_up (va_up (va_up (va_up (va_up (va_up (va_up (va_up (fun _ => none) 0 (some h9)) 1 (some h10)) 2 (some h11)) 3 (some h12)) 4 (some h13)) 5 (some h14)) 6 (some h15)) 7 (some h16)))))))])) (wB G (va_A [(h0, .inr (0, [.ref h3, .ref h4, .ref h1, .ref h2, .ref h5, .ref h6, .ref h7, .int 0, .int 0, .int 0, .null])), (h1, .inr (5, [.int 0, .ref h8])), (h2, .inl (K 4, 8, .inr (.inr (.inr (.inr (va_up (va_up (va_up (va_up (va_up (va_up (va_up (va_up (fun _ => none) 0 (some h9)) 1 (some h10)) 2 (some h11)) 3 (some h12)) 4 (some h13)) 5 (some h14)) 6 (some h15)) 7 (some h16)))))))] sz)) (va_A [(h0, .inr (0, [.ref h3, .ref h4, .ref h1, .ref h2, .ref h5, .ref h6, .ref h7, .int 0, .int 0, .int 0, .null])), (h1, .inr (5, [.int 0, .ref h8])), (h2, .inl (K 4, 8, .inr (.inr (.inr (.inr (va_up (va_up (va_up (va_up (va_up (va_up (va_up (va_up (fun _ => none) 0 (some h9)) 1 (some h10)) 2 (some h11)) 3 (some h12)) 4 (some h13)) 5 (some h14)) 6 (some h15)) 7 (some h16)))))))] sz)) 0 0 (va_A [(h0, .inr (0, [.ref h3, .ref h4, .ref h1, .ref h2, .ref h5, .ref h6, .ref h7, .int 0, .int 0, .int 0, .null])), (h1, .inr (5, [.int 0, .ref h8])), (h2, .inl (K 4, 8, .inr (.inr (.inr (.inr (va_up (va_up (va_up (va_up (va_up (va_up (va_up (va_up (fun _ => none) 0 (some h9)) 1 (some h10)) 2 (some h11)) 3 (some h12)) 4 (some h13)) 5 (some h14)) 6 (some h15)) 7 (some h16)))))))] sz) := by
  refine Met.ofW (cc := cX8_againstOnPaper) (maxL := 6) (ret := (some .int)) (by decide) rfl ?_
  intro p e s m args below meth c s₁ B hml hv
  obtain ⟨rfl, hsz, hP, hK, hD0, hE⟩ := hv
  have hx := B.exec
  have hb := B.bytes
  have hr := B.returns
  have hts := atoms_spec (ws := v_X8_againstOnPaper_3) B.pre
  have t_ := t_X8_againstOnPaper_3
  have mw : ∀ w ∈ e_X8_againstOnPaper_3, w ∈ v_X8_againstOnPaper_3 := fun w h => List.mem_cons_of_mem _ (List.mem_append_left _ h)
  have hw := fun w (h : w ∈ e_X8_againstOnPaper_3) => hts w (mw w h)
  have j_X8_againstLay_0 : ∀ w ∈ v_X8_againstLay_0, w ∈ v_X8_againstOnPaper_3 := fun w h => List.mem_cons_of_mem _ (List.mem_append_right _ (List.mem_append_left _ h))
  have hown : s.vm.findClass RX8 = some m.cls := findClass_of_methodNamed B.named
  have hlocks := B.notSynchronized
  subst hsz
  have hD := hD0.self (sz := s.heap.size)
  generalize hAe : va_A [(h0, .inr (0, [.ref h3, .ref h4, .ref h1, .ref h2, .ref h5, .ref h6, .ref h7, .int 0, .int 0, .int 0, .null])), (h1, .inr (5, [.int 0, .ref h8])), (h2, .inl (K 4, 8, .inr (.inr (.inr (.inr (va_up (va_up (va_up (va_up (va_up (va_up (va_up (va_up (fun _ => none) 0 (some h9)) 1 (some h10)) 2 (some h11)) 3 (some h12)) 4 (some h13)) 5 (some h14)) 6 (some h15)) 7 (some h16)))))))] s.heap.size = A at hD ⊢
  have hA : ∀ q : Nat, s.heap.size ≤ q → A q := fun q h => by rw [← hAe]; exact Or.inr h
  have hS : va_S A s.heap s.heap [] := va_S.rf
  have hP : va_P G vwCl [(h0, .inr (0, [.ref h3, .ref h4, .ref h1, .ref h2, .ref h5, .ref h6, .ref h7, .int 0, .int 0, .int 0, .null])), (h1, .inr (5, [.int 0, .ref h8])), (h2, .inl (K 4, 8, .inr (.inr (.inr (.inr (va_up (va_up (va_up (va_up (va_up (va_up (va_up (va_up (fun _ => none) 0 (some h9)) 1 (some h10)) 2 (some h11)) 3 (some h12)) 4 (some h13)) 5 (some h14)) 6 (some h15)) 7 (some h16)))))))] s.heap := hP
  have hl := lv_entry ([.ref h0, .int 13, .int p0, .int 0, .int 0, .int 0]) (n := 6) (Nat.le_of_ble_eq_true rfl)
  rw [lg_entry_eq]
  generalize (lg_sl ([.ref h0, .int 13, .int p0, .int 0, .int 0, .int 0]) ++ List.replicate (6 - (lg_sl ([.ref h0, .int 13, .int p0, .int 0, .int 0, .int 0])).length) Slot.unset).toArray = ls at hl ⊢
  have hl : lv_has ls 6 [(0, .ref h0), (1, .int 13), (2, .int p0), (3, .int 0), (4, .int 0), (5, .int 0)] := hl
  refine lv_iload_n hx hb dX8_againstOnPaper_0 rfl (lv_at hl 1 rfl) ?_
  refine lv_tableIn (tgt := 72) hx hb dX8_againstOnPaper_1 (by decide) (by decide) (by decide) (by decide) ?_
  refine lv_aload_n hx hb dX8_againstOnPaper_72 rfl (lv_at hl 0 rfl) ?_
  refine lv_iload_n hx hb dX8_againstOnPaper_73 rfl (lv_at hl 2 rfl) ?_
  have hPc := hP.sub (ws' := [(h0, .inr (0, [.ref h3, .ref h4, .ref h1, .ref h2, .ref h5, .ref h6, .ref h7, .int 0, .int 0, .int 0, .null])), (h1, .inr (5, [.int 0, .ref h8])), (h2, .inl (K 4, 8, .inr (.inr (.inr (.inr (va_up (va_up (va_up (va_up (va_up (va_up (va_up (va_up (fun _ => none) 0 (some h9)) 1 (some h10)) 2 (some h11)) 3 (some h12)) 4 (some h13)) 5 (some h14)) 6 (some h15)) 7 (some h16)))))))]) [0, 1, 2] rfl
  have hDc := hD.sub (ws' := [(h0, .inr (0, [.ref h3, .ref h4, .ref h1, .ref h2, .ref h5, .ref h6, .ref h7, .int 0, .int 0, .int 0, .null])), (h1, .inr (5, [.int 0, .ref h8])), (h2, .inl (K 4, 8, .inr (.inr (.inr (.inr (va_up (va_up (va_up (va_up (va_up (va_up (va_up (va_up (fun _ => none) 0 (some h9)) 1 (some h10)) 2 (some h11)) 3 (some h12)) 4 (some h13)) 5 (some h14)) 6 (some h15)) 7 (some h16)))))))]) [0, 1, 2] (by decide) rfl
  refine wGoi (wc := [(h0, .inr (0, [.ref h3, .ref h4, .ref h1, .ref h2, .ref h5, .ref h6, .ref h7, .int 0, .int 0, .int 0, .null])), (h1, .inr (5, [.int 0, .ref h8])), (h2, .inl (K 4, 8, .inr (.inr (.inr (.inr (va_up (va_up (va_up (va_up (va_up (va_up (va_up (va_up (fun _ => none) 0 (some h9)) 1 (some h10)) 2 (some h11)) 3 (some h12)) 4 (some h13)) 5 (some h14)) 6 (some h15)) 7 (some h16)))))))]) (wr := []) (va_runS (As := [.ref h0, .int p0]) (rest := []) ⟨hx, hb, hml, hown, hts⟩ (m_X8_againstLay_0 l G K h0 h1 h2 h3 h4 h5 h6 h7 h8 h9 h10 h11 h12 h13 h14 h15 h16 p0 _) (va_cwS 2 hts (wGS t_ (mw (.methodLink RX8 70 yX8_againstLay) (List.mem_of_getElem? (i := 0) rfl)) (mw (.static yX8_againstLay) (List.mem_of_getElem? (i := 1) rfl)) (mw (.initialized RX8) (List.mem_of_getElem? (i := 2) rfl)) j_X8_againstLay_0) rfl rfl rfl (by decide +kernel) ⟨Nat.le_of_ble_eq_true rfl, Nat.le_of_ble_eq_true rfl⟩) (wPS hK hE hPc hDc) rfl rfl hl.1 rfl (lv_room (Nat.le_of_ble_eq_true rfl)) dX8_againstOnPaper_74 ⟨Nat.le_of_ble_eq_true rfl, Nat.le_of_ble_eq_true rfl⟩) hP hD hS hA [0, 1, 2] [] rfl rfl rfl (by decide) (fun r u H locs hw hP hD hS => ?_)
  rcases hw with ⟨c_w, rfl, rfl⟩ | ⟨c_w, rfl, rfl⟩
  · have c1 := c_w
    have hP : va_P G vwCl [(h0, .inr (0, [.ref h3, .ref h4, .ref h1, .ref h2, .ref h5, .ref h6, .ref h7, .int 0, .int 0, .int 0, .null])), (h1, .inr (5, [.int 0, .ref h8])), (h2, .inl (K 4, 8, .inr (.inr (.inr (.inr (va_up (va_up (va_up (va_up (va_up (va_up (va_up (va_up (fun _ => none) 0 (some h9)) 1 (some h10)) 2 (some h11)) 3 (some h12)) 4 (some h13)) 5 (some h14)) 6 (some h15)) 7 (some h16)))))))] _ := hP
    have hD : va_D A [(h0, .inr (0, [.ref h3, .ref h4, .ref h1, .ref h2, .ref h5, .ref h6, .ref h7, .int 0, .int 0, .int 0, .null])), (h1, .inr (5, [.int 0, .ref h8])), (h2, .inl (K 4, 8, .inr (.inr (.inr (.inr (va_up (va_up (va_up (va_up (va_up (va_up (va_up (va_up (fun _ => none) 0 (some h9)) 1 (some h10)) 2 (some h11)) 3 (some h12)) 4 (some h13)) 5 (some h14)) 6 (some h15)) 7 (some h16)))))))] := hD
    have hP9 : va_P G vwCl [(h0, .inr (0, [.ref h3, .ref h4, .ref h1, .ref h2, .ref h5, .ref h6, .ref h7, .int 0, .int 0, .int 0, .null])), (h1, .inr (5, [.int 0, .ref h8])), (h2, .inl (K 4, 8, .inr (.inr (.inr (.inr (va_up (va_up (va_up (va_up (va_up (va_up (va_up (va_up (fun _ => none) 0 (some h9)) 1 (some h10)) 2 (some h11)) 3 (some h12)) 4 (some h13)) 5 (some h14)) 6 (some h15)) 7 (some h16)))))))] _ := hP
    have hD9 : va_D A [(h0, .inr (0, [.ref h3, .ref h4, .ref h1, .ref h2, .ref h5, .ref h6, .ref h7, .int 0, .int 0, .int 0, .null])), (h1, .inr (5, [.int 0, .ref h8])), (h2, .inl (K 4, 8, .inr (.inr (.inr (.inr (va_up (va_up (va_up (va_up (va_up (va_up (va_up (va_up (fun _ => none) 0 (some h9)) 1 (some h10)) 2 (some h11)) 3 (some h12)) 4 (some h13)) 5 (some h14)) 6 (some h15)) 7 (some h16)))))))] := hD
    exact W.iret (v := 9) hx hb hr (fun t ht hW => ⟨⟨9, _, rfl, Or.inl ⟨(by first | omega | decide | simp), rfl, rfl⟩, by rw [ht]; exact hP9, hD9⟩, hS.F ht⟩) hS.2.2 dX8_againstOnPaper_77
  · have c2 := c_w
    have hP : va_P G vwCl [(h0, .inr (0, [.ref h3, .ref h4, .ref h1, .ref h2, .ref h5, .ref h6, .ref h7, .int 0, .int 0, .int 0, .null])), (h1, .inr (5, [.int 0, .ref h8])), (h2, .inl (K 4, 8, .inr (.inr (.inr (.inr (va_up (va_up (va_up (va_up (va_up (va_up (va_up (va_up (fun _ => none) 0 (some h9)) 1 (some h10)) 2 (some h11)) 3 (some h12)) 4 (some h13)) 5 (some h14)) 6 (some h15)) 7 (some h16)))))))] _ := hP
    have hD : va_D A [(h0, .inr (0, [.ref h3, .ref h4, .ref h1, .ref h2, .ref h5, .ref h6, .ref h7, .int 0, .int 0, .int 0, .null])), (h1, .inr (5, [.int 0, .ref h8])), (h2, .inl (K 4, 8, .inr (.inr (.inr (.inr (va_up (va_up (va_up (va_up (va_up (va_up (va_up (va_up (fun _ => none) 0 (some h9)) 1 (some h10)) 2 (some h11)) 3 (some h12)) 4 (some h13)) 5 (some h14)) 6 (some h15)) 7 (some h16)))))))] := hD
    have hP9 : va_P G vwCl [(h0, .inr (0, [.ref h3, .ref h4, .ref h1, .ref h2, .ref h5, .ref h6, .ref h7, .int 0, .int 0, .int 0, .null])), (h1, .inr (5, [.int 0, .ref h8])), (h2, .inl (K 4, 8, .inr (.inr (.inr (.inr (va_up (va_up (va_up (va_up (va_up (va_up (va_up (va_up (fun _ => none) 0 (some h9)) 1 (some h10)) 2 (some h11)) 3 (some h12)) 4 (some h13)) 5 (some h14)) 6 (some h15)) 7 (some h16)))))))] _ := hP
    have hD9 : va_D A [(h0, .inr (0, [.ref h3, .ref h4, .ref h1, .ref h2, .ref h5, .ref h6, .ref h7, .int 0, .int 0, .int 0, .null])), (h1, .inr (5, [.int 0, .ref h8])), (h2, .inl (K 4, 8, .inr (.inr (.inr (.inr (va_up (va_up (va_up (va_up (va_up (va_up (va_up (va_up (fun _ => none) 0 (some h9)) 1 (some h10)) 2 (some h11)) 3 (some h12)) 4 (some h13)) 5 (some h14)) 6 (some h15)) 7 (some h16)))))))] := hD
    exact W.iret (v := 11) hx hb hr (fun t ht hW => ⟨⟨11, _, rfl, Or.inr (⟨(by first | omega | decide | simp), rfl, rfl⟩), by rw [ht]; exact hP9, hD9⟩, hS.F ht⟩) hS.2.2 dX8_againstOnPaper_77
def e_X8_against_12 : List Cond := [.methodLink RX8 15 yX8_againstOnPaper, .static yX8_againstOnPaper, .initialized RX8]
def v_X8_against_12 : List Cond := .code yX8_against cX8_against 7 (some .int) :: (e_X8_against_12 ++ (v_X8_againstOnPaper_3 ++ []))
theorem te_X8_against_12 : GoodIn lw_tbl e_X8_against_12 := wGc z243 (wGc z242 (wGc z157 (wG0)))
theorem t_X8_against_12 : GoodIn lw_tbl v_X8_against_12 := wGc z170 (wGa te_X8_against_12 (wGa t_X8_againstOnPaper_3 (wG0)))
set_option maxHeartbeats 4000000 in
set_option maxRecDepth 100000 in
theorem m_X8_against_12 (l : Launch) (G : va_G) (K : Nat → ClassId) (h0 h1 h2 h3 h4 h5 h6 h7 h8 h9 h10 h11 h12 h13 h14 h15 h16 : Nat) (p0 : Int32) (sz : Nat) : Met l yX8_against v_X8_against_12 ({ frames := 3, cells := 0, slots := 0, locals := 70 }) (va_Pc [.ref h0, .int 13, .int p0, .int 0, .int 0, .int 0] (wS G K sz [(h0, .inr (0, [.ref h3, .ref h4, .ref h1, .ref h2, .ref h5, .ref h6, .ref h7, .int 0, .int 0, .int 0, .null])), (h1, .inr (5, [.int 0, .ref h8])), (h2, .inl (K 4, 8, .inr (.inr (.inr (.inr (va_up (va_up (va_up (va_up (va_up (va_up (va_up (va_up (fun _ => none) 0 (some h9)) 1 (some h10)) 2 (some h11)) 3 (some h12)) 4 (some h13)) 5 (some h14)) 6 (some h15)) 7 (some h16)))))))])) (va_Qi (fun (r : Int32) (u : va_W) => (((((p0.toInt < 0 ∨ (p0.toInt ≥ 0 ∧ p0.toInt ≥ 8))))) ∧ r = 9 ∧ u = [(h0, .inr (0, [.ref h3, .ref h4, .ref h1, .ref h2, .ref h5, .ref h6, .ref h7, .int 0, .int 0, .int 0, .null])), (h1, .inr (5, [.int 0, .ref h8])), (h2, .inl (K 4, 8, .inr (.inr (.inr (.inr (va_up (va_up (va_up (va_up (va_up (va_up (va_up (va_up (fun _ => none) 0 (some h9)) 1 (some h10)) 2 (some h11)) 3 (some h12)) 4 (some h13)) 5 (some h14)) 6 (some h15)) 7 (some h16)))))))]) ∨ ((((((p0.toInt ≥ 0 ∧ p0.toInt < 8 ∧ p0.toInt = 0)) ∨ ((p0.toInt ≥ 0 ∧ p0.toInt < 8 ∧ p0.toInt = 1)) ∨ ((p0.toInt ≥ 0 ∧ p0.toInt < 8 ∧ p0.toInt = 2)) ∨ ((p0.toInt ≥ 0 ∧ p0.toInt < 8 ∧ p0.toInt = 3)) ∨ ((p0.toInt ≥ 0 ∧ p0.toInt < 8 ∧ p0.toInt = 4)) ∨ ((p0.toInt ≥ 0 ∧ p0.toInt < 8 ∧ p0.toInt = 5)) ∨ ((p0.toInt ≥ 0 ∧ p0.toInt < 8 ∧ p0.toInt = 6)) ∨ ((p0.toInt ≥ 0 ∧ p0.toInt < 8 ∧ p0.toInt = 7))))) ∧ r = 11 ∧ u = [(h0, .inr (0, [.ref h3, .ref h4, .ref h1, .ref h2, .ref h5, .ref h6, .ref h7, .int 0, .int 0, .int 0, .null])), (h1, .inr (5, [.int 0, .ref h8])), (h2, .inl (K 4, 8, .inr (.inr (.inr (.inr (va_up (va_up (va_up (va_up (va_up (va_up (va_up (va_up (fun _ => none) 0 (some h9)) 1 (some h10)) 2 (some h11)) 3 (some h12)) 4 (some h13)) 5 (some h14)) 6 (some h15)) 7 (some h16)))))))])) (wB G (va_A [(h0, .inr (0, [.ref h3, .ref h4, .ref h1, .ref h2, .ref h5, .ref h6, .ref h7, .int 0, .int 0, .int 0, .null])), (h1, .inr (5, [.int 0, .ref h8])), (h2, .inl (K 4, 8, .inr (.inr (.inr (.inr (va_up (va_up (va_up (va_up (va_up (va_up (va_up (va_up (fun _ => none) 0 (some h9)) 1 (some h10)) 2 (some h11)) 3 (some h12)) 4 (some h13)) 5 (some h14)) 6 (some h15)) 7 (some h16)))))))] sz)) (va_A [(h0, .inr (0, [.ref h3, .ref h4, .ref h1, .ref h2, .ref h5, .ref h6, .ref h7, .int 0, .int 0, .int 0, .null])), (h1, .inr (5, [.int 0, .ref h8])), (h2, .inl (K 4, 8, .inr (.inr (.inr (.inr (va_up (va_up (va_up (va_up (va_up (va_up (va_up (va_up (fun _ => none) 0 (some h9)) 1 (some h10)) 2 (some h11)) 3 (some h12)) 4 (some h13)) 5 (some h14)) 6 (some h15)) 7 (some h16)))))))] sz)) 0 0 (va_A [(h0, .inr (0, [.ref h3, .ref h4, .ref h1, .ref h2, .ref h5, .ref h6, .ref h7, .int 0, .int 0, .int 0, .null])), (h1, .inr (5, [.int 0, .ref h8])), (h2, .inl (K 4, 8, .inr (.inr (.inr (.inr (va_up (va_up (va_up (va_up (va_up (va_up (va_up (va_up (fun _ => none) 0 (some h9)) 1 (some h10)) 2 (some h11)) 3 (some h12)) 4 (some h13)) 5 (some h14)) 6 (some h15)) 7 (some h16)))))))] sz) := by
  refine Met.ofW (cc := cX8_against) (maxL := 7) (ret := (some .int)) (by decide) rfl ?_
  intro p e s m args below meth c s₁ B hml hv
  obtain ⟨rfl, hsz, hP, hK, hD0, hE⟩ := hv
  have hx := B.exec
  have hb := B.bytes
  have hr := B.returns
  have hts := atoms_spec (ws := v_X8_against_12) B.pre
  have t_ := t_X8_against_12
  have mw : ∀ w ∈ e_X8_against_12, w ∈ v_X8_against_12 := fun w h => List.mem_cons_of_mem _ (List.mem_append_left _ h)
  have hw := fun w (h : w ∈ e_X8_against_12) => hts w (mw w h)
  have j_X8_againstOnPaper_3 : ∀ w ∈ v_X8_againstOnPaper_3, w ∈ v_X8_against_12 := fun w h => List.mem_cons_of_mem _ (List.mem_append_right _ (List.mem_append_left _ h))
  have hown : s.vm.findClass RX8 = some m.cls := findClass_of_methodNamed B.named
  have hlocks := B.notSynchronized
  subst hsz
  have hD := hD0.self (sz := s.heap.size)
  generalize hAe : va_A [(h0, .inr (0, [.ref h3, .ref h4, .ref h1, .ref h2, .ref h5, .ref h6, .ref h7, .int 0, .int 0, .int 0, .null])), (h1, .inr (5, [.int 0, .ref h8])), (h2, .inl (K 4, 8, .inr (.inr (.inr (.inr (va_up (va_up (va_up (va_up (va_up (va_up (va_up (va_up (fun _ => none) 0 (some h9)) 1 (some h10)) 2 (some h11)) 3 (some h12)) 4 (some h13)) 5 (some h14)) 6 (some h15)) 7 (some h16)))))))] s.heap.size = A at hD ⊢
  have hA : ∀ q : Nat, s.heap.size ≤ q → A q := fun q h => by rw [← hAe]; exact Or.inr h
  have hS : va_S A s.heap s.heap [] := va_S.rf
  have hP : va_P G vwCl [(h0, .inr (0, [.ref h3, .ref h4, .ref h1, .ref h2, .ref h5, .ref h6, .ref h7, .int 0, .int 0, .int 0, .null])), (h1, .inr (5, [.int 0, .ref h8])), (h2, .inl (K 4, 8, .inr (.inr (.inr (.inr (va_up (va_up (va_up (va_up (va_up (va_up (va_up (va_up (fun _ => none) 0 (some h9)) 1 (some h10)) 2 (some h11)) 3 (some h12)) 4 (some h13)) 5 (some h14)) 6 (some h15)) 7 (some h16)))))))] s.heap := hP
  have hl := lv_entry ([.ref h0, .int 13, .int p0, .int 0, .int 0, .int 0]) (n := 7) (Nat.le_of_ble_eq_true rfl)
  rw [lg_entry_eq]
  generalize (lg_sl ([.ref h0, .int 13, .int p0, .int 0, .int 0, .int 0]) ++ List.replicate (7 - (lg_sl ([.ref h0, .int 13, .int p0, .int 0, .int 0, .int 0])).length) Slot.unset).toArray = ls at hl ⊢
  have hl : lv_has ls 7 [(0, .ref h0), (1, .int 13), (2, .int p0), (3, .int 0), (4, .int 0), (5, .int 0)] := hl
  refine lv_iload_n hx hb dX8_against_0 rfl (lv_at hl 1 rfl) ?_
  refine lv_bipush (v := 9) hx hb dX8_against_1 (by decide) ?_
  refine lv_icmp_gt (tgt := 18) hx hb dX8_against_3 (by decide) (fun _ => ?_) (fun c_ => absurd c_ (by decide))
  refine lv_iload_n hx hb dX8_against_18 rfl (lv_at hl 1 rfl) ?_
  refine lv_bipush (v := 14) hx hb dX8_against_19 (by decide) ?_
  refine lv_icmp_gt (tgt := 40) hx hb dX8_against_21 (by decide) (fun c_ => absurd c_ (by decide)) (fun _ => ?_)
  refine lv_aload_n hx hb dX8_against_24 rfl (lv_at hl 0 rfl) ?_
  refine lv_iload_n hx hb dX8_against_25 rfl (lv_at hl 1 rfl) ?_
  refine lv_iload_n hx hb dX8_against_26 rfl (lv_at hl 2 rfl) ?_
  refine lv_iload_n hx hb dX8_against_27 rfl (lv_at hl 3 rfl) ?_
  refine lv_iload hx hb dX8_against_28 (lv_at hl 4 rfl) ?_
  refine lv_iload hx hb dX8_against_30 (lv_at hl 5 rfl) ?_
  have hPc := hP.sub (ws' := [(h0, .inr (0, [.ref h3, .ref h4, .ref h1, .ref h2, .ref h5, .ref h6, .ref h7, .int 0, .int 0, .int 0, .null])), (h1, .inr (5, [.int 0, .ref h8])), (h2, .inl (K 4, 8, .inr (.inr (.inr (.inr (va_up (va_up (va_up (va_up (va_up (va_up (va_up (va_up (fun _ => none) 0 (some h9)) 1 (some h10)) 2 (some h11)) 3 (some h12)) 4 (some h13)) 5 (some h14)) 6 (some h15)) 7 (some h16)))))))]) [0, 1, 2] rfl
  have hDc := hD.sub (ws' := [(h0, .inr (0, [.ref h3, .ref h4, .ref h1, .ref h2, .ref h5, .ref h6, .ref h7, .int 0, .int 0, .int 0, .null])), (h1, .inr (5, [.int 0, .ref h8])), (h2, .inl (K 4, 8, .inr (.inr (.inr (.inr (va_up (va_up (va_up (va_up (va_up (va_up (va_up (va_up (fun _ => none) 0 (some h9)) 1 (some h10)) 2 (some h11)) 3 (some h12)) 4 (some h13)) 5 (some h14)) 6 (some h15)) 7 (some h16)))))))]) [0, 1, 2] (by decide) rfl
  refine wGoi (wc := [(h0, .inr (0, [.ref h3, .ref h4, .ref h1, .ref h2, .ref h5, .ref h6, .ref h7, .int 0, .int 0, .int 0, .null])), (h1, .inr (5, [.int 0, .ref h8])), (h2, .inl (K 4, 8, .inr (.inr (.inr (.inr (va_up (va_up (va_up (va_up (va_up (va_up (va_up (va_up (fun _ => none) 0 (some h9)) 1 (some h10)) 2 (some h11)) 3 (some h12)) 4 (some h13)) 5 (some h14)) 6 (some h15)) 7 (some h16)))))))]) (wr := []) (va_runS (As := [.ref h0, .int 13, .int p0, .int 0, .int 0, .int 0]) (rest := []) ⟨hx, hb, hml, hown, hts⟩ (m_X8_againstOnPaper_3 l G K h0 h1 h2 h3 h4 h5 h6 h7 h8 h9 h10 h11 h12 h13 h14 h15 h16 p0 _) (va_cwS 6 hts (wGS t_ (mw (.methodLink RX8 15 yX8_againstOnPaper) (List.mem_of_getElem? (i := 0) rfl)) (mw (.static yX8_againstOnPaper) (List.mem_of_getElem? (i := 1) rfl)) (mw (.initialized RX8) (List.mem_of_getElem? (i := 2) rfl)) j_X8_againstOnPaper_3) rfl rfl rfl (by decide +kernel) ⟨Nat.le_of_ble_eq_true rfl, Nat.le_of_ble_eq_true rfl⟩) (wPS hK hE hPc hDc) rfl rfl hl.1 rfl (lv_room (Nat.le_of_ble_eq_true rfl)) dX8_against_32 ⟨Nat.le_of_ble_eq_true rfl, Nat.le_of_ble_eq_true rfl⟩) hP hD hS hA [0, 1, 2] [] rfl rfl rfl (by decide) (fun r u H locs hw hP hD hS => ?_)
  rcases hw with ⟨c_w, rfl, rfl⟩ | ⟨c_w, rfl, rfl⟩
  · have c1 := c_w
    have hP : va_P G vwCl [(h0, .inr (0, [.ref h3, .ref h4, .ref h1, .ref h2, .ref h5, .ref h6, .ref h7, .int 0, .int 0, .int 0, .null])), (h1, .inr (5, [.int 0, .ref h8])), (h2, .inl (K 4, 8, .inr (.inr (.inr (.inr (va_up (va_up (va_up (va_up (va_up (va_up (va_up (va_up (fun _ => none) 0 (some h9)) 1 (some h10)) 2 (some h11)) 3 (some h12)) 4 (some h13)) 5 (some h14)) 6 (some h15)) 7 (some h16)))))))] _ := hP
    have hD : va_D A [(h0, .inr (0, [.ref h3, .ref h4, .ref h1, .ref h2, .ref h5, .ref h6, .ref h7, .int 0, .int 0, .int 0, .null])), (h1, .inr (5, [.int 0, .ref h8])), (h2, .inl (K 4, 8, .inr (.inr (.inr (.inr (va_up (va_up (va_up (va_up (va_up (va_up (va_up (va_up (fun _ => none) 0 (some h9)) 1 (some h10)) 2 (some h11)) 3 (some h12)) 4 (some h13)) 5 (some h14)) 6 (some h15)) 7 (some h16)))))))] := hD
    refine lv_istore (lv' := [(6, .int 9), (0, .ref h0), (1, .int 13), (2, .int p0), (3, .int 0), (4, .int 0), (5, .int 0)]) hx hb dX8_against_35 hl (by decide) rfl (fun ls hl => ?_)
    refine lv_goto (tgt := 49) hx hb dX8_against_37 (by decide) ?_
    refine lv_iload hx hb dX8_against_49 (lv_at hl 0 rfl) ?_
    refine lv_if_ne (tgt := 69) hx hb dX8_against_51 (by decide) (fun _ => ?_) (fun c_ => absurd c_ (by decide))
    refine lv_iload hx hb dX8_against_69 (lv_at hl 0 rfl) ?_
    have hP9 : va_P G vwCl [(h0, .inr (0, [.ref h3, .ref h4, .ref h1, .ref h2, .ref h5, .ref h6, .ref h7, .int 0, .int 0, .int 0, .null])), (h1, .inr (5, [.int 0, .ref h8])), (h2, .inl (K 4, 8, .inr (.inr (.inr (.inr (va_up (va_up (va_up (va_up (va_up (va_up (va_up (va_up (fun _ => none) 0 (some h9)) 1 (some h10)) 2 (some h11)) 3 (some h12)) 4 (some h13)) 5 (some h14)) 6 (some h15)) 7 (some h16)))))))] _ := hP
    have hD9 : va_D A [(h0, .inr (0, [.ref h3, .ref h4, .ref h1, .ref h2, .ref h5, .ref h6, .ref h7, .int 0, .int 0, .int 0, .null])), (h1, .inr (5, [.int 0, .ref h8])), (h2, .inl (K 4, 8, .inr (.inr (.inr (.inr (va_up (va_up (va_up (va_up (va_up (va_up (va_up (va_up (fun _ => none) 0 (some h9)) 1 (some h10)) 2 (some h11)) 3 (some h12)) 4 (some h13)) 5 (some h14)) 6 (some h15)) 7 (some h16)))))))] := hD
    exact W.iret (v := 9) hx hb hr (fun t ht hW => ⟨⟨9, _, rfl, Or.inl ⟨(by first | omega | decide | simp), rfl, rfl⟩, by rw [ht]; exact hP9, hD9⟩, hS.F ht⟩) hS.2.2 dX8_against_71
  · have c2 := c_w
    have hP : va_P G vwCl [(h0, .inr (0, [.ref h3, .ref h4, .ref h1, .ref h2, .ref h5, .ref h6, .ref h7, .int 0, .int 0, .int 0, .null])), (h1, .inr (5, [.int 0, .ref h8])), (h2, .inl (K 4, 8, .inr (.inr (.inr (.inr (va_up (va_up (va_up (va_up (va_up (va_up (va_up (va_up (fun _ => none) 0 (some h9)) 1 (some h10)) 2 (some h11)) 3 (some h12)) 4 (some h13)) 5 (some h14)) 6 (some h15)) 7 (some h16)))))))] _ := hP
    have hD : va_D A [(h0, .inr (0, [.ref h3, .ref h4, .ref h1, .ref h2, .ref h5, .ref h6, .ref h7, .int 0, .int 0, .int 0, .null])), (h1, .inr (5, [.int 0, .ref h8])), (h2, .inl (K 4, 8, .inr (.inr (.inr (.inr (va_up (va_up (va_up (va_up (va_up (va_up (va_up (va_up (fun _ => none) 0 (some h9)) 1 (some h10)) 2 (some h11)) 3 (some h12)) 4 (some h13)) 5 (some h14)) 6 (some h15)) 7 (some h16)))))))] := hD
    refine lv_istore (lv' := [(6, .int 11), (0, .ref h0), (1, .int 13), (2, .int p0), (3, .int 0), (4, .int 0), (5, .int 0)]) hx hb dX8_against_35 hl (by decide) rfl (fun ls hl => ?_)
    refine lv_goto (tgt := 49) hx hb dX8_against_37 (by decide) ?_
    refine lv_iload hx hb dX8_against_49 (lv_at hl 0 rfl) ?_
    refine lv_if_ne (tgt := 69) hx hb dX8_against_51 (by decide) (fun _ => ?_) (fun c_ => absurd c_ (by decide))
    refine lv_iload hx hb dX8_against_69 (lv_at hl 0 rfl) ?_
    have hP9 : va_P G vwCl [(h0, .inr (0, [.ref h3, .ref h4, .ref h1, .ref h2, .ref h5, .ref h6, .ref h7, .int 0, .int 0, .int 0, .null])), (h1, .inr (5, [.int 0, .ref h8])), (h2, .inl (K 4, 8, .inr (.inr (.inr (.inr (va_up (va_up (va_up (va_up (va_up (va_up (va_up (va_up (fun _ => none) 0 (some h9)) 1 (some h10)) 2 (some h11)) 3 (some h12)) 4 (some h13)) 5 (some h14)) 6 (some h15)) 7 (some h16)))))))] _ := hP
    have hD9 : va_D A [(h0, .inr (0, [.ref h3, .ref h4, .ref h1, .ref h2, .ref h5, .ref h6, .ref h7, .int 0, .int 0, .int 0, .null])), (h1, .inr (5, [.int 0, .ref h8])), (h2, .inl (K 4, 8, .inr (.inr (.inr (.inr (va_up (va_up (va_up (va_up (va_up (va_up (va_up (va_up (fun _ => none) 0 (some h9)) 1 (some h10)) 2 (some h11)) 3 (some h12)) 4 (some h13)) 5 (some h14)) 6 (some h15)) 7 (some h16)))))))] := hD
    exact W.iret (v := 11) hx hb hr (fun t ht hW => ⟨⟨11, _, rfl, Or.inr (⟨(by first | omega | decide | simp), rfl, rfl⟩), by rw [ht]; exact hP9, hD9⟩, hS.F ht⟩) hS.2.2 dX8_against_71
